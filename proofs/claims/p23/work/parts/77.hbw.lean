/-! ===== by hand: checkIndex, done, worth ===== -/
def hb_kt (ty : Nat → Option Nat) (ρ : List Value) : List se_D → List Value → Prop
  | [], [] => True
  | d :: ds, w :: ws => se_dok ty ρ d w ∧ hb_kt ty ρ ds ws
  | _, _ => False
theorem hb_kt_at {ty : Nat → Option Nat} {ρ : List Value} : ∀ {ds : List se_D} {ws : List Value}, hb_kt ty ρ ds ws → ws.length = ds.length ∧ ∀ (k : Nat) (d : se_D), ds[k]? = some d → ∃ w, ws[k]? = some w ∧ se_dok ty ρ d w
  | [], [], _ => ⟨rfl, fun k d h => by simp at h⟩
  | d :: ds, w :: ws, h => by
    obtain ⟨h1, h3⟩ := h
    obtain ⟨g1, g2⟩ := hb_kt_at h3
    refine ⟨by simp [g1], fun k e he => ?_⟩
    cases k with
    | zero =>
      simp at he
      subst he
      exact ⟨w, rfl, h1⟩
    | succ k =>
      simp at he
      exact g2 k e he
  | [], _ :: _, h => h.elim
  | _ :: _, [], h => h.elim
theorem hb_env2 {ty : Nat → Option Nat} {ρ : List Value} {ds : List se_D} (h : hb_kt ty ρ ds ρ) : se_env ty ρ ds := hb_kt_at h
theorem hb_op1 (a b : Int) : se_opv 1 (hb_z a) (hb_z b) = some (hb_z (a + b)) := by
  show some (Value.int (Int32.ofInt a + Int32.ofInt b)) = _
  rw [← Int32.ofInt_add]
  rfl
theorem hb_mfi (t : mm_Mt) : mm_fi t = mm_fi t := rfl
section HC
variable {ty : Nat → Option Nat} {kx : Nat} {zs : List mm_Zt} {J : List mm_C → Prop} {Q : mm_S → Prop} {d : Nat}
theorem hc_fi145 : (mm_mths[145]?).map mm_fi = some (sx_fi 145) := rfl
theorem hc_cal {a b v : Value} {mem : List mm_C} : mm_cal (sx_fi 144).1 (.invokestatic 1059) 3 [v, b, a] mem = some (145, [a, b, v], []) := rfl
theorem sm_h0 (hz : ∃ tz, zs.find? (fun t => decide (t.1 = "jdk/internal/util/Preconditions" ∧ t.2.1 = "SIOOBE_FORMATTER" ∧ t.2.2.1 = "Ljava/util/function/BiFunction;")) = some tz ∧ tz.2.2.2.category = 1) : se_Met ty se_tt J kx zs sc_h0 := by
  intro d t ρ As m0 hd ht he hgl hM hP htm hJm
  have hd : 13 ≤ d := hd
  have ht : mm_mths[144]? = some t := ht
  obtain ⟨tz, hz, hcat⟩ := hz
  obtain ⟨w, w1, w2⟩ := he.2 0 _ rfl
  obtain ⟨x, rfl, a1, a2⟩ := w2.1
  obtain ⟨w, u1, u2⟩ := he.2 1 _ rfl
  obtain ⟨y, rfl, b1, b2⟩ := u2.1
  have hρ := hb_l2 (show ρ.length = 2 from he.1) w1 u1
  subst hρ
  obtain ⟨x0, x1, x2⟩ := hgl 0 (1, 0, 0) rfl
  rw [se_v_one w1] at x2
  cases x2
  obtain ⟨y0, y1, y2⟩ := hgl 1 (1, 1, 0) rfl
  rw [se_v_one u1] at y2
  cases y2
  obtain ⟨a, b, p1, p2, p3⟩ := hP _ List.mem_cons_self
  rw [se_v_one w1] at p1
  rw [se_v_one u1] at p2
  cases p1
  cases p2
  have hlt : x < y := of_decide_eq_true p3
  have hfi : sx_fi 144 = mm_fi t := sx_cods_mths ht
  obtain ⟨t2, ht2⟩ : ∃ t2, mm_mths[145]? = some t2 := ⟨_, rfl⟩
  have hfi2 : sx_fi 145 = mm_fi t2 := sx_cods_mths ht2
  have hb2 : (mm_mths[145]?).map (fun t => (t.2.2.2.1, t.2.2.2.2.1)) = some (3, some .int) := rfl
  rw [ht2] at hb2
  have hb3 := Option.some.inj hb2
  have hmax : t2.2.2.2.1 = 3 := congrArg Prod.fst hb3
  have hret2 : t2.2.2.2.2.1 = some .int := congrArg Prod.snd hb3
  have hret : t.2.2.2.2.1 = none := by
    have h : (mm_mths[144]?).map (fun t => t.2.2.2.2.1) = some none := rfl
    rw [ht] at h
    exact Option.some.inj h
  obtain ⟨d', rfl⟩ : ∃ d', d = d' + 1 := ⟨d - 1, by omega⟩
  have hT : mm_T kx zs (se_Q ty se_tt J sc_h0 t [.int x, .int y] m0) [] (d' + 1) (sx_fi 144) (mm_ent 144 As m0) := by
    refine mm_T_step (σ' := (1, lv_args 0 As, [.int x], m0, (mm_bud 144).1, (mm_bud 144).2)) hd_144_0 rfl (by simp [mm_ent, mm_stp, mm_pure, mm_ldi, x1]) ?_
    refine mm_T_step (σ' := (2, lv_args 0 As, [.int y, .int x], m0, (mm_bud 144).1, (mm_bud 144).2)) hd_144_1 rfl (by simp [mm_stp, mm_pure, mm_ldi, y1]) ?_
    refine mm_T_step (σ' := (5, lv_args 0 As, [tz.2.2.2, .int y, .int x], m0, (mm_bud 144).1, (mm_bud 144).2)) hd_144_2 rfl ?_ ?_
    · rw [mm_stp_m rfl]
      unfold mm_mem
      dsimp only
      unfold mm_getstS
      dsimp only
      rw [show mm_look (sx_fi 144).1 1053 = some (1053, 10, 3, 0, 0, 5051) from rfl]
      dsimp only
      rw [show mm_sts[3]? = some ("jdk/internal/util/Preconditions", "SIOOBE_FORMATTER", "Ljava/util/function/BiFunction;") from rfl]
      dsimp only
      rw [hz]
      dsimp only
      exact if_pos ⟨rfl, rfl, Or.inl rfl⟩
    generalize tz.2.2.2 = vz at hcat ⊢
    have l0 : mm_lget (lv_args 0 [.int x, .int y, vz]) 0 = some (.int x) := rfl
    have l1 : mm_lget (lv_args 0 [.int x, .int y, vz]) 1 = some (.int y) := rfl
    refine mm_T_call (t := t2) hd_144_5 rfl rfl hc_cal ht2 ⟨?_, Nat.le_refl 0, Nat.le_refl 0⟩ ?_
    · rw [hmax]
      show ([Slot.val (Value.int x)] ++ ([Slot.val (Value.int y)] ++ ((if vz.category = 2 then [Slot.val vz, Slot.second] else [Slot.val vz]) ++ []))).length ≤ 3
      rw [if_neg (by rw [hcat]; decide)]
      exact Nat.le_refl 3
    rw [← hfi2]
    have a1 : (0 : Int) ≤ x.toInt := a1
    have q1 : mm_P1 .lt x = false := decide_eq_false (fun h => by
      rw [Int32.lt_iff_toInt_lt] at h
      have : (0 : Int32).toInt = 0 := by decide
      omega)
    have q2 : mm_P2 .lt x y = true := decide_eq_true hlt
    refine mm_T_step (σ' := (1, lv_args 0 [.int x, .int y, vz], [.int x], m0, (mm_bud 145).1, (mm_bud 145).2)) hd_145_0 rfl (by simp [mm_ent, mm_stp, mm_pure, mm_ldi, l0]) ?_
    refine mm_T_step (σ' := (4, lv_args 0 [.int x, .int y, vz], [], m0, (mm_bud 145).1, (mm_bud 145).2)) hd_145_1 rfl (by simp [mm_stp, mm_pure, mm_if1, show mm_tgt 1 8 = some 9 from rfl, q1]) ?_
    refine mm_T_step (σ' := (5, lv_args 0 [.int x, .int y, vz], [.int x], m0, (mm_bud 145).1, (mm_bud 145).2)) hd_145_4 rfl (by simp [mm_stp, mm_pure, mm_ldi, l0]) ?_
    refine mm_T_step (σ' := (6, lv_args 0 [.int x, .int y, vz], [.int y, .int x], m0, (mm_bud 145).1, (mm_bud 145).2)) hd_145_5 rfl (by simp [mm_stp, mm_pure, mm_ldi, l1]) ?_
    refine mm_T_step (σ' := (16, lv_args 0 [.int x, .int y, vz], [], m0, (mm_bud 145).1, (mm_bud 145).2)) hd_145_6 rfl (by simp [mm_stp, mm_pure, mm_if2, show mm_tgt 6 10 = some 16 from rfl, q2]) ?_
    refine mm_T_step (σ' := (17, lv_args 0 [.int x, .int y, vz], [.int x], m0, (mm_bud 145).1, (mm_bud 145).2)) hd_145_16 rfl (by simp [mm_stp, mm_pure, mm_ldi, l0]) ?_
    have hdr : decode t2.2.2.1 17 = .ok (.ireturn, 1) := by
      have h := hd_145_17
      rw [hfi2] at h
      exact h
    refine mm_T_ret (v := some (.int x)) hd_145_17 rfl ?_ ?_
    · unfold mm_ret
      (try dsimp only)
      rw [hdr]
      (try dsimp only)
      rw [hret2]
      exact if_pos rfl
    refine mm_T_step (σ' := (9, lv_args 0 As, [], m0, (mm_bud 144).1 - (mm_bud 145).1, (mm_bud 144).2 - (mm_bud 145).2)) hd_144_8 rfl (by simp [mm_stp, mm_pure, mm_pop, Value.category]) ?_
    refine mm_T_fin hd_144_9 rfl ?_
    have hdr2 : decode t.2.2.1 9 = .ok (.return_, 1) := by
      have h := hd_144_9
      rw [hfi] at h
      exact h
    refine ⟨none, ?_, _, List.mem_cons_self, [], ?_, hb_mf0 _ _, hb_pf0 _, fun _ => rfl, (fun rv q => by cases q), htm, hJm, fun _ _ => rfl, fun _ _ _ _ _ => rfl⟩
    · unfold mm_ret
      (try dsimp only)
      rw [hdr2]
      (try dsimp only)
      rw [hret]
      rfl
    · rw [List.append_nil]
      exact he
  obtain ⟨n, τ, r1, v, r2, r3⟩ := hT
  rw [hfi] at r1
  exact ⟨n, τ, v, r1, r2, r3⟩
theorem dn_sw {x : Int32} {lc : List (Nat × Value)} : ∃ p ∈ [52, 66, 102, 80, 91, 106], mm_lsw 105 #[(13, 51), (14, 65), (143, 101), (160, 79), (161, 90)] 1 lc [.int x] = some (p, lc, []) := by
  unfold mm_lsw
  dsimp only
  rw [if_pos (by decide)]
  show ∃ p ∈ _, (mm_tgt 1 (if (13 : Int) = x.toInt then 51 else if (14 : Int) = x.toInt then 65 else if (143 : Int) = x.toInt then 101 else if (160 : Int) = x.toInt then 79 else if (161 : Int) = x.toInt then 90 else 105)).map _ = _
  split
  · exact ⟨52, by decide, rfl⟩
  · split
    · exact ⟨66, by decide, rfl⟩
    · split
      · exact ⟨102, by decide, rfl⟩
      · split
        · exact ⟨80, by decide, rfl⟩
        · split
          · exact ⟨91, by decide, rfl⟩
          · exact ⟨106, by decide, rfl⟩
theorem dn_fin (hO : se_Ok ty J kx zs) {t : mm_Mt} (ht : mm_mths[309]? = some t) (hd : 13 ≤ d) {a b c : Int} (ha : hb_i a) (hb : hb_i b) (hc : hb_i c) {m0 : List mm_C} (htm : se_tm ty se_tt m0) (hJm : J m0) {pc k cb sb : Nat} {lc : List (Nat × Value)} {N : se_N} (hN : N = ([(((0, -2147483648, 2147483647), 0, (0, 0, 0), (0, 0, 0)), (0, (0, 0, 0), (0, 0, 0))), (((0, -2147483648, 2147483647), 0, (0, 0, 0), (0, 0, 0)), (0, (0, 0, 0), (0, 0, 0))), (((0, -2147483648, 2147483647), 0, (0, 0, 0), (0, 0, 0)), (0, (0, 0, 0), (0, 0, 0)))], [some (1, 0, 0), some (1, 1, 0), some (1, 2, 0)], [], [])) (hs : se_sho se_tt [] se_Z 37 se_zt [] 309 N pc k [(99999, ([(((0, -2147483648, 2147483647), 0, (0, 0, 0), (0, 0, 0)), (3, (0, 0, 0), (0, 0, 0))), (((0, -2147483648, 2147483647), 0, (0, 0, 0), (0, 0, 0)), (3, (0, 1, 0), (0, 0, 0))), (((0, -2147483648, 2147483647), 0, (0, 0, 0), (0, 0, 0)), (3, (0, 2, 0), (0, 0, 0))), (((0, -2147483648, 2147483647), 0, (0, 0, 0), (0, 0, 0)), (0, (0, 0, 0), (0, 0, 0)))], [some (1, 3, 0)], [], []), none)] = true) (hlc : hb_lc [some (hb_z a), some (hb_z b), some (hb_z c)] lc) (he0 : se_env ty [hb_z a, hb_z b, hb_z c] (sc_dn.2.1.1.map Prod.fst)) : mm_T kx zs (se_Q ty se_tt J sc_dn t [hb_z a, hb_z b, hb_z c] m0) [] d (sx_fi 309) (pc, lc, [], m0, cb, sb) := by
  subst hN
  refine se_sho_ok (C := []) (lvl := 1) (ρ := [hb_z a, hb_z b, hb_z c]) hO.1 hO.2.1 hO.2.2 (Nat.le_refl 1) (fun c hc => absurd hc List.not_mem_nil) hd ht hs (hb_env ⟨rfl, hb_kz ha ha.1 ha.2, rfl, hb_kz hb hb.1 hb.2, rfl, hb_kz hc hc.1 hc.2, trivial⟩) (hb_gl hlc ⟨hb_vz1 rfl, hb_vz1 rfl, hb_vz1 rfl, trivial⟩) (hb_mf0 _ _) (hb_pf0 _) htm hJm (fun T hT => ?_)
  rcases List.mem_cons.mp hT with rfl | hT
  · intro τ lc' m' cb' sb' hρ he2 hM2 hP2 htm2 hJ2 hap hfq
    refine ⟨fun e => absurd rfl e, fun _ pc sc v hv hrv => ?_⟩
    obtain ⟨z, hz, hzi, -, -⟩ := hb_new he2 (k := 3) rfl
    obtain ⟨x, hvx, hx⟩ := hrv _ rfl
    rw [hb_vz1 hz] at hx
    cases hx
    exact hb_fin hv hvx hzi he0 List.mem_cons_self htm2 hJ2 hfq
  · exact absurd hT List.not_mem_nil
theorem sm_dn (hO : se_Ok ty J kx zs) : se_Met ty se_tt J kx zs sc_dn := by
  intro d t ρ As m0 hd ht he hgl hM hP htm hJm
  have hd : 13 ≤ d := hd
  have ht : mm_mths[309]? = some t := ht
  obtain ⟨a, a1, ai, -, -⟩ := hb_new he (k := 0) rfl
  obtain ⟨b, b1, bi, -, -⟩ := hb_new he (k := 1) rfl
  obtain ⟨c, c1, ci, -, -⟩ := hb_new he (k := 2) rfl
  have hρ := hb_l3 (show ρ.length = 3 from he.1) a1 b1 c1
  subst hρ
  obtain ⟨x0, x1, x2⟩ := hgl 0 (1, 0, 0) rfl
  rw [hb_vz1 rfl] at x2
  cases x2
  obtain ⟨y0, y1, y2⟩ := hgl 1 (1, 1, 0) rfl
  rw [hb_vz1 rfl] at y2
  cases y2
  obtain ⟨z0, z1, z2⟩ := hgl 2 (1, 2, 0) rfl
  rw [hb_vz1 rfl] at z2
  cases z2
  have hlc : hb_lc [some (hb_z a), some (hb_z b), some (hb_z c)] (lv_args 0 As) := fun i x hx => by
    match i, hx with
    | 0, hx => cases hx; exact x1
    | 1, hx => cases hx; exact y1
    | 2, hx => cases hx; exact z1
    | i + 3, hx => simp at hx
  have hfi : sx_fi 309 = mm_fi t := sx_cods_mths ht
  have hT : mm_T kx zs (se_Q ty se_tt J sc_dn t [hb_z a, hb_z b, hb_z c] m0) [] d (sx_fi 309) (mm_ent 309 As m0) := by
    refine mm_T_step (σ' := (1, lv_args 0 As, [hb_z a], m0, (mm_bud 309).1, (mm_bud 309).2)) hd_309_0 rfl (by unfold hb_z at x1 ⊢; simp [mm_ent, mm_stp, mm_pure, mm_ldi, x1]) ?_
    obtain ⟨p, hp, hsw⟩ := dn_sw (x := Int32.ofInt a) (lc := lv_args 0 As)
    refine mm_T_step (σ' := (p, lv_args 0 As, [], m0, (mm_bud 309).1, (mm_bud 309).2)) hd_309_1 rfl ?_ ?_
    · unfold mm_stp
      rw [show mm_pure (sx_fi 309).2.2.1 (.lookupswitch 105 #[(13, 51), (14, 65), (143, 101), (160, 79), (161, 90)]) 51 1 (lv_args 0 As) [hb_z a] = some (p, lv_args 0 As, []) from hsw]
    · simp only [List.mem_cons, List.not_mem_nil, or_false] at hp
      rcases hp with rfl | rfl | rfl | rfl | rfl | rfl
      · exact dn_fin hO ht hd ai bi ci htm hJm rfl sS_dn52 hlc he
      · exact dn_fin hO ht hd ai bi ci htm hJm rfl sS_dn66 hlc he
      · exact dn_fin hO ht hd ai bi ci htm hJm rfl sS_dn102 hlc he
      · exact dn_fin hO ht hd ai bi ci htm hJm rfl sS_dn80 hlc he
      · exact dn_fin hO ht hd ai bi ci htm hJm rfl sS_dn91 hlc he
      · exact dn_fin hO ht hd ai bi ci htm hJm rfl sS_dn106 hlc he
  obtain ⟨n, τ, r1, v, r2, r3⟩ := hT
  rw [hfi] at r1
  exact ⟨n, τ, v, r1, r2, r3⟩
def wo_N (nr kv : se_K) : se_N := ([(((91, 0, 0), 0, (0, 0, 0), (0, 0, 0)), (0, (0, 0, 0), (0, 0, 0))), (((58, 0, 0), 0, (0, 0, 0), (0, 0, 0)), (0, (0, 0, 0), (0, 0, 0))), (((65, 0, 0), 0, (0, 0, 0), (0, 0, 0)), (0, (0, 0, 0), (0, 0, 0))), (((66, 0, 0), 0, (0, 0, 0), (0, 0, 0)), (0, (0, 0, 0), (0, 0, 0))), (((0, 528, 2810), 0, (0, 0, 0), (0, 0, 0)), (0, (0, 0, 0), (0, 0, 0))), (((0, 0, 162), 0, (0, 0, 0), (0, 0, 0)), (0, (0, 0, 0), (0, 0, 0))), (((0, 529, 2972), 0, (0, 0, 0), (0, 0, 0)), (0, (0, 0, 0), (0, 0, 0))), ((nr, 0, (0, 0, 0), (0, 0, 0)), (0, (0, 0, 0), (0, 0, 0))), ((kv, 0, (0, 0, 0), (0, 0, 0)), (0, (0, 0, 0), (0, 0, 0))), (((0, 528, 2972), 1, (1, 4, 0), (1, 5, 0)), (0, (0, 0, 0), (0, 0, 0)))], [some (1, 0, 0), none, none, some (1, 4, 0), some (1, 7, 0), some (1, 6, 0)], [((1, 0, 0), (0, 0, 0), (1, 1, 0)), ((1, 0, 0), (0, 0, 11), (1, 2, 0)), ((1, 0, 0), (0, 0, 18), (1, 3, 0)), ((1, 1, 0), (1, 4, 0), (1, 5, 0)), ((1, 1, 0), (1, 6, 0), (1, 8, 0))], [(.le, (1, 6, 0), (1, 9, 0))])
def wo_T (nr kv : se_K) (dn : Int) : se_Th := (37, ([(((91, 0, 0), 0, (0, 0, 0), (0, 0, 0)), (3, (0, 0, 0), (0, 0, 0))), (((58, 0, 0), 0, (0, 0, 0), (0, 0, 0)), (3, (0, 1, 0), (0, 0, 0))), (((65, 0, 0), 0, (0, 0, 0), (0, 0, 0)), (3, (0, 2, 0), (0, 0, 0))), (((66, 0, 0), 0, (0, 0, 0), (0, 0, 0)), (3, (0, 3, 0), (0, 0, 0))), (((0, 528, 2810), 0, (0, 0, 0), (0, 0, 0)), (3, (0, 4, 0), (0, 0, 0))), (((0, 0, 162), 0, (0, 0, 0), (0, 0, 0)), (3, (0, 5, 0), (0, 0, 0))), (((0, 529, 2972), 0, (0, 0, 0), (0, 0, 0)), (3, (0, 6, 0), (0, 0, 0))), ((nr, 0, (0, 0, 0), (0, 0, 0)), (3, (0, 7, 0), (0, 0, 0))), ((kv, 0, (0, 0, 0), (0, 0, 0)), (3, (0, 8, 0), (0, 0, 0))), (((0, 528, 2972), 0, (0, 0, 0), (0, 0, 0)), (3, (0, 9, 0), (0, 0, 0)))], [some (1, 0, 0), none, none, some (1, 4, 0), some (1, 7, dn), some (1, 6, 1)], [], []), none)
theorem wo_dok9 {b L : Int} {ρ : List Value} (h4 : ρ[4]? = some (hb_z b)) (h5 : ρ[5]? = some (hb_z L)) (hi : hb_i (b + L)) (h1 : 528 ≤ b + L) (h2 : b + L ≤ 2972) : se_dok ty ρ ((0, 528, 2972), 1, (1, 4, 0), (1, 5, 0)) (hb_z (b + L)) := ⟨hb_kz hi h1 h2, fun _ => ⟨_, _, hb_vz1 h4, hb_vz1 h5, hb_op1 b L⟩⟩
theorem wo_step (hO : se_Ok ty J kx zs) {C : List se_C} {t : mm_Mt} (ht : mm_mths[308]? = some t) (hd : 26 ≤ d) (hC : ∀ c ∈ C, se_Met ty se_tt J kx zs c ∧ c.1.2 < 2) {nr kv : se_K} {dn : Int} {kk : Nat} (hs : se_sho se_tt C se_Z 37 se_zt [(64, 0, 200)] 308 (wo_N nr kv) 37 kk [wo_T nr kv dn] = true) {m : List mm_C} {q qn qa qh b L k : Nat} {D v : Int} (hq : ty q = some 89) (hn : ty qn = some 56) (ha : ty qa = some 63) (hh : ty qh = some 64) (g0 : se_get m q 0 = some (.ref qn)) (g11 : se_get m q 11 = some (.ref qa)) (g18 : se_get m q 18 = some (.ref qh)) (hb1 : 528 ≤ b) (hb2 : b + 162 ≤ 2972) (hL : se_get m qn b = some (hb_z (L : Int))) (hL2 : L ≤ 162) (hk : k < L) (hv : se_get m qn (b + 1 + k) = some (hb_z v)) (hkD : se_k ty nr (hb_z D)) (hkv : se_k ty kv (hb_z v)) (htm : se_tm ty se_tt m) (hJm : J m) {lc : List (Nat × Value)} {cb sb : Nat} (hlc : hb_lc [some (.ref q), none, none, some (hb_z (b : Int)), some (hb_z D), some (hb_z ((b + 1 + k : Nat) : Int))] lc) (hgo : ∀ (lc : List (Nat × Value)) (m' : List mm_C) (cb sb : Nat), se_tm ty se_tt m' → J m' → se_fq ty [(64, 0, 200)] m m' → hb_lc [some (.ref q), none, none, some (hb_z (b : Int)), some (hb_z (D + dn)), some (hb_z ((b + 1 + (k + 1) : Nat) : Int))] lc → mm_T kx zs Q [] d (sx_fi 308) (37, lc, [], m', cb, sb)) : mm_T kx zs Q [] d (sx_fi 308) (37, lc, [], m, cb, sb) := by
  have hbi := hb_k b (by omega)
  have hLi := hb_k L (by omega)
  have hii := hb_k (b + 1 + k) (by omega)
  have hsi : hb_i ((b : Int) + (L : Int)) := hb_kd (by omega) (by omega)
  have e0 : hb_i 0 := hb_kd (by decide) (by decide)
  refine se_sho_ok (C := C) (lvl := 2) (ρ := [.ref q, .ref qn, .ref qa, .ref qh, hb_z (b : Int), hb_z (L : Int), hb_z ((b + 1 + k : Nat) : Int), hb_z D, hb_z v, hb_z ((b : Int) + (L : Int))]) hO.1 hO.2.1 hO.2.2 (by decide) hC hd ht hs (hb_env2 ⟨se_dok0 (hb_kr hq), se_dok0 (hb_kr hn), se_dok0 (hb_kr ha), se_dok0 (hb_kr hh), se_dok0 (hb_kz hbi (by omega) (by omega)), se_dok0 (hb_kz hLi (by omega) (by omega)), se_dok0 (hb_kz hii (by omega) (by omega)), se_dok0 hkD, se_dok0 hkv, wo_dok9 rfl rfl hsi (by omega) (by omega), trivial⟩) (hb_gl hlc ⟨hb_vr rfl, hb_vz1 rfl, hb_vz1 rfl, hb_vz1 rfl, trivial⟩) (hb_mf (q := q) (z := 0) (hb_vr rfl) (hb_vc _ _ _) (by decide) e0 (hb_vr rfl) g0 (hb_mf (q := q) (z := 11) (hb_vr rfl) (hb_vc _ _ _) (by decide) (hb_kd (by decide) (by decide)) (hb_vr rfl) g11 (hb_mf (q := q) (z := 18) (hb_vr rfl) (hb_vc _ _ _) (by decide) (hb_kd (by decide) (by decide)) (hb_vr rfl) g18 (hb_mf (q := qn) (z := (b : Int)) (hb_vr rfl) (hb_vz1 rfl) (by omega) hbi (hb_vz1 rfl) hL (hb_mf (q := qn) (z := ((b + 1 + k : Nat) : Int)) (hb_vr rfl) (hb_vz1 rfl) (by omega) hii (hb_vz1 rfl) hv (hb_mf0 _ _)))))) (hb_pf (hb_vz1 rfl) (hb_vz1 rfl) (hb_le hii hsi (by omega)) (hb_pf0 _)) htm hJm (fun T hT => ?_)
  rcases List.mem_cons.mp hT with rfl | hT
  · intro τ lc' m' cb' sb' hρ he hM hP htm' hJ' hap hfq
    refine ⟨fun _ hg => ?_, fun e => absurd e (show ¬ (37 : Nat) = 99999 by decide)⟩
    exact hgo lc' m' cb' sb' htm' hJ' hfq (hb_lcof hg ⟨hb_vr (hb_at hρ rfl), hb_vz1 (hb_at hρ rfl), hb_vs (hb_at hρ rfl) (by omega), hb_vs (hb_at hρ rfl) (by omega), trivial⟩)
  · exact absurd hT List.not_mem_nil
theorem wo_end (hO : se_Ok ty J kx zs) {t : mm_Mt} (ht : mm_mths[308]? = some t) (hd : 26 ≤ d) {m : List mm_C} {q qn b L : Nat} (hq : ty q = some 89) (hn : ty qn = some 56) (g0 : se_get m q 0 = some (.ref qn)) (hb1 : 528 ≤ b) (hb2 : b + 162 ≤ 2972) (hL : se_get m qn b = some (hb_z (L : Int))) (hL2 : L ≤ 162) (htm : se_tm ty se_tt m) (hJm : J m) {D : Int} {lc : List (Nat × Value)} {cb sb : Nat} (hlc : hb_lc [some (.ref q), none, none, some (hb_z (b : Int)), some (hb_z D), some (hb_z ((b + 1 + L : Nat) : Int))] lc) (hgo : ∀ (lc : List (Nat × Value)) (pc cb sb : Nat) (sc : List Value) (v : Option Value) (z : Int), mm_ret t (pc, lc, sc, m, cb, sb) = some v → v = some (hb_z z) → hb_i z → Q (pc, lc, sc, m, cb, sb)) : mm_T kx zs Q [] d (sx_fi 308) (37, lc, [], m, cb, sb) := by
  have hbi := hb_k b (by omega)
  have hLi := hb_k L (by omega)
  have hii := hb_k (b + 1 + L) (by omega)
  have hsi : hb_i ((b : Int) + (L : Int)) := hb_kd (by omega) (by omega)
  have e0 : hb_i 0 := hb_kd (by decide) (by decide)
  refine se_sho_ok (C := []) (lvl := 1) (ρ := [.ref q, .ref qn, hb_z (b : Int), hb_z (L : Int), hb_z ((b + 1 + L : Nat) : Int), hb_z ((b : Int) + (L : Int))]) hO.1 hO.2.1 hO.2.2 (Nat.le_refl 1) (fun c hc => absurd hc List.not_mem_nil) (by omega) ht sS_o2 (hb_env2 ⟨se_dok0 (hb_kr hq), se_dok0 (hb_kr hn), se_dok0 (hb_kz hbi (by omega) (by omega)), se_dok0 (hb_kz hLi (by omega) (by omega)), se_dok0 (hb_kz hii (by omega) (by omega)), ⟨hb_kz hsi (by omega) (by omega), fun _ => ⟨_, _, hb_vz1 rfl, hb_vz1 rfl, hb_op1 _ _⟩⟩, trivial⟩) (hb_gl hlc ⟨hb_vr rfl, hb_vz1 rfl, hb_vz1 rfl, trivial⟩) (hb_mf (q := q) (z := 0) (hb_vr rfl) (hb_vc _ _ _) (by decide) e0 (hb_vr rfl) g0 (hb_mf (q := qn) (z := (b : Int)) (hb_vr rfl) (hb_vz1 rfl) (by omega) hbi (hb_vz1 rfl) hL (hb_mf0 _ _))) (hb_pf (hb_vz1 rfl) (hb_vz1 rfl) (hb_gt hii hsi (by omega)) (hb_pf0 _)) htm hJm (fun T hT => ?_)
  rcases List.mem_cons.mp hT with rfl | hT
  · intro τ lc' m' cb' sb' hρ he hM hP htm' hJ' hap hfq
    refine ⟨fun e => absurd rfl e, fun _ pc sc v hv hrv => ?_⟩
    cases hb_ap0 (hap _ rfl)
    obtain ⟨z, hz, hzi, -, -⟩ := hb_new he (k := 6) rfl
    obtain ⟨x, hvx, hx⟩ := hrv _ rfl
    rw [hb_vz1 hz] at hx
    cases hx
    exact hgo lc' pc cb' sb' sc v z hv hvx hzi
  · exact absurd hT List.not_mem_nil
theorem wo_loop (hO : se_Ok ty J kx zs) {t : mm_Mt} (ht : mm_mths[308]? = some t) (hd : 26 ≤ d) {m0 : List mm_C} {q qn qa qh b L : Nat} (hq : ty q = some 89) (hn : ty qn = some 56) (ha : ty qa = some 63) (hh : ty qh = some 64) (g0 : se_get m0 q 0 = some (.ref qn)) (g11 : se_get m0 q 11 = some (.ref qa)) (g18 : se_get m0 q 18 = some (.ref qh)) (hb1 : 528 ≤ b) (hb2 : b + 162 ≤ 2972) (hL : se_get m0 qn b = some (hb_z (L : Int))) (hL2 : L ≤ 162) (hok : rw_ok (fun j => rw_v m0 qn (b + 1 + j)) L) (hgo : ∀ (m : List mm_C) (lc : List (Nat × Value)) (pc cb sb : Nat) (sc : List Value) (v : Option Value) (z : Int), mm_ret t (pc, lc, sc, m, cb, sb) = some v → v = some (hb_z z) → hb_i z → se_tm ty se_tt m → J m → se_fq ty [(64, 0, 200)] m0 m → Q (pc, lc, sc, m, cb, sb)) : ∀ (n k : Nat) (lc : List (Nat × Value)) (m : List mm_C) (cb sb : Nat), n + k = L → se_tm ty se_tt m → J m → se_fq ty [(64, 0, 200)] m0 m → hb_lc [some (.ref q), none, none, some (hb_z (b : Int)), some (hb_z (rw_d (fun j => rw_v m0 qn (b + 1 + j)) k)), some (hb_z ((b + 1 + k : Nat) : Int))] lc → mm_T kx zs Q [] d (sx_fi 308) (37, lc, [], m, cb, sb) := by
  have keep : ∀ {m : List mm_C}, se_fq ty [(64, 0, 200)] m0 m → ∀ (p u i : Nat), ty p = some u → u ≠ 64 → se_get m p i = se_get m0 p i := fun hf p u i hp hu => hf.2 p u i hp (fun w hw e => by
    rcases List.mem_cons.mp hw with rfl | hw
    · exact absurd e.symm hu
    · exact absurd hw List.not_mem_nil)
  intro n
  induction n with
  | zero =>
    intro k lc m cb sb hnk htm hJm hf hlc
    have : k = L := by omega
    subst this
    exact wo_end hO ht hd hq hn ((keep hf q 89 0 hq (by decide)).trans g0) hb1 hb2 ((keep hf qn 56 b hn (by decide)).trans hL) hL2 htm hJm hlc (fun lc pc cb sb sc v z h1 h2 h3 => hgo m lc pc cb sb sc v z h1 h2 h3 htm hJm hf)
  | succ n ih =>
    intro k lc m cb sb hnk htm hJm hf hlc
    have hkL : k < L := by omega
    obtain ⟨v, hv, hvi⟩ := hb_at56 (i := b + 1 + k) htm hn (by omega)
    have hv0 := hv
    rw [keep hf qn 56 _ hn (by decide)] at hv0
    have hfk : rw_v m0 qn (b + 1 + k) = v := rw_vz hv0 hvi
    obtain ⟨g1, g2, g3⟩ := hok k hkL
    dsimp only at g1 g2 g3
    rw [hfk] at g1 g2 g3
    obtain ⟨d1, d2⟩ := rw_db hok k (by omega)
    have hDi : hb_i (rw_d (fun j => rw_v m0 qn (b + 1 + j)) k) := hb_kd (by omega) (by omega)
    have hnext : rw_d (fun j => rw_v m0 qn (b + 1 + j)) (k + 1) = rw_d (fun j => rw_v m0 qn (b + 1 + j)) k + rw_w v := by
      show _ + rw_w (rw_v m0 qn (b + 1 + k)) = _
      rw [hfk]
    have go : ∀ dn : Int, rw_w v = dn → ∀ (lc : List (Nat × Value)) (m' : List mm_C) (cb sb : Nat), se_tm ty se_tt m' → J m' → se_fq ty [(64, 0, 200)] m m' → hb_lc [some (.ref q), none, none, some (hb_z (b : Int)), some (hb_z (rw_d (fun j => rw_v m0 qn (b + 1 + j)) k + dn)), some (hb_z ((b + 1 + (k + 1) : Nat) : Int))] lc → mm_T kx zs Q [] d (sx_fi 308) (37, lc, [], m', cb, sb) := fun dn hdn lc' m' cb' sb' q1 q2 q3 q4 => ih (k + 1) lc' m' cb' sb' (by omega) q1 q2 (hb_fq_t hf q3) (by rw [hnext, hdn]; exact q4)
    have k0 := (keep hf q 89 0 hq (by decide)).trans g0
    have k11 := (keep hf q 89 11 hq (by decide)).trans g11
    have k18 := (keep hf q 89 18 hq (by decide)).trans g18
    have kL := (keep hf qn 56 b hn (by decide)).trans hL
    have hC : ∀ c ∈ [sc_dn], se_Met ty se_tt J kx zs c ∧ c.1.2 < 2 := fun c hc => by
      rcases List.mem_cons.mp hc with rfl | hc
      · exact ⟨sm_dn hO, by decide⟩
      · exact absurd hc List.not_mem_nil
    have h0 : ∀ c ∈ ([] : List se_C), se_Met ty se_tt J kx zs c ∧ c.1.2 < 2 := fun c hc => absurd hc List.not_mem_nil
    generalize rw_d (fun j => rw_v m0 qn (b + 1 + j)) k = D at *
    by_cases c1 : 0 ≤ v
    · exact wo_step hO ht hd h0 (nr := (0, 0, 161)) (kv := (0, 0, 2147483647)) (dn := 1) sS_o1a hq hn ha hh k0 k11 k18 hb1 hb2 kL hL2 hkL hv (hb_kz hDi d1 (by omega)) (hb_kz hvi c1 (by have := hvi.2; unfold se_hi at this; exact this)) htm hJm hlc (go 1 (by unfold rw_w; rw [if_pos (by omega)]))
    · by_cases c2 : -100 < v
      · exact wo_step hO ht hd h0 (nr := (0, 0, 161)) (kv := (0, -9, -1)) (dn := 1) sS_o1b hq hn ha hh k0 k11 k18 hb1 hb2 kL hL2 hkL hv (hb_kz hDi d1 (by omega)) (hb_kz hvi (g1 c2) (by omega)) htm hJm hlc (go 1 (by unfold rw_w; rw [if_pos c2]))
      · by_cases c3 : v = -115
        · have := g2 c3
          exact wo_step hO ht hd h0 (nr := (0, 1, 162)) (kv := (0, -115, -115)) (dn := 0) sS_o1c hq hn ha hh k0 k11 k18 hb1 hb2 kL hL2 hkL hv (hb_kz hDi this (by omega)) (hb_kz hvi (by omega) (by omega)) htm hJm hlc (go 0 (by unfold rw_w; rw [if_neg c2, if_pos c3]))
        · have := g3 (by omega) c3
          have hw : rw_w v = -1 := by unfold rw_w; rw [if_neg c2, if_neg c3]
          by_cases c4 : v ≤ -116
          · exact wo_step hO ht hd hC (nr := (0, 2, 162)) (kv := (0, -2147483648, -116)) (dn := -1) sS_o1d hq hn ha hh k0 k11 k18 hb1 hb2 kL hL2 hkL hv (hb_kz hDi this (by omega)) (hb_kz hvi (by have := hvi.1; unfold se_lo at this; exact this) c4) htm hJm hlc (go (-1) hw)
          · exact wo_step hO ht hd hC (nr := (0, 2, 162)) (kv := (0, -114, -100)) (dn := -1) sS_o1e hq hn ha hh k0 k11 k18 hb1 hb2 kL hL2 hkL hv (hb_kz hDi this (by omega)) (hb_kz hvi (by omega) (by omega)) htm hJm hlc (go (-1) hw)
theorem hb_lawk : ∀ l, l < 12 → se_seg (se_tt 56).2.2.2 (505 + 2 * l) = (0, 0, 4) := by decide +kernel
set_option maxRecDepth 100000 in
theorem hb_rowk : ∀ u, u < 5 → ∀ p, p < 3 → se_seg (se_tt 56).2.2.2 (528 + 489 * u + 163 * p) = (0, 0, 162) := by decide +kernel
theorem hb_names {m : List mm_C} {q : Nat} (htm : se_tm ty se_tt m) (hq : ty q = some 89) : ∃ p, se_get m q 11 = some (.ref p) ∧ ty p = some 63 := hb_ref (l := 0) (h := 0) htm hq (by decide +kernel) (by decide +kernel)
theorem hb_heap {m : List mm_C} {q : Nat} (htm : se_tm ty se_tt m) (hq : ty q = some 89) : ∃ p, se_get m q 18 = some (.ref p) ∧ ty p = some 64 := hb_ref (l := 0) (h := 0) htm hq (by decide +kernel) (by decide +kernel)
theorem sm_h4 (hO : se_Ok ty (rw_J ty) kx zs) : se_Met ty se_tt (rw_J ty) kx zs sc_h4 := by
  intro d t ρ As m0 hd ht he hgl hM hP htm hJm
  have hd : 26 ≤ d := hd
  have ht : mm_mths[308]? = some t := ht
  obtain ⟨w, w1, w2⟩ := he.2 0 _ rfl
  obtain ⟨q, rfl, hq⟩ := w2.1
  obtain ⟨l, l1, li, l2, l3⟩ := hb_new he (k := 1) rfl
  obtain ⟨p, p1, pi, p2, p3⟩ := hb_new he (k := 2) rfl
  have hρ := hb_l3 (show ρ.length = 3 from he.1) w1 l1 p1
  subst hρ
  obtain ⟨x0, x1, x2⟩ := hgl 0 (1, 0, 0) rfl
  rw [hb_vr rfl] at x2
  cases x2
  obtain ⟨y0, y1, y2⟩ := hgl 1 (1, 1, 0) rfl
  rw [hb_vz1 rfl] at y2
  cases y2
  obtain ⟨z0, z1, z2⟩ := hgl 2 (1, 2, 0) rfl
  rw [hb_vz1 rfl] at z2
  cases z2
  have hlc : hb_lc [some (.ref q), some (hb_z l), some (hb_z p)] (lv_args 0 As) := fun i x hx => by
    match i, hx with
    | 0, hx => cases hx; exact x1
    | 1, hx => cases hx; exact y1
    | 2, hx => cases hx; exact z1
    | i + 3, hx => simp at hx
  obtain ⟨l', rfl⟩ := Int.eq_ofNat_of_zero_le l2
  obtain ⟨p', rfl⟩ := Int.eq_ofNat_of_zero_le p2
  obtain ⟨qn, g0, hn⟩ := hb_now htm hq
  obtain ⟨qa, g11, ha⟩ := hb_names htm hq
  obtain ⟨qh, g18, hh⟩ := hb_heap htm hq
  obtain ⟨u, u1, ui, u2, u3⟩ := hb_int (i := 505 + 2 * l') htm hn (show 505 + 2 * l' < 2973 by omega) (hb_lawk l' (by omega))
  obtain ⟨u', rfl⟩ := Int.eq_ofNat_of_zero_le u2
  obtain ⟨L, L1, Li, L2, L3⟩ := hb_int (i := 528 + 489 * u' + 163 * p') htm hn (show 528 + 489 * u' + 163 * p' < 2973 by omega) (hb_rowk u' (by omega) p' (by omega))
  obtain ⟨L', rfl⟩ := Int.eq_ofNat_of_zero_le L2
  have hrow := hJm qn (Or.inl hn) u' p' (by omega) (by omega)
  unfold rw_row at hrow
  rw [rw_vz L1 Li, Int.toNat_natCast, Nat.min_eq_left (by omega)] at hrow
  have hfi : sx_fi 308 = mm_fi t := sx_cods_mths ht
  have hT : mm_T kx zs (se_Q ty se_tt (rw_J ty) sc_h4 t [.ref q, hb_z (l' : Int), hb_z (p' : Int)] m0) [] d (sx_fi 308) (mm_ent 308 As m0) := by
    refine se_sho_ok (C := []) (lvl := 1) (ρ := [.ref q, hb_z (l' : Int), hb_z (p' : Int), .ref qn, hb_z (u' : Int)]) hO.1 hO.2.1 hO.2.2 (Nat.le_refl 1) (fun c hc => absurd hc List.not_mem_nil) (by omega) ht sS_o0 (hb_env ⟨rfl, hb_kr hq, rfl, hb_kz li l2 l3, rfl, hb_kz pi p2 p3, rfl, hb_kr hn, rfl, hb_kz ui u2 u3, trivial⟩) (hb_gl hlc ⟨hb_vr rfl, hb_vz1 rfl, hb_vz1 rfl, trivial⟩) (hb_mf (q := q) (z := 0) (hb_vr rfl) (hb_vc _ _ _) (by decide) (hb_kd (by decide) (by decide)) (hb_vr rfl) g0 (hb_mf (q := qn) (z := ((505 + 2 * l' : Nat) : Int)) (hb_vr rfl) (hb_vs rfl (by omega)) (by omega) (hb_k _ (by omega)) (hb_vz1 rfl) u1 (hb_mf0 _ _))) (hb_pf0 _) htm hJm (fun T hT => ?_)
    rcases List.mem_cons.mp hT with rfl | hT
    · intro τ lc' m' cb' sb' hρ he2 hM2 hP2 htm' hJ' hap hfq
      refine ⟨fun _ hg => ?_, fun e => absurd e (by decide)⟩
      cases hb_ap0 (hap _ rfl)
      obtain ⟨w, hw, hdok⟩ := he2.2 5 _ rfl
      obtain ⟨va, vb, e1, e2, e3⟩ := hdok.2 (by decide)
      rw [hb_vs (hb_at hρ rfl) (show (489 : Int) * (u' : Int) + 528 = ((528 + 489 * u' : Nat) : Int) by omega)] at e1
      rw [hb_vs (hb_at hρ rfl) (show (163 : Int) * (p' : Int) + 0 = ((163 * p' : Nat) : Int) by omega)] at e2
      cases e1
      cases e2
      rw [hb_op1] at e3
      cases e3
      rw [show ((528 + 489 * u' : Nat) : Int) + ((163 * p' : Nat) : Int) = ((528 + 489 * u' + 163 * p' : Nat) : Int) by omega] at hw
      exact wo_loop hO ht hd hq hn ha hh g0 g11 g18 (by omega) (by omega) L1 (by omega) hrow (fun m lc pc cb sb sc v z h1 h2 h3 h4 h5 h6 => hb_fin h1 h2 h3 he List.mem_cons_self h4 h5 h6) L' 0 lc' m0 cb' sb' rfl htm hJm ⟨fun _ _ => rfl, fun _ _ _ _ _ => rfl⟩ (hb_lcof hg ⟨hb_vr (hb_at hρ rfl), hb_vz1 hw, hb_vc _ _ _, hb_vs hw (by omega), trivial⟩)
    · exact absurd hT List.not_mem_nil
  obtain ⟨n, τ, r1, v, r2, r3⟩ := hT
  rw [hfi] at r1
  exact ⟨n, τ, v, r1, r2, r3⟩
end HC
