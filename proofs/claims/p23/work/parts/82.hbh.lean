/-! ===== by hand: an E of a text, none wanted; its loop ===== -/
section HH
variable {ty : Nat → Option Nat} {kx : Nat} {zs : List mm_Zt} {J : List mm_C → Prop} {d : Nat}
/-- settles(1) behind a closing bracket or a stop -/
theorem re_call1 (hO : se_Ok ty J kx zs) {P : mm_S → Prop} (hd : 13 ≤ d) {q qc qw p n w e pc cb sb : Nat} (hp : p < 3) {m : List mm_C} (hq : ty q = some 89) (hqc : ty qc = some 61) (hqw : ty qw = some 62) (k9 : se_get m q 9 = some (.ref qc)) (k10 : se_get m q 10 = some (.ref qw)) (hI : re_I ty J q qc qw p 1 n w e m) {lc : List (Nat × Value)} (l0 : mm_lget lc 0 = some (.ref q)) (d1 : decode (sx_fi 295).2.1 pc = .ok (.aload_n 0, 1)) (d2 : decode (sx_fi 295).2.1 (pc + 1) = .ok (.iconst 1, 1)) (d3 : decode (sx_fi 295).2.1 (pc + 2) = .ok (.invokevirtual 272, 3)) (hgo : ∀ (n' w' : Nat) (m' : List mm_C) (cb sb : Nat), re_I ty J q qc qw p 1 n' w' e m' → st_R ty q qc qw p w n m n' w' m' → (w' = 0 ∨ ∃ k, w' = k + 1 ∧ rw_v m' qw k = 140) → mm_T kx zs P [] (d + 1) (sx_fi 295) (pc + 2 + 3, lc, [], m', cb, sb)) : mm_T kx zs P [] (d + 1) (sx_fi 295) (pc, lc, [], m, cb, sb) := by
  refine mm_T_step (σ' := (pc + 1, lc, [.ref q], m, cb, sb)) d1 rfl (by simp [mm_stp, mm_pure, mm_lda, l0]) ?_
  refine mm_T_step (σ' := (pc + 2, lc, [hb_z 1, .ref q], m, cb, sb)) d2 rfl rfl ?_
  exact re_callst hO hd hp hq hqc hqw k9 k10 (Int.le_refl 1) (by decide) hI d3 (fun n' w' m' cb sb h1 h2 h3 => hgo n' w' m' cb sb h1 h2 (h3 rfl))
theorem re_none (hO : se_Ok ty J kx zs) {t : mm_Mt} (ht : mm_mths[295]? = some t) (hd : 39 ≤ d) {q qc qw p n w e cb sb : Nat} (hp : p < 3) {m0 m : List mm_C} (hq : ty q = some 89) (hqc : ty qc = some 61) (hqw : ty qw = some 62) (k9 : se_get m q 9 = some (.ref qc)) (k10 : se_get m q 10 = some (.ref qw)) (hI : re_I ty J q qc qw p 1 n w e m) (hC : re_C ty qc p m0 m) (hsum : n + 1 + w ≤ e) {x mN : Int} (k14 : se_get m q 14 = some (hb_z x)) (hx1 : 1 ≤ x) (hx2 : x ≤ 255) (hm0 : 0 ≤ mN) (hm1 : mN ≤ 1) {lc : List (Nat × Value)} (hlc : hb_lc [some (.ref q), some (hb_z (p : Int)), some (hb_z 0), some (hb_z mN)] lc) (hgo : re_G ty J kx zs d q qc qw p e m0 t) : mm_T kx zs (re_Q ty J qc p m0 t) [] (d + 1) (sx_fi 295) (24, lc, [], m, cb, sb) := by
  obtain ⟨i1, i2, i3, i4, i5, i6, i7, i8, i9, i10⟩ := id hI
  have hxi : hb_i x := hb_kd (by omega) (by omega)
  have hmi : hb_i mN := hb_kd (by omega) (by omega)
  have hpi := hb_k p (by omega)
  have env : ∀ {l h : Int}, l ≤ x → x ≤ h → se_env ty [.ref q, hb_z (p : Int), hb_z mN, hb_z x] [((91, 0, 0), 0, (0, 0, 0), (0, 0, 0)), ((0, 0, 2), 0, (0, 0, 0), (0, 0, 0)), ((0, 0, 1), 0, (0, 0, 0), (0, 0, 0)), ((0, l, h), 0, (0, 0, 0), (0, 0, 0))] := fun h1 h2 => hb_env ⟨rfl, hb_kr hq, rfl, hb_kz hpi (by omega) (by omega), rfl, hb_kz hmi hm0 hm1, rfl, hb_kz hxi h1 h2, trivial⟩
  have mf : se_mf [.ref q, hb_z (p : Int), hb_z mN, hb_z x] [((1, 0, 0), (0, 0, 14), (1, 3, 0))] m := hb_mf (q := q) (z := 14) (hb_vr rfl) (hb_vc _ _ _) (by decide) (hb_kd (by decide) (by decide)) (hb_vz1 rfl) k14 (hb_mf0 _ _)
  have gl : se_gl [.ref q, hb_z (p : Int), hb_z mN, hb_z x] [some (1, 0, 0), some (1, 1, 0), some (0, 0, 0), some (1, 2, 0)] lc := hb_gl hlc ⟨hb_vr rfl, hb_vz1 rfl, hb_vc _ _ _, hb_vz1 rfl, trivial⟩
  have env3 : se_env ty [.ref q, hb_z (p : Int), hb_z mN] [((91, 0, 0), 0, (0, 0, 0), (0, 0, 0)), ((0, 0, 2), 0, (0, 0, 0), (0, 0, 0)), ((0, 0, 1), 0, (0, 0, 0), (0, 0, 0))] := hb_env ⟨rfl, hb_kr hq, rfl, hb_kz hpi (by omega) (by omega), rfl, hb_kz hmi hm0 hm1, trivial⟩
  have gl3 : ∀ {lc : List (Nat × Value)}, hb_lc [some (.ref q), some (hb_z (p : Int)), some (hb_z 0), some (hb_z mN)] lc → se_gl [.ref q, hb_z (p : Int), hb_z mN] [some (1, 0, 0), some (1, 1, 0), some (0, 0, 0), some (1, 2, 0)] lc := fun h => hb_gl h ⟨hb_vr rfl, hb_vz1 rfl, hb_vc _ _ _, hb_vz1 rfl, trivial⟩
  -- a sign of two sides
  have sign : ∀ {τ : List Value} {lc' : List (Nat × Value)} {cb' sb' : Nat} {r : Int}, [.ref q, hb_z (p : Int), hb_z mN, hb_z x] <+: τ → 1 ≤ r → r ≤ 5 → x ∈ re_S → ¬ (x = 140 ∨ x = 15) → se_gl τ [some (1, 0, 0), some (1, 1, 0), some (0, 0, 0), some (1, 2, 0), some (0, 0, r)] lc' → mm_T kx zs (re_Q ty J qc p m0 t) [] (d + 1) (sx_fi 295) (300, lc', [], m, cb', sb') := fun hρ hr1 hr2 hx hx2 hg => re_sign hO ht (by omega) hp hq hqc hqw k9 k10 hr1 hr2 hI (by omega) hx hx2 k14 (hb_lcof hg ⟨hb_vr (hb_at hρ rfl), hb_vz1 (hb_at hρ rfl), hb_vc _ _ _, hb_vz1 (hb_at hρ rfl), hb_vc _ _ _, trivial⟩) (fun n' w' m' lc mN cb sb h1 h2 h3 h4 h5 => hgo 1 mN n' w' m' lc cb sb (Or.inr rfl) h3 h4 h1 (re_Ct hC h2) h5)
  by_cases c1 : x = 50
  · refine se_sho_ok (C := []) (lvl := 1) hO.1 hO.2.1 hO.2.2 (Nat.le_refl 1) (fun c hc => absurd hc List.not_mem_nil) (by omega) ht sS_n1 (env (by omega) (by omega)) gl mf (hb_pf0 _) i1 i2 (fun T hT => ?_)
    rcases List.mem_cons.mp hT with rfl | hT
    · intro τ lc' m' cb' sb' hρ he hM hP htm' hJ' hap hfq
      refine ⟨fun e => absurd rfl e, fun _ pc sc v hv hrv => ?_⟩
      cases hb_ap0 (hap _ rfl)
      exact re_r0 hv (hrv _ rfl) htm' hJ' hC
    · exact absurd hT List.not_mem_nil
  · by_cases c2 : x ≤ 49
    · refine se_sho_ok (C := []) (lvl := 1) hO.1 hO.2.1 hO.2.2 (Nat.le_refl 1) (fun c hc => absurd hc List.not_mem_nil) (by omega) ht sS_n2 (env hx1 c2) gl mf (hb_pf0 _) i1 i2 (fun T hT => ?_)
      rcases List.mem_cons.mp hT with rfl | hT
      · intro τ lc' m' cb' sb' hρ he hM hP htm' hJ' hap hfq
        refine ⟨fun e => absurd rfl e, fun _ pc sc v hv hrv => ?_⟩
        cases hb_ap0 (hap _ rfl)
        exact re_r0 hv (hrv _ rfl) htm' hJ' hC
      · rcases List.mem_cons.mp hT with rfl | hT
        · intro τ lc' m' cb' sb' hρ he hM hP htm' hJ' hap hfq
          refine ⟨fun _ hg => ?_, fun e => absurd e (by decide)⟩
          obtain ⟨r1, r2⟩ := hb_rng (k := 3) he rfl (hb_at hρ rfl) hxi
          have hx : x = 13 := by omega
          cases hb_ap0 (hap _ rfl)
          exact sign (r := 1) hρ (by decide) (by decide) (by rw [hx]; decide) (by omega) hg
        · rcases List.mem_cons.mp hT with rfl | hT
          · intro τ lc' m' cb' sb' hρ he hM hP htm' hJ' hap hfq
            refine ⟨fun _ hg => ?_, fun e => absurd e (by decide)⟩
            obtain ⟨r1, r2⟩ := hb_rng (k := 3) he rfl (hb_at hρ rfl) hxi
            have hx : x = 14 := by omega
            cases hb_ap0 (hap _ rfl)
            exact sign (r := 2) hρ (by decide) (by decide) (by rw [hx]; decide) (by omega) hg
          · exact absurd hT List.not_mem_nil
    · have hCt : ∀ c ∈ [sc_228], se_Met ty se_tt J kx zs c ∧ c.1.2 < 2 := fun c hc => by
        rcases List.mem_cons.mp hc with rfl | hc
        · exact ⟨sm_228 hO, by decide⟩
        · exact absurd hc List.not_mem_nil
      have hCw : ∀ c ∈ [sc_227], se_Met ty se_tt J kx zs c ∧ c.1.2 < 2 := fun c hc => by
        rcases List.mem_cons.mp hc with rfl | hc
        · exact ⟨sm_227 hO, by decide⟩
        · exact absurd hc List.not_mem_nil
      refine se_sho_ok (C := [sc_228]) (lvl := 2) hO.1 hO.2.1 hO.2.2 (by decide) hCt (by omega) ht sS_n3 (env (by omega) hx2) gl mf (hb_pf0 _) i1 i2 (fun T hT => ?_)
      rcases List.mem_cons.mp hT with rfl | hT
      · intro τ lc' m' cb' sb' hρ he hM hP htm' hJ' hap hfq
        refine ⟨fun e => absurd rfl e, fun _ pc sc v hv hrv => ?_⟩
        cases hb_ap0 (hap _ rfl)
        exact re_r0 hv (hrv _ rfl) htm' hJ' hC
      · rcases List.mem_cons.mp hT with rfl | hT
        · -- a closing bracket
          intro τ lc' m' cb' sb' hρ he hM hP htm' hJ' hap hfq
          refine ⟨fun _ hg => ?_, fun e => absurd e (by decide)⟩
          obtain ⟨r1, r2⟩ := hb_rng (k := 3) he rfl (hb_at hρ rfl) hxi
          have hx : x = 141 := by omega
          have em := hb_ap0 (hap _ rfl)
          subst em
          have hlc' := hb_lcof (l := [some (.ref q), some (hb_z (p : Int)), some (hb_z 0), some (hb_z mN)]) hg ⟨hb_vr (hb_at hρ rfl), hb_vz1 (hb_at hρ rfl), hb_vc _ _ _, hb_vz1 (hb_at hρ rfl), trivial⟩
          have l0 : mm_lget lc' 0 = some (.ref q) := hlc' 0 _ rfl
          show mm_T kx zs _ [] (d + 1) (sx_fi 295) (181, lc', [], m', cb', sb')
          refine mm_T_step (σ' := (182, lc', [.ref q], m', cb', sb')) hd_295_181 rfl (by simp [mm_stp, mm_pure, mm_lda, l0]) ?_
          refine mm_T_step (σ' := (185, lc', [hb_z 140, .ref q], m', cb', sb')) hd_295_182 rfl rfl ?_
          obtain ⟨t2, ht2⟩ : ∃ t2, mm_mths[296]? = some t2 := ⟨_, rfl⟩
          have hb2 : (mm_mths[296]?).map (fun t => (t.1, decide (2 ≤ t.2.2.2.1), t.2.2.2.2.2.1, t.2.2.2.2.2.2.1)) = some (12, true, 1, 1) := rfl
          rw [ht2] at hb2
          have hb3 := Option.some.inj hb2
          obtain ⟨fs, hfs⟩ := hb_obj i1 hq
          refine hb_virt1 (t := t2) (y := 296) hd_295_185 rfl ht2 (congrArg Prod.fst hb3) (of_decide_eq_true (congrArg (fun a => a.2.1) hb3)) (congrArg (fun a => a.2.2.1) hb3) (congrArg (fun a => a.2.2.2) hb3) rfl rfl hfs (wa_main hO ht2 (by omega) hq hqw k10 i4 (by omega) i10 i1 i2) (fun τ2 cb2 sb2 hτ => ?_)
          obtain ⟨z, z1, zi, z2, z3⟩ := hτ
          refine ⟨_, z1, ?_⟩
          rw [z2]
          by_cases hz : z ≤ 0
          · have hP1 : mm_P1 .le (Int32.ofInt z) = true := decide_eq_true (by
              rw [Int32.le_iff_toInt_le, se_ofInt zi.1 zi.2]
              exact hz)
            refine mm_T_step (σ' := (209, lc', [], m', cb2, sb2)) hd_295_188 rfl (by simp [mm_stp, mm_pure, mm_if1, show mm_tgt 188 21 = some 209 from rfl, hb_z, hP1]) ?_
            refine se_sho_ok (C := []) (lvl := 1) hO.1 hO.2.1 hO.2.2 (Nat.le_refl 1) (fun c hc => absurd hc List.not_mem_nil) (by omega) ht sS_nc env3 (gl3 hlc') (hb_mf (q := q) (z := 14) (hb_vr rfl) (hb_vc _ _ _) (by decide) (hb_kd (by decide) (by decide)) (hb_vc _ _ _) (by rw [hx] at k14; exact k14) (hb_mf0 _ _)) (hb_pf0 _) i1 i2 (fun T hT => ?_)
            rcases List.mem_cons.mp hT with rfl | hT
            · intro τ lc2 m2 cb3 sb3 hρ2 he2 hM2 hP2 htm2 hJ2 hap2 hfq2
              refine ⟨fun e => absurd rfl e, fun _ pc sc v hv hrv => ?_⟩
              cases hb_ap0 (hap2 _ rfl)
              exact re_r0 hv (hrv _ rfl) htm2 hJ2 hC
            · exact absurd hT List.not_mem_nil
          · obtain ⟨j, j1, j2⟩ := z3 (by omega)
            have hP1 : mm_P1 .le (Int32.ofInt z) = false := decide_eq_false (by
              rw [Int32.le_iff_toInt_le, se_ofInt zi.1 zi.2]
              exact hz)
            refine mm_T_step (σ' := (191, lc', [], m', cb2, sb2)) hd_295_188 rfl (by simp [mm_stp, mm_pure, mm_if1, show mm_tgt 188 21 = some 209 from rfl, hb_z, hP1]) ?_
            refine re_call1 hO (by omega) hp hq hqc hqw k9 k10 hI l0 hd_295_191 hd_295_192 hd_295_193 (fun n' w' m2 cb3 sb3 hI2 hR htop => ?_)
            have hjw : j < w' := by
              rcases Nat.lt_or_ge j w' with h | h
              · exact h
              · exact absurd j2 (hR.2.2.2.2.2.1 j h j1)
            rcases htop with h0 | ⟨k, hk, htop⟩
            · omega
            · subst hk
              have hsw : n' + (k + 1) = n + w := hR.2.2.2.2.1
              have hki := hb_k (k + 1) (by omega)
              have hki' := hb_k k (by omega)
              refine se_sho_ok (C := []) (lvl := 1) (ρ := [.ref q, hb_z (p : Int), hb_z mN, hb_z ((k + 1 : Nat) : Int)]) hO.1 hO.2.1 hO.2.2 (Nat.le_refl 1) (fun c hc => absurd hc List.not_mem_nil) (by omega) ht sS_nd (hb_env ⟨rfl, hb_kr hq, rfl, hb_kz hpi (by omega) (by omega), rfl, hb_kz hmi hm0 hm1, rfl, hb_kz hki (by omega) (by omega), trivial⟩) (hb_gl hlc' ⟨hb_vr rfl, hb_vz1 rfl, hb_vc _ _ _, hb_vz1 rfl, trivial⟩) (hb_mf (q := q) (z := 17) (hb_vr rfl) (hb_vc _ _ _) (by decide) (hb_kd (by decide) (by decide)) (hb_vz1 rfl) hI2.2.2.2.1 (hb_mf0 _ _)) (hb_pf0 _) hI2.1 hI2.2.1 (fun T hT => ?_)
              rcases List.mem_cons.mp hT with rfl | hT
              · intro τ lc2 m3 cb4 sb4 hρ2 he2 hM2 hP2 htm2 hJ2 hap2 hfq2
                refine ⟨fun _ hg2 => ?_, fun e => absurd e (by decide)⟩
                obtain ⟨m4, hap3, e1⟩ := hb_ap (hap2 _ rfl) (hb_vr (hb_at hρ2 rfl)) (hb_vc _ _ _) (hb_kd (by decide) (by decide)) (hb_vs (w := (k : Int)) (hb_at hρ2 rfl) (by omega))
                have e2 := hb_ap0 hap3
                subst e2
                obtain ⟨g1, g2⟩ := re_pop hq hqc hqw hI2 htop htm2 hJ2 e1
                exact hgo 0 mN n' k m3 lc2 cb4 sb4 (Or.inl rfl) hm0 hm1 g1 (re_Ct hC (re_Ct (st_RC hR) ⟨hfq2, fun i _ => g2 i⟩)) (hb_lcof hg2 ⟨hb_vr (hb_at hρ2 rfl), hb_vz1 (hb_at hρ2 rfl), hb_vc _ _ _, hb_vz1 (hb_at hρ2 rfl), trivial⟩)
              · exact absurd hT List.not_mem_nil
        · rcases List.mem_cons.mp hT with rfl | hT
          · -- a stop
            intro τ lc' m' cb' sb' hρ he hM hP htm' hJ' hap hfq
            refine ⟨fun _ hg => ?_, fun e => absurd e (by decide)⟩
            obtain ⟨r1, r2⟩ := hb_rng (k := 3) he rfl (hb_at hρ rfl) hxi
            have hx : x = 159 := by omega
            have em := hb_ap0 (hap _ rfl)
            subst em
            have hlc' := hb_lcof (l := [some (.ref q), some (hb_z (p : Int)), some (hb_z 0), some (hb_z mN)]) hg ⟨hb_vr (hb_at hρ rfl), hb_vz1 (hb_at hρ rfl), hb_vc _ _ _, hb_vz1 (hb_at hρ rfl), trivial⟩
            refine se_sho_ok (C := [sc_227]) (lvl := 2) hO.1 hO.2.1 hO.2.2 (by decide) hCw (by omega) ht sS_ne env3 (gl3 hlc') (hb_mf (q := q) (z := 14) (hb_vr rfl) (hb_vc _ _ _) (by decide) (hb_kd (by decide) (by decide)) (hb_vc _ _ _) (by rw [hx] at k14; exact k14) (hb_mf0 _ _)) (hb_pf0 _) i1 i2 (fun T hT => ?_)
            rcases List.mem_cons.mp hT with rfl | hT
            · intro τ lc2 m2 cb3 sb3 hρ2 he2 hM2 hP2 htm2 hJ2 hap2 hfq2
              refine ⟨fun e => absurd rfl e, fun _ pc sc v hv hrv => ?_⟩
              cases hb_ap0 (hap2 _ rfl)
              exact re_r0 hv (hrv _ rfl) htm2 hJ2 hC
            · rcases List.mem_cons.mp hT with rfl | hT
              · intro τ lc2 m2 cb3 sb3 hρ2 he2 hM2 hP2 htm2 hJ2 hap2 hfq2
                refine ⟨fun _ hg2 => ?_, fun e => absurd e (by decide)⟩
                have em := hb_ap0 (hap2 _ rfl)
                subst em
                have hlc2 := hb_lcof (l := [some (.ref q), some (hb_z (p : Int)), some (hb_z 0), some (hb_z mN)]) hg2 ⟨hb_vr (hb_at hρ2 rfl), hb_vz1 (hb_at hρ2 rfl), hb_vc _ _ _, hb_vz1 (hb_at hρ2 rfl), trivial⟩
                refine re_call1 hO (by omega) hp hq hqc hqw k9 k10 hI (hlc2 0 _ rfl) hd_295_229 hd_295_230 hd_295_231 (fun n' w' m3 cb4 sb4 hI2 hR htop => ?_)
                have hsw : n' + w' = n + w := hR.2.2.2.2.1
                obtain ⟨u1, u2, u3, u4, u5, u6, u7, u8, u9, u10⟩ := id hI2
                have hsi := hb_k (163 * p + 1 + n') (by omega)
                have vp : ∀ ρ : List Value, se_v ρ (0, 0, 1 * (p : Int) + 0) = some (hb_z (p : Int)) := fun ρ => by rw [Int.one_mul, Int.add_zero]; rfl
                refine se_sho_ok (C := []) (lvl := 1) (ρ := [.ref q, hb_z ((163 * p + 1 + n' : Nat) : Int), .ref qc]) hO.1 hO.2.1 hO.2.2 (Nat.le_refl 1) (fun c hc => absurd hc List.not_mem_nil) (by omega) ht (sS_nf p hp) (hb_env ⟨rfl, hb_kr hq, rfl, hb_kz hsi (by omega) (by omega), rfl, hb_kr hqc, trivial⟩) (hb_gl hlc2 ⟨hb_vr rfl, vp _, trivial⟩) (hb_mf (q := q) (z := 16) (hb_vr rfl) (hb_vc _ _ _) (by decide) (hb_kd (by decide) (by decide)) (hb_vz1 rfl) u3 (hb_mf (q := q) (z := 9) (hb_vr rfl) (hb_vc _ _ _) (by decide) (hb_kd (by decide) (by decide)) (hb_vr rfl) ((hR.2.1 9 (by decide) (by decide)).trans k9) (hb_mf0 _ _))) (hb_pf0 _) u1 u2 (fun T hT => ?_)
                rcases List.mem_cons.mp hT with rfl | hT
                · intro τ lc3 m4 cb5 sb5 hρ3 he3 hM3 hP3 htm3 hJ3 hap3 hfq3
                  refine ⟨fun e => absurd rfl e, fun _ pc sc v hv hrv => ?_⟩
                  obtain ⟨xv, rfl, hxv⟩ := hrv _ rfl
                  rw [hb_vc] at hxv
                  cases hxv
                  have vq : ∀ ρ : List Value, se_v ρ (0, 0, 163 * (p : Int) + 0) = some (hb_z ((163 * p : Nat) : Int)) := fun ρ => by rw [show (163 : Int) * (p : Int) + 0 = ((163 * p : Nat) : Int) by omega]; rfl
                  obtain ⟨m5, hap4, e1⟩ := hb_ap (hap3 _ rfl) (hb_vr (hb_at hρ3 rfl)) (vq _) (hb_k _ (by omega)) (hb_vs (w := (n' : Int)) (hb_at hρ3 rfl) (by omega))
                  have e2 := hb_ap0 hap4
                  subst e2
                  have e1 : m4 = se_set m5 qc (163 * p) (hb_z (n' : Int)) := e1
                  obtain ⟨oc, hoc, -⟩ := hb_at61 (i := 163 * p) u1 hqc (by omega)
                  have gs : se_get m4 qc (163 * p) = some (hb_z (n' : Int)) := by
                    rw [e1]
                    exact se_get_set hoc
                  have gn : ∀ i, i ≠ 163 * p → se_get m4 qc i = se_get m5 qc i := fun i hi => by rw [e1, se_get_set_ne (Or.inr hi)]
                  refine ⟨1, hv, Or.inr rfl, htm3, hJ3, re_Ct hC (re_Ct (st_RC hR) ⟨hfq3, fun i hi => gn i (by omega)⟩), fun _ => ?_⟩
                  show rw_row m4 qc (163 * p)
                  unfold rw_row
                  rw [rw_vz gs (hb_k _ (by omega)), Int.toNat_natCast, Nat.min_eq_left (by omega)]
                  exact rw_okc (fun k hk => (rw_vc (gn _ (by omega))).symm) u8
                · exact absurd hT List.not_mem_nil
              · exact absurd hT List.not_mem_nil
          · have fin : ∀ (c r : Int) {T : se_Th}, T = (300, ([(((91, 0, 0), 0, (0, 0, 0), (0, 0, 0)), (3, (0, 0, 0), (0, 0, 0))), (((0, 0, 2), 0, (0, 0, 0), (0, 0, 0)), (3, (0, 1, 0), (0, 0, 0))), (((0, 0, 1), 0, (0, 0, 0), (0, 0, 0)), (3, (0, 2, 0), (0, 0, 0))), (((0, c, c), 0, (0, 0, 0), (0, 0, 0)), (3, (0, 3, 0), (0, 0, 0)))], [some (1, 0, 0), some (1, 1, 0), some (0, 0, 0), some (1, 2, 0), some (0, 0, r)], [], []), some []) → 1 ≤ r → r ≤ 5 → c ∈ re_S → ¬ (c = 140 ∨ c = 15) → se_Ah ty se_tt [(61, 0, 489), (62, 0, 200), (89, 12, 18)] J kx zs (re_Q ty J qc p m0 t) (d + 1) 295 t [.ref q, hb_z (p : Int), hb_z mN, hb_z x] m T := fun c r T hTT hr1 hr2 hc1 hc2 => by
              subst hTT
              intro τ lc' m' cb' sb' hρ he hM hP htm' hJ' hap hfq
              refine ⟨fun _ hg => ?_, fun e => absurd e (show ¬ (300 : Nat) = 99999 by decide)⟩
              obtain ⟨r1, r2⟩ := hb_rng (k := 3) he rfl (hb_at hρ rfl) hxi
              have hx : x = c := by omega
              cases hb_ap0 (hap _ rfl)
              exact sign (r := r) hρ hr1 hr2 (by rw [hx]; exact hc1) (by rw [hx]; exact hc2) hg
            rcases List.mem_cons.mp hT with rfl | hT
            · exact fin 160 4 rfl (by decide) (by decide) (by decide) (by decide)
            · rcases List.mem_cons.mp hT with rfl | hT
              · exact fin 161 4 rfl (by decide) (by decide) (by decide) (by decide)
              · rcases List.mem_cons.mp hT with rfl | hT
                · exact fin 143 5 rfl (by decide) (by decide) (by decide) (by decide)
                · rcases List.mem_cons.mp hT with rfl | hT
                  · exact fin 145 5 rfl (by decide) (by decide) (by decide) (by decide)
                  · exact absurd hT List.not_mem_nil
end HH
