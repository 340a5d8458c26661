/-! ===== by hand: the text that empties the tape (84's sm_h2, for a text's number) ===== -/
section HTY
variable {ty : Nat → Option Nat} {kx : Nat} {zs : List mm_Zt} {J : List mm_C → Prop} {Q : mm_S → Prop} {d : Nat}
theorem hb_finM {c : se_C} {t : mm_Mt} {ρ0 : List Value} {m0 m : List mm_C} {pc cb sb : Nat} {lc : List (Nat × Value)} {sc : List Value} {v : Option Value} {z : Int} {Mx : se_M} (hv : mm_ret t (pc, lc, sc, m, cb, sb) = some v) (hx : v = some (hb_z z)) (hz : hb_i z) (he : se_env ty ρ0 (c.2.1.1.map Prod.fst)) (hc : ([(((0, se_lo, se_hi), 0, (0, 0, 0), (0, 0, 0)), (0, (0, 0, 0), (0, 0, 0)))], some (1, ρ0.length, 0), Mx, []) ∈ c.2.2.1) (hmf : se_mf (ρ0 ++ [hb_z z]) Mx m) (htm : se_tm ty se_tt m) (hJ : J m) (hfq : se_fq ty c.2.2.2 m0 m) : se_Q ty se_tt J c t ρ0 m0 (pc, lc, sc, m, cb, sb) := by
  refine ⟨v, hv, _, hc, [hb_z z], ?_, hmf, hb_pf0 _, (fun q => by cases q), fun rv q => ?_, htm, hJ, hfq⟩
  · exact se_env_new he (se_dok0 (hb_kz hz hz.1 hz.2))
  · cases q
    exact ⟨_, hx, hb_vz1 (by simp)⟩
theorem sm_t1 (hO : se_Ok ty (rw_J ty) kx zs) : se_Met ty se_tt (rw_J ty) kx zs sc_t1 := by
  intro d t ρ As m0 hd ht he hgl hM hP htm hJm
  have hd : 52 ≤ d := hd
  have ht : mm_mths[287]? = some t := ht
  obtain ⟨w, w1, w2⟩ := he.2 0 _ rfl
  obtain ⟨q, rfl, hq⟩ := w2.1
  obtain ⟨u, u1, ui, ul, uh⟩ := hb_new he (k := 1) rfl
  have hρ := hb_l2 (show ρ.length = 2 from he.1) w1 u1
  subst hρ
  obtain ⟨x0, x1, x2⟩ := hgl 0 (1, 0, 0) rfl
  rw [hb_vr rfl] at x2
  cases x2
  obtain ⟨y0, y1, y2⟩ := hgl 1 (1, 1, 0) rfl
  rw [hb_vz1 rfl] at y2
  cases y2
  have hlc : hb_lc [some (.ref q), some (hb_z u)] (lv_args 0 As) := fun i x hx => by
    match i, hx with
    | 0, hx => cases hx; exact x1
    | 1, hx => cases hx; exact y1
    | i + 2, hx => simp at hx
  obtain ⟨qn, g0, hn⟩ := hb_now htm hq
  obtain ⟨qc, g9, hqc⟩ := hb_code htm hq
  obtain ⟨qw, g10, hqw⟩ := hb_waits htm hq
  have hfi : sx_fi 287 = mm_fi t := sx_cods_mths ht
  obtain ⟨d', rfl⟩ : ∃ d', d = d' + 3 := ⟨d - 3, by omega⟩
  have hT : mm_T kx zs (se_Q ty se_tt (rw_J ty) sc_t1 t [.ref q, hb_z u] m0) [] (d' + 3) (sx_fi 287) (mm_ent 287 As m0) := by
    refine se_sho_ok (J := fun _ => True) (Z := []) (C := []) (lvl := 1) (tt := se_tf) (ρ := [.ref q, hb_z u]) (fun _ _ _ _ => trivial) hO.2.1 hO.2.2 (Nat.le_refl 1) (fun c hc => absurd hc List.not_mem_nil) (by omega) ht sS_txg (hb_env ⟨rfl, hb_kr hq, rfl, hb_kz ui ul uh, trivial⟩) (hb_gl hlc ⟨hb_vr rfl, hb_vz1 rfl, trivial⟩) (hb_mf0 _ _) (hb_pf0 _) (hb_tf htm) trivial (fun T hT => ?_)
    · rcases List.mem_cons.mp hT with rfl | hT
      · intro τ lc' m' cb' sb' hρ he2 hM2 hP2 htm2 _ hap hfq
        refine ⟨fun _ hg => ?_, fun e => absurd e (by decide)⟩
        have em := hb_ap0 (hap _ rfl)
        subst em
        obtain ⟨r1, r2⟩ := hb_rng (k := 1) he2 rfl (hb_at hρ rfl) ui
        obtain ⟨u', rfl⟩ := Int.eq_ofNat_of_zero_le r1
        have hlc' := hb_lcof (l := [some (.ref q), some (hb_z (u' : Int))]) hg ⟨hb_vr (hb_at hρ rfl), hb_vz1 (hb_at hρ rfl), trivial⟩
        have l0 : mm_lget lc' 0 = some (.ref q) := hlc' 0 _ rfl
        have l1 : mm_lget lc' 1 = some (hb_z (u' : Int)) := hlc' 1 _ rfl
        show mm_T kx zs _ [] (d' + 3) (sx_fi 287) (16, lc', [], m', cb', sb')
        refine mm_T_step (σ' := (17, lc', [.ref q], m', cb', sb')) hd_287_16 rfl (by simp [mm_stp, mm_pure, mm_lda, l0]) ?_
        obtain ⟨t2, ht2⟩ : ∃ t2, mm_mths[288]? = some t2 := ⟨_, rfl⟩
        have hb2 : (mm_mths[288]?).map (fun t => (t.1, decide (1 ≤ t.2.2.2.1), t.2.2.2.2.2.1, t.2.2.2.2.2.2.1)) = some (12, true, 0, 1) := rfl
        rw [ht2] at hb2
        have hb3 := Option.some.inj hb2
        obtain ⟨fs, hfs⟩ := hb_obj htm hq
        refine hb_virt0 (t := t2) (y := 288) hd_287_17 rfl ht2 (congrArg Prod.fst hb3) (of_decide_eq_true (congrArg (fun a => a.2.1) hb3)) (congrArg (fun a => a.2.2.1) hb3) (congrArg (fun a => a.2.2.2) hb3) rfl hfs (rd_main hO ht2 (by omega) hq hqc hqw g9 g10 htm hJm) (fun τ2 cb2 sb2 hτ => ?_)
        obtain ⟨v, v1, v2, v3, v4, v5, v6⟩ := hτ
        refine ⟨_, v1, ?_⟩
        have hnL : (sx_fi 287).2.2.1 = 4 := rfl
        refine mm_T_step (σ' := (21, mm_l1 lc' 2 (hb_z v), [], τ2.2.2.2.1, cb2, sb2)) hd_287_20 rfl (by simp [mm_stp, mm_pure, mm_sti, hnL, hb_z]) ?_
        have hlc2 : hb_lc [some (.ref q), some (hb_z (u' : Int)), some (hb_z v)] (mm_l1 lc' 2 (hb_z v)) := fun i x hx => by
          match i, hx with
          | 0, hx => cases hx; exact mm_lget_l1 l0 (by decide) (fun q => by have := q.2; simp [Value.category] at this)
          | 1, hx => cases hx; exact mm_lget_l1 l1 (by decide) (fun q => by have := q.2; simp [Value.category, hb_z] at this)
          | 2, hx => cases hx; exact mm_lget_l1s
          | i + 3, hx => simp at hx
        generalize τ2.2.2.2.1 = m2 at v3 v4 v5 v6 ⊢
        have kq : ∀ i, i < 12 → se_get m2 q i = se_get m' q i := fun i hi => v5.2 q 89 i hq (fun u hu e => by
          rcases List.mem_cons.mp hu with rfl | hu
          · cases e
          · rcases List.mem_cons.mp hu with rfl | hu
            · cases e
            · rcases List.mem_cons.mp hu with rfl | hu
              · exact Or.inl hi
              · exact absurd hu List.not_mem_nil)
        have hui := hb_k u' (by omega)
        have hW5 : se_fq ty sc_t1.2.2.2 m' m2 := ⟨v5.1, fun p t i hp hu => v5.2 p t i hp (fun w hw e => by
          rcases List.mem_cons.mp hw with rfl | hw
          · exact hu (61, 0, 489) (by decide) e
          · rcases List.mem_cons.mp hw with rfl | hw
            · exact hu (62, 0, 200) (by decide) e
            · rcases List.mem_cons.mp hw with rfl | hw
              · have a1 := hu (89, 12, 13) (by decide) e
                have a2 := hu (89, 13, 14) (by decide) e
                have a3 := hu (89, 14, 15) (by decide) e
                have a4 := hu (89, 15, 16) (by decide) e
                have a5 := hu (89, 16, 17) (by decide) e
                have a6 := hu (89, 17, 18) (by decide) e
                dsimp only at a1 a2 a3 a4 a5 a6 ⊢
                omega
              · exact absurd hw List.not_mem_nil)⟩
        have k6 : se_seg (se_tt 89).2.2.2 6 = (0, 0, 160) := by decide +kernel
        have htm6 : se_tm ty se_tt (se_set m2 q 6 (hb_z 0)) := se_tm_set v3 hq (by rw [k6]; exact hb_kz (hb_kd (by decide) (by decide)) (by decide) (by decide))
        obtain ⟨y6, hy6, -⟩ := se_tc_get (i := 6) (v3 q 89 hq) (show 6 < 26 by decide)
        have k6g : se_get (se_set m2 q 6 (hb_z 0)) q 6 = some (hb_z 0) := se_get_set hy6
        have hqn' : q ≠ qn := hb_ne hq hn (by decide)
        have hJ6 : rw_J ty (se_set m2 q 6 (hb_z 0)) := hb_set_J hq (by decide) v4
        have hf6 : se_fq ty sc_t1.2.2.2 m' (se_set m2 q 6 (hb_z 0)) := hb_fq_t hW5 (hb_set_fq hq ⟨(89, 6, 7), by decide, rfl, by decide, by decide⟩)
        rcases v2 with rfl | rfl
        · refine se_sho_ok (J := fun _ => True) (Z := []) (C := []) (lvl := 1) (tt := se_tf) (ρ := [.ref q, hb_z (u' : Int)]) (fun _ _ _ _ => trivial) hO.2.1 hO.2.2 (Nat.le_refl 1) (fun c hc => absurd hc List.not_mem_nil) (by omega) ht sS_txb (hb_env ⟨rfl, hb_kr hq, rfl, hb_kz hui (by omega) r2, trivial⟩) (hb_gl hlc2 ⟨hb_vr rfl, hb_vz1 rfl, hb_vc _ _ _, trivial⟩) (hb_mf0 _ _) (hb_pf0 _) (hb_tf v3) trivial (fun T hT => ?_)
          rcases List.mem_cons.mp hT with rfl | hT
          · intro τ lc3 m3 cb3 sb3 hρ3 he3 hM3 hP3 htm3 _ hap3 hfq3
            refine ⟨fun e => absurd rfl e, fun _ pc sc v hv hrv => ?_⟩
            obtain ⟨m4, hap4, rfl⟩ := hb_ap (hap3 _ rfl) (hb_vr (hb_at hρ3 rfl)) (hb_vc _ _ _) (hb_kd (by decide) (by decide)) (hb_vc _ _ _)
            cases hb_ap0 hap4
            obtain ⟨z, hz, hzi, -, -⟩ := hb_new he3 (k := 2) rfl
            obtain ⟨x, hvx, hx⟩ := hrv _ rfl
            rw [hb_vz1 hz] at hx
            cases hx
            exact hb_finM hv hvx hzi he List.mem_cons_self (hb_mf (q := q) (z := 6) (hb_vr rfl) (hb_vc _ _ _) (by decide) (hb_kd (by decide) (by decide)) (hb_vc _ _ _) k6g (hb_mf0 _ _)) htm6 hJ6 hf6
          · exact absurd hT List.not_mem_nil
        · refine se_sho_ok (J := fun _ => True) (Z := []) (C := []) (lvl := 1) (tt := se_tf) (ρ := [.ref q, hb_z (u' : Int)]) (fun _ _ _ _ => trivial) hO.2.1 hO.2.2 (Nat.le_refl 1) (fun c hc => absurd hc List.not_mem_nil) (by omega) ht sS_txc (hb_env ⟨rfl, hb_kr hq, rfl, hb_kz hui (by omega) r2, trivial⟩) (hb_gl hlc2 ⟨hb_vr rfl, hb_vz1 rfl, hb_vc _ _ _, trivial⟩) (hb_mf0 _ _) (hb_pf0 _) (hb_tf v3) trivial (fun T hT => ?_)
          rcases List.mem_cons.mp hT with rfl | hT
          · intro τ lc3 m3 cb3 sb3 hρ3 he3 hM3 hP3 htm3 _ hap3 hfq3
            refine ⟨fun _ hg3 => ?_, fun e => absurd e (by decide)⟩
            obtain ⟨m4, hap4, rfl⟩ := hb_ap (hap3 _ rfl) (hb_vr (hb_at hρ3 rfl)) (hb_vc _ _ _) (hb_kd (by decide) (by decide)) (hb_vc _ _ _)
            have em := hb_ap0 hap4
            subst em
            have gq6 : ∀ i, i ≠ 6 → se_get (se_set m4 q 6 (hb_z 0)) q i = se_get m4 q i := fun i hi => se_get_set_ne (Or.inr hi)
            have hqc' : qc ≠ q := hb_ne hqc hq (by decide)
            refine tx_loop hO ht (by omega) (u := u') (by omega) hq hn hqc ((gq6 0 (by decide)).trans ((kq 0 (by decide)).trans g0)) ((gq6 9 (by decide)).trans ((kq 9 (by decide)).trans g9)) (fun lc m cb sb hcp hlc => ?_) 489 0 lc3 _ cb3 sb3 rfl ⟨htm6, fun _ _ => rfl, fun j hj => absurd hj (Nat.not_lt_zero j), fun _ _ => rfl⟩ (hb_lcof hg3 ⟨hb_vr (hb_at hρ3 rfl), hb_vz1 (hb_at hρ3 rfl), hb_vc _ _ _, hb_vc _ _ _, trivial⟩)
            refine se_sho_ok (J := fun _ => True) (Z := []) (C := []) (lvl := 1) (tt := se_tf) (ρ := [.ref q, hb_z (u' : Int)]) (fun _ _ _ _ => trivial) hO.2.1 hO.2.2 (Nat.le_refl 1) (fun c hc => absurd hc List.not_mem_nil) (by omega) ht sS_txe (hb_env ⟨rfl, hb_kr hq, rfl, hb_kz hui (by omega) r2, trivial⟩) (hb_gl hlc ⟨hb_vr rfl, hb_vz1 rfl, hb_vc _ _ _, hb_vc _ _ _, trivial⟩) (hb_mf0 _ _) (hb_pf0 _) (hb_tf hcp.1) trivial (fun T hT => ?_)
            rcases List.mem_cons.mp hT with rfl | hT
            · intro τ lc5 m5 cb5 sb5 hρ5 he5 hM5 hP5 htm5 _ hap5 hfq5
              refine ⟨fun e => absurd rfl e, fun _ pc sc v hv hrv => ?_⟩
              cases hb_ap0 (hap5 _ rfl)
              obtain ⟨x, hvx, hx⟩ := hrv _ rfl
              rw [hb_vc] at hx
              cases hx
              refine hb_finM hv hvx (hb_kd (by decide) (by decide)) he List.mem_cons_self (hb_mf (q := q) (z := 6) (hb_vr rfl) (hb_vc _ _ _) (by decide) (hb_kd (by decide) (by decide)) (hb_vc _ _ _) ((hb_geq (hcp.2.1 q hqn')).trans k6g) (hb_mf0 _ _)) hcp.1 (tx_J (by omega) hn hcp hJ6 (fun p hp => rw_rowc (fun i _ => (rw_vc (se_get_set_ne (Or.inl hqc'))).symm) (v6 rfl p hp))) (hb_fq_t hf6 ⟨fun p hp => hcp.2.1 p (fun e => by rw [e, hn] at hp; cases hp), fun p t i hp hu => ?_⟩)
              by_cases e : p = qn
              · subst e
                rw [hn] at hp
                cases hp
                have := hu (56, 528, 2973) (by decide) rfl
                dsimp only at this
                rcases this with r | r
                · exact hcp.2.2.2 i (Or.inl (by omega))
                · exact hcp.2.2.2 i (Or.inr (by omega))
              · exact hb_geq (hcp.2.1 p e)
            · exact absurd hT List.not_mem_nil
          · exact absurd hT List.not_mem_nil
      · exact absurd hT List.not_mem_nil
  obtain ⟨n, τ, r1, v, r2, r3⟩ := hT
  rw [hfi] at r1
  exact ⟨n, τ, v, r1, r2, r3⟩
end HTY
