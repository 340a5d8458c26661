/-! ===== by hand: image and restore of the reference, with what they carry over ===== -/
section HTI
variable {ty : Nat → Option Nat} {kx : Nat} {zs : List mm_Zt} {J : List mm_C → Prop} {Q : mm_S → Prop} {d : Nat}
theorem hb_finR {c : se_C} {t : mm_Mt} {ρ0 : List Value} {m0 m : List mm_C} {pc cb sb : Nat} {lc : List (Nat × Value)} {sc : List Value} {v : Option Value} {x : Value} {rv : se_V} {Mx : se_M} (hv : mm_ret t (pc, lc, sc, m, cb, sb) = some v) (hx : v = some x) (he : se_env ty ρ0 (c.2.1.1.map Prod.fst)) (hc : ([], some rv, Mx, []) ∈ c.2.2.1) (hr : se_v ρ0 rv = some x) (hmf : se_mf ρ0 Mx m) (htm : se_tm ty se_tt m) (hJ : J m) (hfq : se_fq ty c.2.2.2 m0 m) : se_Q ty se_tt J c t ρ0 m0 (pc, lc, sc, m, cb, sb) := by
  refine ⟨v, hv, _, hc, [], ?_, by rw [List.append_nil]; exact hmf, hb_pf0 _, (fun q => by cases q), fun rv' q => ?_, htm, hJ, hfq⟩
  · rw [List.append_nil]
    show se_env ty ρ0 (c.2.1.1.map Prod.fst ++ [])
    rw [List.append_nil]
    exact he
  · cases q
    exact ⟨_, hx, by rw [List.append_nil]; exact hr⟩
theorem hb_l6 {ρ : List Value} {a b c d e f : Value} (h : ρ.length = 6) (h0 : ρ[0]? = some a) (h1 : ρ[1]? = some b) (h2 : ρ[2]? = some c) (h3 : ρ[3]? = some d) (h4 : ρ[4]? = some e) (h5 : ρ[5]? = some f) : ρ = [a, b, c, d, e, f] := by
  match ρ, h, h0, h1, h2, h3, h4, h5 with
  | [_, _, _, _, _, _], _, h0, h1, h2, h3, h4, h5 => simp at h0 h1 h2 h3 h4 h5; rw [h0, h1, h2, h3, h4, h5]
theorem hb_l7 {ρ : List Value} {a b c d e f g : Value} (h : ρ.length = 7) (h0 : ρ[0]? = some a) (h1 : ρ[1]? = some b) (h2 : ρ[2]? = some c) (h3 : ρ[3]? = some d) (h4 : ρ[4]? = some e) (h5 : ρ[5]? = some f) (h6 : ρ[6]? = some g) : ρ = [a, b, c, d, e, f, g] := by
  match ρ, h, h0, h1, h2, h3, h4, h5, h6 with
  | [_, _, _, _, _, _, _], _, h0, h1, h2, h3, h4, h5, h6 => simp at h0 h1 h2 h3 h4 h5 h6; rw [h0, h1, h2, h3, h4, h5, h6]
theorem sm_i3 (hO : se_Ok ty (rw_J ty) kx zs) : se_Met ty se_tt (rw_J ty) kx zs sc_i3 := by
  intro d t ρ As m0 hd ht he hgl hM hP htm hJm
  have hd : 13 ≤ d := hd
  have ht : mm_mths[327]? = some t := ht
  obtain ⟨w0, a0, b0⟩ := he.2 0 _ rfl
  obtain ⟨q, rfl, hq⟩ := b0.1
  obtain ⟨w1, a1, b1⟩ := he.2 1 _ rfl
  obtain ⟨qn, rfl, hn⟩ := b1.1
  obtain ⟨w2, a2, b2⟩ := he.2 2 _ rfl
  obtain ⟨qk, rfl, hk⟩ := b2.1
  obtain ⟨z0, a3, i3, -, -⟩ := hb_new he (k := 3) rfl
  obtain ⟨z1, a4, i4, -, -⟩ := hb_new he (k := 4) rfl
  obtain ⟨z3, a5, i5, -, -⟩ := hb_new he (k := 5) rfl
  have hρ := hb_l6 (show ρ.length = 6 from he.1) a0 a1 a2 a3 a4 a5
  subst hρ
  obtain ⟨x0, x1, x2⟩ := hgl 0 (1, 0, 0) rfl
  rw [hb_vr rfl] at x2
  cases x2
  have hlc : hb_lc [some (.ref q)] (lv_args 0 As) := fun i x hx => by
    match i, hx with
    | 0, hx => cases hx; exact x1
    | i + 1, hx => simp at hx
  have g0 : se_get m0 q 0 = some (.ref qn) := hb_mat (z := 0) hM (List.mem_of_getElem? (i := 0) rfl) (hb_vr rfl) (hb_vc _ _ _) (hb_kd (by decide) (by decide)) (hb_vr rfl)
  have g1 : se_get m0 q 1 = some (.ref qk) := hb_mat (z := 1) hM (List.mem_of_getElem? (i := 1) rfl) (hb_vr rfl) (hb_vc _ _ _) (hb_kd (by decide) (by decide)) (hb_vr rfl)
  have k0 : se_get m0 qn 0 = some (hb_z z0) := hb_mat (z := 0) hM (List.mem_of_getElem? (i := 2) rfl) (hb_vr rfl) (hb_vc _ _ _) (hb_kd (by decide) (by decide)) (hb_vz1 rfl)
  have k1 : se_get m0 qn 1 = some (hb_z z1) := hb_mat (z := 1) hM (List.mem_of_getElem? (i := 3) rfl) (hb_vr rfl) (hb_vc _ _ _) (hb_kd (by decide) (by decide)) (hb_vz1 rfl)
  have k3 : se_get m0 qn 3 = some (hb_z z3) := hb_mat (z := 3) hM (List.mem_of_getElem? (i := 4) rfl) (hb_vr rfl) (hb_vc _ _ _) (hb_kd (by decide) (by decide)) (hb_vz1 rfl)
  have hqk : q ≠ qk := hb_ne hq hk (by decide)
  have hnk : qn ≠ qk := hb_ne hn hk (by decide)
  have hkq : qk ≠ q := fun e => hqk e.symm
  have hfi : sx_fi 327 = mm_fi t := sx_cods_mths ht
  have hT : mm_T kx zs (se_Q ty se_tt (rw_J ty) sc_i3 t [.ref q, .ref qn, .ref qk, hb_z z0, hb_z z1, hb_z z3] m0) [] d (sx_fi 327) (mm_ent 327 As m0) := by
    refine se_sho_ok (J := fun _ => True) (Z := []) (C := []) (lvl := 1) (tt := se_tf) (ρ := [.ref q]) (fun _ _ _ _ => trivial) hO.2.1 hO.2.2 (Nat.le_refl 1) (fun c hc => absurd hc List.not_mem_nil) hd ht sS_ima (hb_env ⟨rfl, hb_kr hq, trivial⟩) (hb_gl hlc ⟨hb_vr rfl, trivial⟩) (hb_mf0 _ _) (hb_pf0 _) (hb_tf htm) trivial (fun T hT => ?_)
    rcases List.mem_cons.mp hT with rfl | hT
    · intro τ lc m cb sb hρ he2 hM2 hP2 htm2 _ hap hfq
      refine ⟨fun _ hg => ?_, fun e => absurd e (by decide)⟩
      cases hb_ap0 (hap _ rfl)
      refine im_loop hO ht hd hq hn hk g0 g1 (fun lc m cb sb hcp hlc => ?_) 2973 0 lc m0 cb sb rfl ⟨htm, fun _ _ => rfl, fun j hj => absurd hj (Nat.not_lt_zero j), fun _ => rfl⟩ (hb_lcof hg ⟨hb_vr (hb_at hρ rfl), hb_vc _ _ _, trivial⟩)
      refine se_sho_ok (J := fun _ => True) (Z := []) (C := []) (lvl := 1) (tt := se_tf) (ρ := [.ref q, .ref qn, hb_z z3]) (fun _ _ _ _ => trivial) hO.2.1 hO.2.2 (Nat.le_refl 1) (fun c hc => absurd hc List.not_mem_nil) hd ht sS_imd (hb_env ⟨rfl, hb_kr hq, rfl, hb_kr hn, rfl, hb_kz i5 i5.1 i5.2, trivial⟩) (hb_gl hlc ⟨hb_vr rfl, hb_vc _ _ _, trivial⟩) (hb_mf (q := q) (z := 0) (hb_vr rfl) (hb_vc _ _ _) (by decide) (hb_kd (by decide) (by decide)) (hb_vr rfl) ((hb_geq (hcp.2.1 q hqk)).trans g0) (hb_mf (q := qn) (z := 3) (hb_vr rfl) (hb_vc _ _ _) (by decide) (hb_kd (by decide) (by decide)) (hb_vz1 rfl) ((hb_geq (hcp.2.1 qn hnk)).trans k3) (hb_mf0 _ _))) (hb_pf0 _) (hb_tf hcp.1) trivial (fun T hT => ?_)
      rcases List.mem_cons.mp hT with rfl | hT
      · intro τ lc' m' cb' sb' hρ he2 hM2 hP2 htm2 _ hap hfq
        refine ⟨fun e => absurd rfl e, fun _ pc sc v hv hrv => ?_⟩
        obtain ⟨m1, hap1, rfl⟩ := hb_ap (hap _ rfl) (hb_vr (hb_at hρ rfl)) (hb_vc _ _ _) (hb_kd (by decide) (by decide)) (hb_vc _ _ _)
        cases hb_ap0 hap1
        obtain ⟨x, hvx, hx⟩ := hrv _ rfl
        rw [hb_vz1 (hb_at hρ rfl)] at hx
        cases hx
        have hs : ∀ i, se_get (se_set m q 2 (hb_z 1)) qk i = se_get m qk i := fun i => se_get_set_ne (Or.inl hkq)
        obtain ⟨y2, hy2, -⟩ := se_tc_get (i := 2) (hcp.1 q 89 hq) (show 2 < 26 by decide)
        refine hb_finR hv hvx he List.mem_cons_self (hb_vz1 rfl) (hb_mf (q := qk) (z := 0) (hb_vr rfl) (hb_vc _ _ _) (by decide) (hb_kd (by decide) (by decide)) (hb_vz1 rfl) ((hs 0).trans ((hcp.2.2.1 0 (by decide)).trans k0)) (hb_mf (q := qk) (z := 1) (hb_vr rfl) (hb_vc _ _ _) (by decide) (hb_kd (by decide) (by decide)) (hb_vz1 rfl) ((hs 1).trans ((hcp.2.2.1 1 (by decide)).trans k1)) (hb_mf (q := qk) (z := 3) (hb_vr rfl) (hb_vc _ _ _) (by decide) (hb_kd (by decide) (by decide)) (hb_vz1 rfl) ((hs 3).trans ((hcp.2.2.1 3 (by decide)).trans k3)) (hb_mf (q := q) (z := 2) (hb_vr rfl) (hb_vc _ _ _) (by decide) (hb_kd (by decide) (by decide)) (hb_vc _ _ _) (se_get_set hy2) (hb_mf0 _ _))))) (se_tm_set hcp.1 hq ?_) (hb_set_J hq (by decide) (hb_cp_J hcp (Or.inl hn) hJm)) (hb_fq_t (hb_cp_fq htm hcp (Or.inr rfl) hk (List.mem_cons_of_mem _ List.mem_cons_self) (List.mem_cons_of_mem _ (List.mem_cons_of_mem _ List.mem_cons_self))) (hb_set_fq hq ⟨(89, 2, 3), List.mem_cons_self, rfl, by decide, by decide⟩))
        show se_k ty (se_seg (se_tt 89).2.2.2 2) (hb_z 1)
        rw [hb_f2]
        exact hb_kz (hb_kd (by decide) (by decide)) (by decide) (by decide)
      · exact absurd hT List.not_mem_nil
    · exact absurd hT List.not_mem_nil
  obtain ⟨n, τ, r1, v, r2, r3⟩ := hT
  rw [hfi] at r1
  exact ⟨n, τ, v, r1, r2, r3⟩
theorem sm_r3 (hO : se_Ok ty (rw_J ty) kx zs) : se_Met ty se_tt (rw_J ty) kx zs sc_r3 := by
  intro d t ρ As m0 hd ht he hgl hM hP htm hJm
  have hd : 13 ≤ d := hd
  have ht : mm_mths[328]? = some t := ht
  obtain ⟨w0, a0, b0⟩ := he.2 0 _ rfl
  obtain ⟨q, rfl, hq⟩ := b0.1
  obtain ⟨zi, a6, i6, l6, u6⟩ := hb_new he (k := 1) rfl
  have hzi : zi = 1 := by omega
  subst hzi
  obtain ⟨w1, a1, b1⟩ := he.2 2 _ rfl
  obtain ⟨qn, rfl, hn⟩ := b1.1
  obtain ⟨w2, a2, b2⟩ := he.2 3 _ rfl
  obtain ⟨qk, rfl, hk⟩ := b2.1
  obtain ⟨z0, a3, i3, -, -⟩ := hb_new he (k := 4) rfl
  obtain ⟨z1, a4, i4, -, -⟩ := hb_new he (k := 5) rfl
  obtain ⟨z3, a5, i5, -, -⟩ := hb_new he (k := 6) rfl
  have hρ := hb_l7 (show ρ.length = 7 from he.1) a0 a6 a1 a2 a3 a4 a5
  subst hρ
  obtain ⟨x0, x1, x2⟩ := hgl 0 (1, 0, 0) rfl
  rw [hb_vr rfl] at x2
  cases x2
  have hlc : hb_lc [some (.ref q)] (lv_args 0 As) := fun i x hx => by
    match i, hx with
    | 0, hx => cases hx; exact x1
    | i + 1, hx => simp at hx
  have g2 : se_get m0 q 2 = some (hb_z 1) := hb_mat (z := 2) hM (List.mem_of_getElem? (i := 0) rfl) (hb_vr rfl) (hb_vc _ _ _) (hb_kd (by decide) (by decide)) (hb_vz1 rfl)
  have g0 : se_get m0 q 0 = some (.ref qn) := hb_mat (z := 0) hM (List.mem_of_getElem? (i := 1) rfl) (hb_vr rfl) (hb_vc _ _ _) (hb_kd (by decide) (by decide)) (hb_vr rfl)
  have g1 : se_get m0 q 1 = some (.ref qk) := hb_mat (z := 1) hM (List.mem_of_getElem? (i := 2) rfl) (hb_vr rfl) (hb_vc _ _ _) (hb_kd (by decide) (by decide)) (hb_vr rfl)
  have k0 : se_get m0 qk 0 = some (hb_z z0) := hb_mat (z := 0) hM (List.mem_of_getElem? (i := 3) rfl) (hb_vr rfl) (hb_vc _ _ _) (hb_kd (by decide) (by decide)) (hb_vz1 rfl)
  have k1 : se_get m0 qk 1 = some (hb_z z1) := hb_mat (z := 1) hM (List.mem_of_getElem? (i := 4) rfl) (hb_vr rfl) (hb_vc _ _ _) (hb_kd (by decide) (by decide)) (hb_vz1 rfl)
  have k3 : se_get m0 qk 3 = some (hb_z z3) := hb_mat (z := 3) hM (List.mem_of_getElem? (i := 5) rfl) (hb_vr rfl) (hb_vc _ _ _) (hb_kd (by decide) (by decide)) (hb_vz1 rfl)
  have hqn : q ≠ qn := hb_ne hq hn (by decide)
  have hfi : sx_fi 328 = mm_fi t := sx_cods_mths ht
  have hT : mm_T kx zs (se_Q ty se_tt (rw_J ty) sc_r3 t [.ref q, hb_z 1, .ref qn, .ref qk, hb_z z0, hb_z z1, hb_z z3] m0) [] d (sx_fi 328) (mm_ent 328 As m0) := by
    refine se_sho_ok (J := fun _ => True) (Z := []) (C := []) (lvl := 1) (tt := se_tf) (ρ := [.ref q]) (fun _ _ _ _ => trivial) hO.2.1 hO.2.2 (Nat.le_refl 1) (fun c hc => absurd hc List.not_mem_nil) hd ht sS_reg (hb_env ⟨rfl, hb_kr hq, trivial⟩) (hb_gl hlc ⟨hb_vr rfl, trivial⟩) (hb_mf (q := q) (z := 2) (hb_vr rfl) (hb_vc _ _ _) (by decide) (hb_kd (by decide) (by decide)) (hb_vc _ _ _) g2 (hb_mf0 _ _)) (hb_pf0 _) (hb_tf htm) trivial (fun T hT => ?_)
    rcases List.mem_cons.mp hT with rfl | hT
    · intro τ lc m cb sb hρ he2 hM2 hP2 htm2 _ hap hfq
      refine ⟨fun _ hg => ?_, fun e => absurd e (by decide)⟩
      cases hb_ap0 (hap _ rfl)
      refine rs_loop hO ht hd hq hn hk g0 g1 (fun lc m cb sb hcp hlc => ?_) 2973 0 lc m0 cb sb rfl ⟨htm, fun _ _ => rfl, fun j hj => absurd hj (Nat.not_lt_zero j), fun _ => rfl⟩ (hb_lcof hg ⟨hb_vr (hb_at hρ rfl), hb_vc _ _ _, trivial⟩)
      have n3 : se_get m qn 3 = some (hb_z z3) := (hcp.2.2.1 3 (by decide)).trans k3
      refine se_sho_ok (J := fun _ => True) (Z := []) (C := []) (lvl := 1) (tt := se_tf) (ρ := [.ref q, .ref qn, hb_z z3]) (fun _ _ _ _ => trivial) hO.2.1 hO.2.2 (Nat.le_refl 1) (fun c hc => absurd hc List.not_mem_nil) hd ht sS_red (hb_env ⟨rfl, hb_kr hq, rfl, hb_kr hn, rfl, hb_kz i5 i5.1 i5.2, trivial⟩) (hb_gl hlc ⟨hb_vr rfl, hb_vc _ _ _, trivial⟩) (hb_mf (q := q) (z := 0) (hb_vr rfl) (hb_vc _ _ _) (by decide) (hb_kd (by decide) (by decide)) (hb_vr rfl) ((hb_geq (hcp.2.1 q hqn)).trans g0) (hb_mf (q := qn) (z := 3) (hb_vr rfl) (hb_vc _ _ _) (by decide) (hb_kd (by decide) (by decide)) (hb_vz1 rfl) n3 (hb_mf0 _ _))) (hb_pf0 _) (hb_tf hcp.1) trivial (fun T hT => ?_)
      rcases List.mem_cons.mp hT with rfl | hT
      · intro τ lc' m' cb' sb' hρ he2 hM2 hP2 htm2 _ hap hfq
        refine ⟨fun e => absurd rfl e, fun _ pc sc v hv hrv => ?_⟩
        cases hb_ap0 (hap _ rfl)
        obtain ⟨x, hvx, hx⟩ := hrv _ rfl
        rw [hb_vz1 (hb_at hρ rfl)] at hx
        cases hx
        exact hb_finR hv hvx he List.mem_cons_self (hb_vz1 rfl) (hb_mf (q := qn) (z := 0) (hb_vr rfl) (hb_vc _ _ _) (by decide) (hb_kd (by decide) (by decide)) (hb_vz1 rfl) ((hcp.2.2.1 0 (by decide)).trans k0) (hb_mf (q := qn) (z := 1) (hb_vr rfl) (hb_vc _ _ _) (by decide) (hb_kd (by decide) (by decide)) (hb_vz1 rfl) ((hcp.2.2.1 1 (by decide)).trans k1) (hb_mf (q := qn) (z := 3) (hb_vr rfl) (hb_vc _ _ _) (by decide) (hb_kd (by decide) (by decide)) (hb_vz1 rfl) n3 (hb_mf0 _ _)))) hcp.1 (hb_cp_J hcp (Or.inr hk) hJm) (hb_cp_fq htm hcp (Or.inl rfl) hn List.mem_cons_self (List.mem_cons_of_mem _ List.mem_cons_self))
      · exact absurd hT List.not_mem_nil
    · exact absurd hT List.not_mem_nil
  obtain ⟨n, τ, r1, v, r2, r3⟩ := hT
  rw [hfi] at r1
  exact ⟨n, τ, v, r1, r2, r3⟩
end HTI
