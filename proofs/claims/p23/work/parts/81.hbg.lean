/-! ===== by hand: an E of a text, its loop; the whole text ===== -/
section HG
variable {ty : Nat → Option Nat} {kx : Nat} {zs : List mm_Zt} {J : List mm_C → Prop} {d : Nat}
theorem re_pop {q qc qw p n w e : Nat} {m m' : List mm_C} (hq : ty q = some 89) (hqc : ty qc = some 61) (hqw : ty qw = some 62) (h : re_I ty J q qc qw p 1 n (w + 1) e m) (htop : rw_v m qw w = 140) (htm : se_tm ty se_tt m') (hJ : J m') (e1 : m' = se_set m q 17 (hb_z (w : Int))) : re_I ty J q qc qw p 1 n w e m' ∧ ∀ i, se_get m' qc i = se_get m qc i := by
  obtain ⟨i1, i2, i3, i4, i5, i6, i7, i8, i9, i10⟩ := h
  have hqc' : q ≠ qc := hb_ne hq hqc (by decide)
  have hqw' : q ≠ qw := hb_ne hq hqw (by decide)
  have gw : ∀ i, se_get m' qw i = se_get m qw i := fun i => by rw [e1, se_get_set_ne (Or.inl hqw'.symm)]
  have gc : ∀ i, se_get m' qc i = se_get m qc i := fun i => by rw [e1, se_get_set_ne (Or.inl hqc'.symm)]
  have gq : ∀ i, i ≠ 17 → se_get m' q i = se_get m q i := fun i h1 => by rw [e1, se_get_set_ne (Or.inr h1)]
  have g17 : se_get m' q 17 = some (hb_z (w : Int)) := by
    rw [e1]
    exact se_get_set i4
  have fc : ∀ k, k < n → rw_v m qc (163 * p + 1 + k) = rw_v m' qc (163 * p + 1 + k) := fun k _ => (rw_vc (gc _)).symm
  have fw : ∀ k, rw_v m' qw k = rw_v m qw k := fun k => rw_vc (gw k)
  refine ⟨⟨htm, hJ, (gq 16 (by decide)).trans i3, g17, (gq 13 (by decide)).trans i5, i6, by omega, rw_okc fc i8, ?_, fun k hk => by rw [fw]; exact i10 k (by omega)⟩, gc⟩
  rw [← rw_dc fc n (Nat.le_refl n), i9, wt_c (n := w) (fun k _ => fw k) w (Nat.le_refl w)]
  show wt_t (rw_v m qw) w + (if rw_v m qw w = 140 ∨ rw_v m qw w = 15 then 0 else 1) + 1 = _
  rw [if_pos (Or.inl htop)]
  omega
abbrev re_G (ty : Nat → Option Nat) (J : List mm_C → Prop) (kx : Nat) (zs : List mm_Zt) (d q qc qw p e : Nat) (m0 : List mm_C) (t : mm_Mt) : Prop := ∀ (wO mN : Int) (n w : Nat) (m : List mm_C) (lc : List (Nat × Value)) (cb sb : Nat), (wO = 0 ∨ wO = 1) → 0 ≤ mN → mN ≤ 1 → re_I ty J q qc qw p (1 - wO) n w e m → re_C ty qc p m0 m → hb_lc [some (.ref q), some (hb_z (p : Int)), some (hb_z wO), some (hb_z mN)] lc → mm_T kx zs (re_Q ty J qc p m0 t) [] (d + 1) (sx_fi 295) (20, lc, [], m, cb, sb)
theorem re_one (hO : se_Ok ty J kx zs) {t : mm_Mt} (ht : mm_mths[295]? = some t) (hd : 39 ≤ d) {q qc qw p n w e cb sb : Nat} (hp : p < 3) {m0 m : List mm_C} (hq : ty q = some 89) (hqc : ty qc = some 61) (hqw : ty qw = some 62) (k9 : se_get m q 9 = some (.ref qc)) (k10 : se_get m q 10 = some (.ref qw)) (hI : re_I ty J q qc qw p 0 n w e m) (hC : re_C ty qc p m0 m) (hsum : n + 1 + w ≤ e) {x y mN : Int} (k14 : se_get m q 14 = some (hb_z x)) (k15 : se_get m q 15 = some (hb_z y)) (hyi : hb_i y) (hx1 : 1 ≤ x) (hx2 : x ≤ 255) (hy : x = 50 → 0 ≤ y ∧ y ≤ 9999) (hm0 : 0 ≤ mN) (hm1 : mN ≤ 1) {lc : List (Nat × Value)} (hlc : hb_lc [some (.ref q), some (hb_z (p : Int)), some (hb_z 1), some (hb_z mN)] lc) (hgo : re_G ty J kx zs d q qc qw p e m0 t) : mm_T kx zs (re_Q ty J qc p m0 t) [] (d + 1) (sx_fi 295) (24, lc, [], m, cb, sb) := by
  obtain ⟨i1, i2, i3, i4, i5, i6, i7, i8, i9, i10⟩ := id hI
  have hwi := hb_k w (by omega)
  have hsi := hb_k (163 * p + 1 + n) (by omega)
  have hxi : hb_i x := hb_kd (by omega) (by omega)
  have hmi : hb_i mN := hb_kd (by omega) (by omega)
  have env : ∀ {l h l' h' : Int}, l ≤ x → x ≤ h → l' ≤ y → y ≤ h' → se_env ty [.ref q, hb_z mN, hb_z x, hb_z (w : Int), hb_z ((163 * p + 1 + n : Nat) : Int), .ref qw, .ref qc, hb_z y] [((91, 0, 0), 0, (0, 0, 0), (0, 0, 0)), ((0, 0, 1), 0, (0, 0, 0), (0, 0, 0)), ((0, l, h), 0, (0, 0, 0), (0, 0, 0)), ((0, 0, 159), 0, (0, 0, 0), (0, 0, 0)), ((0, 163 * (p : Int) + 1, 163 * (p : Int) + 161), 0, (0, 0, 0), (0, 0, 0)), ((64, 0, 0), 0, (0, 0, 0), (0, 0, 0)), ((63, 0, 0), 0, (0, 0, 0), (0, 0, 0)), ((0, l', h'), 0, (0, 0, 0), (0, 0, 0))] := fun h1 h2 h3 h4 => hb_env ⟨rfl, hb_kr hq, rfl, hb_kz hmi hm0 hm1, rfl, hb_kz hxi h1 h2, rfl, hb_kz hwi (by omega) (by omega), rfl, hb_kz hsi (by omega) (by omega), rfl, hb_kr hqw, rfl, hb_kr hqc, rfl, hb_kz hyi h3 h4, trivial⟩
  have mf : se_mf [.ref q, hb_z mN, hb_z x, hb_z (w : Int), hb_z ((163 * p + 1 + n : Nat) : Int), .ref qw, .ref qc, hb_z y] [((1, 0, 0), (0, 0, 14), (1, 2, 0)), ((1, 0, 0), (0, 0, 17), (1, 3, 0)), ((1, 0, 0), (0, 0, 16), (1, 4, 0)), ((1, 0, 0), (0, 0, 10), (1, 5, 0)), ((1, 0, 0), (0, 0, 9), (1, 6, 0)), ((1, 0, 0), (0, 0, 15), (1, 7, 0))] m := hb_mf (q := q) (z := 14) (hb_vr rfl) (hb_vc _ _ _) (by decide) (hb_kd (by decide) (by decide)) (hb_vz1 rfl) k14 (hb_mf (q := q) (z := 17) (hb_vr rfl) (hb_vc _ _ _) (by decide) (hb_kd (by decide) (by decide)) (hb_vz1 rfl) i4 (hb_mf (q := q) (z := 16) (hb_vr rfl) (hb_vc _ _ _) (by decide) (hb_kd (by decide) (by decide)) (hb_vz1 rfl) i3 (hb_mf (q := q) (z := 10) (hb_vr rfl) (hb_vc _ _ _) (by decide) (hb_kd (by decide) (by decide)) (hb_vr rfl) k10 (hb_mf (q := q) (z := 9) (hb_vr rfl) (hb_vc _ _ _) (by decide) (hb_kd (by decide) (by decide)) (hb_vr rfl) k9 (hb_mf (q := q) (z := 15) (hb_vr rfl) (hb_vc _ _ _) (by decide) (hb_kd (by decide) (by decide)) (hb_vz1 rfl) k15 (hb_mf0 _ _))))))
  have vp : ∀ ρ : List Value, se_v ρ (0, 0, 1 * (p : Int) + 0) = some (hb_z (p : Int)) := fun ρ => by rw [Int.one_mul, Int.add_zero]; rfl
  have gl : se_gl [.ref q, hb_z mN, hb_z x, hb_z (w : Int), hb_z ((163 * p + 1 + n : Nat) : Int), .ref qw, .ref qc, hb_z y] [some (1, 0, 0), some (0, 0, 1 * (p : Int) + 0), some (0, 0, 1), some (1, 1, 0)] lc := hb_gl hlc ⟨hb_vr rfl, vp _, hb_vc _ _ _, hb_vz1 rfl, trivial⟩
  have hCw : ∀ c ∈ [sc_227], se_Met ty se_tt J kx zs c ∧ c.1.2 < 2 := fun c hc => by
    rcases List.mem_cons.mp hc with rfl | hc
    · exact ⟨sm_227 hO, by decide⟩
    · exact absurd hc List.not_mem_nil
  -- a number or a name is laid
  have lay : ∀ {τ : List Value} {m' : List mm_C} {lc' : List (Nat × Value)} {cb' sb' : Nat} {v : Int} {l : se_M}, [.ref q, hb_z mN, hb_z x, hb_z (w : Int), hb_z ((163 * p + 1 + n : Nat) : Int), .ref qw, .ref qc, hb_z y] <+: τ → se_tm ty se_tt m' → J m' → se_fq ty [(61, 0, 489), (62, 0, 200), (89, 12, 18)] m m' → m' = se_set (se_set m qc (163 * p + 1 + n) (hb_z v)) q 16 (hb_z ((163 * p + 1 + (n + 1) : Nat) : Int)) → hb_i v → -9 ≤ v → se_gl τ [some (1, 0, 0), some (0, 0, 1 * (p : Int) + 0), some (0, 0, 0), some (1, 1, 0)] lc' → mm_T kx zs (re_Q ty J qc p m0 t) [] (d + 1) (sx_fi 295) (20, lc', [], m', cb', sb') := fun hρ htm' hJ' hfq e1 hvi hv hg => by
    obtain ⟨g1, g2, g3⟩ := re_lay2 hp hq hqc hqw hI htm' hJ' e1 hvi hv hsum
    exact hgo 0 mN (n + 1) w _ _ _ _ (Or.inl rfl) hm0 hm1 g1 (re_Ct hC ⟨hfq, fun i hi => g2 i (by omega)⟩) (hb_lcof hg ⟨hb_vr (hb_at hρ rfl), vp _, hb_vc _ _ _, hb_vz1 (hb_at hρ rfl), trivial⟩)
  -- what opens waits
  have push : ∀ {τ : List Value} {m' : List mm_C} {lc' : List (Nat × Value)} {cb' sb' : Nat}, [.ref q, hb_z mN, hb_z x, hb_z (w : Int), hb_z ((163 * p + 1 + n : Nat) : Int), .ref qw, .ref qc, hb_z y] <+: τ → se_tm ty se_tt m' → J m' → se_fq ty [(61, 0, 489), (62, 0, 200), (89, 12, 18)] m m' → m' = se_set (se_set m qw w (hb_z x)) q 17 (hb_z ((w + 1 : Nat) : Int)) → (x = 140 ∨ x = 15) → se_gl τ [some (1, 0, 0), some (0, 0, 1 * (p : Int) + 0), some (0, 0, 1), some (0, 0, 1)] lc' → mm_T kx zs (re_Q ty J qc p m0 t) [] (d + 1) (sx_fi 295) (20, lc', [], m', cb', sb') := fun hρ htm' hJ' hfq e1 hx hg => by
    obtain ⟨g1, g2⟩ := re_push2 (b' := 0) hq hqc hqw hI htm' hJ' e1 (by rcases hx with rfl | rfl <;> decide) (by rw [if_pos hx]; rfl) (by omega)
    exact hgo 1 1 n (w + 1) _ _ _ _ (Or.inr rfl) (by decide) (by decide) g1 (re_Ct hC ⟨hfq, fun i _ => g2 i⟩) (hb_lcof hg ⟨hb_vr (hb_at hρ rfl), vp _, hb_vc _ _ _, hb_vc _ _ _, trivial⟩)
  by_cases c1 : x = 50
  · obtain ⟨y1, y2⟩ := hy c1
    refine se_sho_ok (C := []) (lvl := 1) hO.1 hO.2.1 hO.2.2 (Nat.le_refl 1) (fun c hc => absurd hc List.not_mem_nil) (by omega) ht (sS_w1 p hp) (env (by omega) (by omega) y1 y2) gl mf (hb_pf0 _) i1 i2 (fun T hT => ?_)
    rcases List.mem_cons.mp hT with rfl | hT
    · intro τ lc' m' cb' sb' hρ he hM hP htm' hJ' hap hfq
      refine ⟨fun _ hg => ?_, fun e => absurd e (show ¬ (20 : Nat) = 99999 by decide)⟩
      obtain ⟨m2, hap1, e1⟩ := hb_ap (hap _ rfl) (hb_vr (hb_at hρ rfl)) (hb_vc _ _ _) (hb_kd (by decide) (by decide)) (hb_vs (w := ((163 * p + 1 + (n + 1) : Nat) : Int)) (hb_at hρ rfl) (by omega))
      obtain ⟨m3, hap2, e2⟩ := hb_ap hap1 (hb_vr (hb_at hρ rfl)) (hb_vz1 (hb_at hρ rfl)) hsi (hb_vz1 (hb_at hρ rfl))
      have e3 := hb_ap0 hap2
      subst e3
      subst e2
      exact lay (v := y) (l := []) hρ htm' hJ' hfq e1 hyi (by omega) hg
    · exact absurd hT List.not_mem_nil
  · by_cases c2 : x ≤ 49
    · refine se_sho_ok (C := [sc_227]) (lvl := 2) hO.1 hO.2.1 hO.2.2 (by decide) hCw (by omega) ht (sS_w2 p hp) (env hx1 c2 hyi.1 hyi.2) gl mf (hb_pf0 _) i1 i2 (fun T hT => ?_)
      rcases List.mem_cons.mp hT with rfl | hT
      · intro τ lc' m' cb' sb' hρ he hM hP htm' hJ' hap hfq
        refine ⟨fun e => absurd rfl e, fun _ pc sc v hv hrv => ?_⟩
        cases hb_ap0 (hap _ rfl)
        exact re_r0 hv (hrv _ rfl) htm' hJ' hC
      · rcases List.mem_cons.mp hT with rfl | hT
        · intro τ lc' m' cb' sb' hρ he hM hP htm' hJ' hap hfq
          refine ⟨fun _ hg => ?_, fun e => absurd e (show ¬ (20 : Nat) = 99999 by decide)⟩
          obtain ⟨r1, r2⟩ := hb_rng (k := 2) he rfl (hb_at hρ rfl) hxi
          obtain ⟨m2, hap1, e1⟩ := hb_ap (hap _ rfl) (hb_vr (hb_at hρ rfl)) (hb_vc _ _ _) (hb_kd (by decide) (by decide)) (hb_vs (w := ((163 * p + 1 + (n + 1) : Nat) : Int)) (hb_at hρ rfl) (by omega))
          obtain ⟨m3, hap2, e2⟩ := hb_ap hap1 (hb_vr (hb_at hρ rfl)) (hb_vz1 (hb_at hρ rfl)) hsi (hb_vs (w := -x) (hb_at hρ rfl) (by omega))
          have e3 := hb_ap0 hap2
          subst e3
          subst e2
          exact lay (v := -x) (l := []) hρ htm' hJ' hfq e1 (hb_kd (by omega) (by omega)) (by omega) hg
        · rcases List.mem_cons.mp hT with rfl | hT
          · intro τ lc' m' cb' sb' hρ he hM hP htm' hJ' hap hfq
            refine ⟨fun _ hg => ?_, fun e => absurd e (show ¬ (20 : Nat) = 99999 by decide)⟩
            obtain ⟨r1, r2⟩ := hb_rng (k := 2) he rfl (hb_at hρ rfl) hxi
            obtain ⟨m2, hap1, e1⟩ := hb_ap (hap _ rfl) (hb_vr (hb_at hρ rfl)) (hb_vc _ _ _) (hb_kd (by decide) (by decide)) (hb_vs (w := ((w + 1 : Nat) : Int)) (hb_at hρ rfl) (by omega))
            obtain ⟨m3, hap2, e2⟩ := hb_ap hap1 (hb_vr (hb_at hρ rfl)) (hb_vz1 (hb_at hρ rfl)) hwi (hb_vz1 (hb_at hρ rfl))
            have e3 := hb_ap0 hap2
            subst e3
            subst e2
            exact push hρ htm' hJ' hfq e1 (Or.inr (by omega)) hg
          · exact absurd hT List.not_mem_nil
    · refine se_sho_ok (C := [sc_227]) (lvl := 2) hO.1 hO.2.1 hO.2.2 (by decide) hCw (by omega) ht (sS_w3 p hp) (env (by omega) hx2 hyi.1 hyi.2) gl mf (hb_pf0 _) i1 i2 (fun T hT => ?_)
      rcases List.mem_cons.mp hT with rfl | hT
      · intro τ lc' m' cb' sb' hρ he hM hP htm' hJ' hap hfq
        refine ⟨fun e => absurd rfl e, fun _ pc sc v hv hrv => ?_⟩
        cases hb_ap0 (hap _ rfl)
        exact re_r0 hv (hrv _ rfl) htm' hJ' hC
      · rcases List.mem_cons.mp hT with rfl | hT
        · intro τ lc' m' cb' sb' hρ he hM hP htm' hJ' hap hfq
          refine ⟨fun _ hg => ?_, fun e => absurd e (show ¬ (20 : Nat) = 99999 by decide)⟩
          obtain ⟨r1, r2⟩ := hb_rng (k := 2) he rfl (hb_at hρ rfl) hxi
          obtain ⟨m2, hap1, e1⟩ := hb_ap (hap _ rfl) (hb_vr (hb_at hρ rfl)) (hb_vc _ _ _) (hb_kd (by decide) (by decide)) (hb_vs (w := ((w + 1 : Nat) : Int)) (hb_at hρ rfl) (by omega))
          obtain ⟨m3, hap2, e2⟩ := hb_ap hap1 (hb_vr (hb_at hρ rfl)) (hb_vz1 (hb_at hρ rfl)) hwi (hb_vz1 (hb_at hρ rfl))
          have e3 := hb_ap0 hap2
          subst e3
          subst e2
          exact push hρ htm' hJ' hfq e1 (Or.inl (by omega)) hg
        · exact absurd hT List.not_mem_nil
end HG
