/-! ===== by hand: an E of a text, whole; the whole text ===== -/
section HI
variable {ty : Nat → Option Nat} {kx : Nat} {zs : List mm_Zt} {J : List mm_C → Prop} {d : Nat}
theorem re_loop (hO : se_Ok ty J kx zs) {t : mm_Mt} (ht : mm_mths[295]? = some t) (hd : 39 ≤ d) {q qc qw p : Nat} (hp : p < 3) {m0 : List mm_C} (hq : ty q = some 89) (hqc : ty qc = some 61) (hqw : ty qw = some 62) (k9 : se_get m0 q 9 = some (.ref qc)) (k10 : se_get m0 q 10 = some (.ref qw)) : ∀ (F e : Nat), 161 ≤ F + e → re_G ty J kx zs d q qc qw p e m0 t := by
  intro F
  induction F with
  | zero =>
    intro e hF wO mN n w m lc cb sb _ _ _ hI _ _
    have := hI.2.2.2.2.2.1
    omega
  | succ F ih =>
    intro e hF wO mN n w m lc cb sb hwO hm0 hm1 hI hC hlc
    obtain ⟨i1, i2, i3, i4, i5, i6, i7, i8, i9, i10⟩ := id hI
    have hei := hb_k e (by omega)
    have hpi := hb_k p (by omega)
    have hmi : hb_i mN := hb_kd (by omega) (by omega)
    have hoi : hb_i wO := hb_kd (by omega) (by omega)
    have kq : ∀ i, i < 12 → se_get m q i = se_get m0 q i := fun i hi => hC.1.2 q 89 i hq (fun u hu e => by
      rcases List.mem_cons.mp hu with rfl | hu
      · cases e
      · rcases List.mem_cons.mp hu with rfl | hu
        · cases e
        · rcases List.mem_cons.mp hu with rfl | hu
          · exact Or.inl hi
          · exact absurd hu List.not_mem_nil)
    have hCl : ∀ c ∈ [sc_226], se_Met ty se_tt J kx zs c ∧ c.1.2 < 3 := fun c hc => by
      rcases List.mem_cons.mp hc with rfl | hc
      · exact ⟨sm_226 hO (sm_225 hO), by decide⟩
      · exact absurd hc List.not_mem_nil
    have hgo : ∀ (e' : Nat), e < e' → re_G ty J kx zs d q qc qw p e' m0 t := fun e' he => ih e' (by omega)
    -- behind the token
    have kq2 : ∀ {m' : List mm_C}, se_fq ty [(89, 12, 16)] m m' → ∀ i, i < 12 → se_get m' q i = se_get m q i := fun hf i hi => hf.2 q 89 i hq (fun u hu e => by
      rcases List.mem_cons.mp hu with rfl | hu
      · exact Or.inl hi
      · exact absurd hu List.not_mem_nil)
    have kc2 : ∀ {m' : List mm_C}, se_fq ty [(89, 12, 16)] m m' → re_C ty qc p m0 m' := fun hf => ⟨se_fq_trans (by decide) hC.1 hf, fun i hi => (hf.2 qc 61 i hqc (fun u hu e => by
      rcases List.mem_cons.mp hu with rfl | hu
      · cases e
      · exact absurd hu List.not_mem_nil)).trans (hC.2 i hi)⟩
    have one : ∀ {m' : List mm_C} {lc' : List (Nat × Value)} {cb' sb' : Nat} {x y z : Int}, se_fq ty [(89, 12, 16)] m m' → se_tm ty se_tt m' → J m' → se_get m' q 13 = some (hb_z z) → (e : Int) < z → z ≤ 160 → se_get m' q 14 = some (hb_z x) → se_get m' q 15 = some (hb_z y) → hb_i y → 1 ≤ x → x ≤ 255 → (x = 50 → 0 ≤ y ∧ y ≤ 9999) → hb_lc [some (.ref q), some (hb_z (p : Int)), some (hb_z wO), some (hb_z mN)] lc' → mm_T kx zs (re_Q ty J qc p m0 t) [] (d + 1) (sx_fi 295) (24, lc', [], m', cb', sb') := fun hf htm' hJ' h13 hz1 hz2 h14 h15 hyi hx1 hx2 hy hlc' => by
      obtain ⟨z', hz'⟩ := Int.eq_ofNat_of_zero_le (show 0 ≤ _ by have := Int.lt_of_le_of_lt (Int.natCast_nonneg e) hz1; exact Int.le_of_lt this)
      subst hz'
      have hI' := re_looks hq hqc hqw hI hf htm' hJ' h13 (by omega) (by omega)
      rcases hwO with rfl | rfl
      · exact re_none hO ht hd hp hq hqc hqw ((kq2 hf 9 (by decide)).trans ((kq 9 (by decide)).trans k9)) ((kq2 hf 10 (by decide)).trans ((kq 10 (by decide)).trans k10)) hI' (kc2 hf) (by omega) h14 hx1 hx2 hm0 hm1 hlc' (hgo _ (by omega))
      · exact re_one hO ht hd hp hq hqc hqw ((kq2 hf 9 (by decide)).trans ((kq 9 (by decide)).trans k9)) ((kq2 hf 10 (by decide)).trans ((kq 10 (by decide)).trans k10)) hI' (kc2 hf) (by omega) h14 h15 hyi hx1 hx2 hy hm0 hm1 hlc' (hgo _ (by omega))
    refine se_sho_ok (C := [sc_226]) (lvl := 3) (ρ := [.ref q, hb_z (p : Int), hb_z wO, hb_z mN, hb_z (e : Int)]) hO.1 hO.2.1 hO.2.2 (by decide) hCl (by omega) ht sS_e1 (hb_env ⟨rfl, hb_kr hq, rfl, hb_kz hpi (by omega) (by omega), rfl, hb_kz hoi (by omega) (by omega), rfl, hb_kz hmi hm0 hm1, rfl, hb_kz hei (by omega) (by omega), trivial⟩) (hb_gl hlc ⟨hb_vr rfl, hb_vz1 rfl, hb_vz1 rfl, hb_vz1 rfl, trivial⟩) (hb_mf (q := q) (z := 13) (hb_vr rfl) (hb_vc _ _ _) (by decide) (hb_kd (by decide) (by decide)) (hb_vz1 rfl) i5 (hb_mf0 _ _)) (hb_pf0 _) i1 i2 (fun T hT => ?_)
    rcases List.mem_cons.mp hT with rfl | hT
    · intro τ lc' m' cb' sb' hρ he hM hP htm' hJ' hap hfq
      refine ⟨fun _ hg => ?_, fun e => absurd e (by decide)⟩
      have hlc' := hb_lcof (l := [some (.ref q), some (hb_z (p : Int)), some (hb_z wO), some (hb_z mN)]) hg ⟨hb_vr (hb_at hρ rfl), hb_vz1 (hb_at hρ rfl), hb_vz1 (hb_at hρ rfl), hb_vz1 (hb_at hρ rfl), trivial⟩
      have h14 : se_get m' q 14 = some (hb_z 0) := hb_mat hM List.mem_cons_self (hb_vr (hb_at hρ rfl)) (hb_vc _ _ 14) (hb_kd (by decide) (by decide)) (hb_vc _ _ _)
      have hC' := kc2 hfq
      rcases hwO with rfl | rfl
      · refine se_sho_ok (C := []) (lvl := 1) (ρ := [.ref q, hb_z (p : Int), hb_z mN, hb_z 0]) hO.1 hO.2.1 hO.2.2 (Nat.le_refl 1) (fun c hc => absurd hc List.not_mem_nil) (by omega) ht sS_n0 (hb_env ⟨rfl, hb_kr hq, rfl, hb_kz hpi (by omega) (by omega), rfl, hb_kz hmi hm0 hm1, rfl, hb_kz (hb_kd (by decide) (by decide)) (by decide) (by decide), trivial⟩) (hb_gl hlc' ⟨hb_vr rfl, hb_vz1 rfl, hb_vc _ _ _, hb_vz1 rfl, trivial⟩) (hb_mf (q := q) (z := 14) (hb_vr rfl) (hb_vc _ _ _) (by decide) (hb_kd (by decide) (by decide)) (hb_vz1 rfl) h14 (hb_mf0 _ _)) (hb_pf0 _) htm' hJ' (fun T hT => ?_)
        rcases List.mem_cons.mp hT with rfl | hT
        · intro τ lc2 m2 cb3 sb3 hρ2 he2 hM2 hP2 htm2 hJ2 hap2 hfq2
          refine ⟨fun e => absurd rfl e, fun _ pc sc v hv hrv => ?_⟩
          cases hb_ap0 (hap2 _ rfl)
          exact re_r0 hv (hrv _ rfl) htm2 hJ2 hC'
        · exact absurd hT List.not_mem_nil
      · refine se_sho_ok (C := []) (lvl := 1) (ρ := [.ref q, hb_z (p : Int), hb_z mN]) hO.1 hO.2.1 hO.2.2 (Nat.le_refl 1) (fun c hc => absurd hc List.not_mem_nil) (by omega) ht sS_w0 (hb_env ⟨rfl, hb_kr hq, rfl, hb_kz hpi (by omega) (by omega), rfl, hb_kz hmi hm0 hm1, trivial⟩) (hb_gl hlc' ⟨hb_vr rfl, hb_vz1 rfl, hb_vc _ _ _, hb_vz1 rfl, trivial⟩) (hb_mf (q := q) (z := 14) (hb_vr rfl) (hb_vc _ _ _) (by decide) (hb_kd (by decide) (by decide)) (hb_vc _ _ _) h14 (hb_mf0 _ _)) (hb_pf0 _) htm' hJ' (fun T hT => ?_)
        rcases List.mem_cons.mp hT with rfl | hT
        · intro τ lc2 m2 cb3 sb3 hρ2 he2 hM2 hP2 htm2 hJ2 hap2 hfq2
          refine ⟨fun e => absurd rfl e, fun _ pc sc v hv hrv => ?_⟩
          cases hb_ap0 (hap2 _ rfl)
          exact re_r0 hv (hrv _ rfl) htm2 hJ2 hC'
        · exact absurd hT List.not_mem_nil
    · rcases List.mem_cons.mp hT with rfl | hT
      · intro τ lc' m' cb' sb' hρ he hM hP htm' hJ' hap hfq
        refine ⟨fun _ hg => ?_, fun e => absurd e (by decide)⟩
        have hlc' := hb_lcof (l := [some (.ref q), some (hb_z (p : Int)), some (hb_z wO), some (hb_z mN)]) hg ⟨hb_vr (hb_at hρ rfl), hb_vz1 (hb_at hρ rfl), hb_vz1 (hb_at hρ rfl), hb_vz1 (hb_at hρ rfl), trivial⟩
        obtain ⟨y, hy, hyi, y1, y2⟩ := hb_new he (k := 5) rfl
        obtain ⟨z, hz, hzi, z1, z2⟩ := hb_new he (k := 6) rfl
        have hgt := hb_pgt hP List.mem_cons_self (hb_vz1 hz) (hb_vz1 (hb_at hρ rfl)) hzi hei
        have h14 : se_get m' q 14 = some (hb_z 50) := hb_mat hM List.mem_cons_self (hb_vr (hb_at hρ rfl)) (hb_vc _ _ 14) (hb_kd (by decide) (by decide)) (hb_vc _ _ _)
        have h15 : se_get m' q 15 = some (hb_z y) := hb_mat hM (List.mem_cons_of_mem _ List.mem_cons_self) (hb_vr (hb_at hρ rfl)) (hb_vc _ _ 15) (hb_kd (by decide) (by decide)) (hb_vz1 hy)
        have h13 : se_get m' q 13 = some (hb_z z) := hb_mat hM (List.mem_cons_of_mem _ (List.mem_cons_of_mem _ List.mem_cons_self)) (hb_vr (hb_at hρ rfl)) (hb_vc _ _ 13) (hb_kd (by decide) (by decide)) (hb_vz1 hz)
        exact one hfq htm' hJ' h13 hgt z2 h14 h15 hyi (by decide) (by decide) (fun _ => ⟨y1, y2⟩) hlc'
      · rcases List.mem_cons.mp hT with rfl | hT
        · intro τ lc' m' cb' sb' hρ he hM hP htm' hJ' hap hfq
          refine ⟨fun _ hg => ?_, fun e => absurd e (by decide)⟩
          have hlc' := hb_lcof (l := [some (.ref q), some (hb_z (p : Int)), some (hb_z wO), some (hb_z mN)]) hg ⟨hb_vr (hb_at hρ rfl), hb_vz1 (hb_at hρ rfl), hb_vz1 (hb_at hρ rfl), hb_vz1 (hb_at hρ rfl), trivial⟩
          obtain ⟨x, hx, hxi, x1, x2⟩ := hb_new he (k := 5) rfl
          obtain ⟨z, hz, hzi, z1, z2⟩ := hb_new he (k := 6) rfl
          have hgt := hb_pgt hP List.mem_cons_self (hb_vz1 hz) (hb_vz1 (hb_at hρ rfl)) hzi hei
          have h14 : se_get m' q 14 = some (hb_z x) := hb_mat hM List.mem_cons_self (hb_vr (hb_at hρ rfl)) (hb_vc _ _ 14) (hb_kd (by decide) (by decide)) (hb_vz1 hx)
          have h13 : se_get m' q 13 = some (hb_z z) := hb_mat hM (List.mem_cons_of_mem _ List.mem_cons_self) (hb_vr (hb_at hρ rfl)) (hb_vc _ _ 13) (hb_kd (by decide) (by decide)) (hb_vz1 hz)
          obtain ⟨y, h15, hyi, -, -⟩ := hb_int (i := 15) (l := se_lo) (h := se_hi) htm' hq (by decide +kernel) (by decide +kernel)
          exact one hfq htm' hJ' h13 hgt z2 h14 h15 hyi x1 (by omega) (fun h => absurd h (by omega)) hlc'
        · rcases List.mem_cons.mp hT with rfl | hT
          · intro τ lc' m' cb' sb' hρ he hM hP htm' hJ' hap hfq
            refine ⟨fun _ hg => ?_, fun e => absurd e (by decide)⟩
            have hlc' := hb_lcof (l := [some (.ref q), some (hb_z (p : Int)), some (hb_z wO), some (hb_z mN)]) hg ⟨hb_vr (hb_at hρ rfl), hb_vz1 (hb_at hρ rfl), hb_vz1 (hb_at hρ rfl), hb_vz1 (hb_at hρ rfl), trivial⟩
            obtain ⟨x, hx, hxi, x1, x2⟩ := hb_new he (k := 5) rfl
            obtain ⟨z, hz, hzi, z1, z2⟩ := hb_new he (k := 6) rfl
            have hgt := hb_pgt hP List.mem_cons_self (hb_vz1 hz) (hb_vz1 (hb_at hρ rfl)) hzi hei
            have h14 : se_get m' q 14 = some (hb_z x) := hb_mat hM List.mem_cons_self (hb_vr (hb_at hρ rfl)) (hb_vc _ _ 14) (hb_kd (by decide) (by decide)) (hb_vz1 hx)
            have h13 : se_get m' q 13 = some (hb_z z) := hb_mat hM (List.mem_cons_of_mem _ List.mem_cons_self) (hb_vr (hb_at hρ rfl)) (hb_vc _ _ 13) (hb_kd (by decide) (by decide)) (hb_vz1 hz)
            obtain ⟨y, h15, hyi, -, -⟩ := hb_int (i := 15) (l := se_lo) (h := se_hi) htm' hq (by decide +kernel) (by decide +kernel)
            exact one hfq htm' hJ' h13 hgt z2 h14 h15 hyi (by omega) x2 (fun h => absurd h (by omega)) hlc'
          · exact absurd hT List.not_mem_nil
theorem re_full (hO : se_Ok ty J kx zs) {t : mm_Mt} (ht : mm_mths[295]? = some t) (hd : 39 ≤ d) {q qc qw p : Nat} (hp : p < 3) {m0 : List mm_C} (hq : ty q = some 89) (hqc : ty qc = some 61) (hqw : ty qw = some 62) (k9 : se_get m0 q 9 = some (.ref qc)) (k10 : se_get m0 q 10 = some (.ref qw)) (htm : se_tm ty se_tt m0) (hJm : J m0) : mm_T kx zs (re_Q ty J qc p m0 t) [] (d + 1) (sx_fi 295) (mm_ent 295 [.ref q, hb_z (p : Int)] m0) := by
  have hlc : hb_lc [some (.ref q), some (hb_z (p : Int))] (lv_args 0 [.ref q, hb_z (p : Int)]) := fun i x hx => by
    match i, hx with
    | 0, hx => cases hx; rfl
    | 1, hx => cases hx; rfl
    | i + 2, hx => simp at hx
  have vp : ∀ ρ : List Value, se_v ρ (0, 0, 1 * (p : Int) + 0) = some (hb_z (p : Int)) := fun ρ => by rw [Int.one_mul, Int.add_zero]; rfl
  have hqc' : q ≠ qc := hb_ne hq hqc (by decide)
  have hqw' : q ≠ qw := hb_ne hq hqw (by decide)
  obtain ⟨e, h13, hei, e1, e2⟩ := hb_int (i := 13) (l := 0) (h := 160) htm hq (by decide +kernel) (by decide +kernel)
  obtain ⟨e', rfl⟩ := Int.eq_ofNat_of_zero_le e1
  obtain ⟨o16, h16, -⟩ := hb_int (i := 16) (l := 0) (h := 489) htm hq (by decide +kernel) (by decide +kernel)
  obtain ⟨o17, h17, -⟩ := hb_int (i := 17) (l := 0) (h := 200) htm hq (by decide +kernel) (by decide +kernel)
  refine se_sho_ok (C := []) (lvl := 1) (ρ := [.ref q]) hO.1 hO.2.1 hO.2.2 (Nat.le_refl 1) (fun c hc => absurd hc List.not_mem_nil) (by omega) ht (sS_e0 p hp) (hb_env ⟨rfl, hb_kr hq, trivial⟩) (hb_gl hlc ⟨hb_vr rfl, vp _, trivial⟩) (hb_mf0 _ _) (hb_pf0 _) htm hJm (fun T hT => ?_)
  rcases List.mem_cons.mp hT with rfl | hT
  · intro τ lc' m' cb' sb' hρ he hM hP htm' hJ' hap hfq
    refine ⟨fun _ hg => ?_, fun e => absurd e (show ¬ (20 : Nat) = 99999 by decide)⟩
    obtain ⟨m2, hap1, f1⟩ := hb_ap (hap _ rfl) (hb_vr (hb_at hρ rfl)) (hb_vc _ _ _) (hb_kd (by decide) (by decide)) (hb_vc _ _ _)
    have vs : ∀ ρ : List Value, se_v ρ (0, 0, 163 * (p : Int) + 1) = some (hb_z ((163 * p + 1 + 0 : Nat) : Int)) := fun ρ => by rw [show (163 : Int) * (p : Int) + 1 = ((163 * p + 1 + 0 : Nat) : Int) by omega]; rfl
    obtain ⟨m3, hap2, f2⟩ := hb_ap hap1 (hb_vr (hb_at hρ rfl)) (hb_vc _ _ _) (hb_kd (by decide) (by decide)) (vs _)
    have f3 := hb_ap0 hap2
    subst f3
    have f2 : m2 = se_set m3 q 16 (hb_z ((163 * p + 1 + 0 : Nat) : Int)) := f2
    have f1 : m' = se_set m2 q 17 (hb_z 0) := f1
    have gc : ∀ i, se_get m' qc i = se_get m3 qc i := fun i => by rw [f1, se_get_set_ne (Or.inl hqc'.symm), f2, se_get_set_ne (Or.inl hqc'.symm)]
    have g17 : se_get m' q 17 = some (hb_z 0) := by
      rw [f1]
      exact se_get_set (y := hb_z o17) (by rw [f2, se_get_set_ne (Or.inr (by decide))]; exact h17)
    have g16 : se_get m' q 16 = some (hb_z ((163 * p + 1 + 0 : Nat) : Int)) := by
      rw [f1, se_get_set_ne (Or.inr (by decide)), f2]
      exact se_get_set h16
    have g13 : se_get m' q 13 = some (hb_z (e' : Int)) := by
      rw [f1, se_get_set_ne (Or.inr (by decide)), f2, se_get_set_ne (Or.inr (by decide))]
      exact h13
    exact re_loop hO ht hd hp hq hqc hqw k9 k10 161 e' (by omega) 1 1 0 0 m' lc' cb' sb' (Or.inr rfl) (by decide) (by decide) ⟨htm', hJ', g16, g17, g13, by omega, by omega, fun k hk => absurd hk (Nat.not_lt_zero k), rfl, fun k hk => absurd hk (Nat.not_lt_zero k)⟩ ⟨hfq, fun i _ => gc i⟩ (hb_lcof hg ⟨hb_vr (hb_at hρ rfl), vp _, hb_vc _ _ _, hb_vc _ _ _, trivial⟩)
  · exact absurd hT List.not_mem_nil
def rd_Q (ty : Nat → Option Nat) (J : List mm_C → Prop) (qc : Nat) (m0 : List mm_C) (t : mm_Mt) (τ : mm_S) : Prop := ∃ v, mm_ret t τ = some (some (hb_z v)) ∧ (v = 0 ∨ v = 1) ∧ se_tm ty se_tt τ.2.2.2.1 ∧ J τ.2.2.2.1 ∧ se_fq ty [(61, 0, 489), (62, 0, 200), (89, 12, 18)] m0 τ.2.2.2.1 ∧ (v = 1 → ∀ p, p < 3 → rw_row τ.2.2.2.1 qc (163 * p))
theorem rd_loop (hO : se_Ok ty J kx zs) {t : mm_Mt} (ht : mm_mths[288]? = some t) (hd : 39 ≤ d) {q qc qw : Nat} {m0 : List mm_C} (hq : ty q = some 89) (hqc : ty qc = some 61) (hqw : ty qw = some 62) (k9 : se_get m0 q 9 = some (.ref qc)) (k10 : se_get m0 q 10 = some (.ref qw)) : ∀ (n p : Nat) (lc : List (Nat × Value)) (m : List mm_C) (cb sb : Nat), n + p = 3 → se_tm ty se_tt m → J m → se_fq ty [(61, 0, 489), (62, 0, 200), (89, 12, 18)] m0 m → (∀ j, j < p → rw_row m qc (163 * j)) → hb_lc [some (.ref q), some (hb_z (p : Int))] lc → mm_T kx zs (rd_Q ty J qc m0 t) [] (d + 2) (sx_fi 288) (7, lc, [], m, cb, sb) := by
  have hCl : ∀ c ∈ [sc_226], se_Met ty se_tt J kx zs c ∧ c.1.2 < 3 := fun c hc => by
    rcases List.mem_cons.mp hc with rfl | hc
    · exact ⟨sm_226 hO (sm_225 hO), by decide⟩
    · exact absurd hc List.not_mem_nil
  have kc2 : ∀ {m m' : List mm_C}, se_fq ty [(89, 12, 16)] m m' → ∀ i, se_get m' qc i = se_get m qc i := fun hf i => hf.2 qc 61 i hqc (fun u hu e => by
    rcases List.mem_cons.mp hu with rfl | hu
    · cases e
    · exact absurd hu List.not_mem_nil)
  have kq : ∀ {m : List mm_C}, se_fq ty [(61, 0, 489), (62, 0, 200), (89, 12, 18)] m0 m → ∀ i, i < 12 → se_get m q i = se_get m0 q i := fun hf i hi => hf.2 q 89 i hq (fun u hu e => by
    rcases List.mem_cons.mp hu with rfl | hu
    · cases e
    · rcases List.mem_cons.mp hu with rfl | hu
      · cases e
      · rcases List.mem_cons.mp hu with rfl | hu
        · exact Or.inl hi
        · exact absurd hu List.not_mem_nil)
  intro n
  induction n with
  | zero =>
    intro p lc m cb sb hnp htm hJm hf hrows hlc
    have : p = 3 := by omega
    subst this
    refine se_sho_ok (C := [sc_226]) (lvl := 3) (ρ := [.ref q]) hO.1 hO.2.1 hO.2.2 (by decide) hCl (by omega) ht sS_r4 (hb_env ⟨rfl, hb_kr hq, trivial⟩) (hb_gl hlc ⟨hb_vr rfl, hb_vc _ _ _, trivial⟩) (hb_mf0 _ _) (hb_pf0 _) htm hJm (fun T hT => ?_)
    rcases List.mem_cons.mp hT with rfl | hT
    · intro τ lc' m' cb' sb' hρ he hM hP htm' hJ' hap hfq
      refine ⟨fun e => absurd rfl e, fun _ pc sc v hv hrv => ?_⟩
      obtain ⟨z, hz, hzi, z1, z2⟩ := hb_new he (k := 1) rfl
      obtain ⟨x, rfl, hx⟩ := hrv _ rfl
      rw [hb_vz1 hz] at hx
      cases hx
      exact ⟨z, hv, by omega, htm', hJ', se_fq_trans (by decide) hf hfq, fun _ j hj => rw_rowc (fun i _ => (rw_vc (kc2 hfq _)).symm) (hrows j hj)⟩
    · exact absurd hT List.not_mem_nil
  | succ n ih =>
    intro p lc m cb sb hnp htm hJm hf hrows hlc
    have hp : p < 3 := by omega
    have vp : ∀ ρ : List Value, se_v ρ (0, 0, 1 * (p : Int) + 0) = some (hb_z (p : Int)) := fun ρ => by rw [Int.one_mul, Int.add_zero]; rfl
    have vp1 : ∀ ρ : List Value, se_v ρ (0, 0, 1 * (p : Int) + 1) = some (hb_z ((p + 1 : Nat) : Int)) := fun ρ => by rw [Int.one_mul, show (p : Int) + 1 = ((p + 1 : Nat) : Int) by omega]; rfl
    refine se_sho_ok (C := [sc_226]) (lvl := 3) (ρ := [.ref q]) hO.1 hO.2.1 hO.2.2 (by decide) hCl (by omega) ht (sS_r1 p hp) (hb_env ⟨rfl, hb_kr hq, trivial⟩) (hb_gl hlc ⟨hb_vr rfl, vp _, trivial⟩) (hb_mf0 _ _) (hb_pf0 _) htm hJm (fun T hT => ?_)
    rcases List.mem_cons.mp hT with rfl | hT
    · intro τ lc' m' cb' sb' hρ he hM hP htm' hJ' hap hfq
      refine ⟨fun e => absurd rfl e, fun _ pc sc v hv hrv => ?_⟩
      obtain ⟨x, rfl, hx⟩ := hrv _ rfl
      rw [hb_vc] at hx
      cases hx
      exact ⟨0, hv, Or.inl rfl, htm', hJ', se_fq_trans (by decide) hf hfq, fun h => absurd h (by decide)⟩
    · rcases List.mem_cons.mp hT with rfl | hT
      · intro τ lc' m' cb' sb' hρ he hM hP htm' hJ' hap hfq
        refine ⟨fun _ hg => ?_, fun e => absurd e (show ¬ (27 : Nat) = 99999 by decide)⟩
        have hlc' := hb_lcof (l := [some (.ref q), some (hb_z (p : Int))]) hg ⟨hb_vr (hb_at hρ rfl), vp _, trivial⟩
        have hf' : se_fq ty [(61, 0, 489), (62, 0, 200), (89, 12, 18)] m0 m' := se_fq_trans (by decide) hf hfq
        have l0 : mm_lget lc' 0 = some (.ref q) := hlc' 0 _ rfl
        have l1 : mm_lget lc' 1 = some (.int (Int32.ofInt (p : Int))) := hlc' 1 _ rfl
        show mm_T kx zs _ [] (d + 2) (sx_fi 288) (27, lc', [], m', cb', sb')
        refine mm_T_step (σ' := (28, lc', [.ref q], m', cb', sb')) hd_288_27 rfl (by simp [mm_stp, mm_pure, mm_lda, l0]) ?_
        refine mm_T_step (σ' := (29, lc', [hb_z (p : Int), .ref q], m', cb', sb')) hd_288_28 rfl (by simp [mm_stp, mm_pure, mm_ldi, l1, hb_z]) ?_
        obtain ⟨t2, ht2⟩ : ∃ t2, mm_mths[295]? = some t2 := ⟨_, rfl⟩
        have hb2 : (mm_mths[295]?).map (fun t => (t.1, decide (2 ≤ t.2.2.2.1), t.2.2.2.2.2.1, t.2.2.2.2.2.2.1)) = some (12, true, 1, 1) := rfl
        rw [ht2] at hb2
        have hb3 := Option.some.inj hb2
        obtain ⟨fs, hfs⟩ := hb_obj htm' hq
        refine hb_virt1 (t := t2) (y := 295) hd_288_29 rfl ht2 (congrArg Prod.fst hb3) (of_decide_eq_true (congrArg (fun a => a.2.1) hb3)) (congrArg (fun a => a.2.2.1) hb3) (congrArg (fun a => a.2.2.2) hb3) rfl rfl hfs (re_full hO ht2 hd hp hq hqc hqw ((kq hf' 9 (by decide)).trans k9) ((kq hf' 10 (by decide)).trans k10) htm' hJ') (fun τ2 cb2 sb2 hτ => ?_)
        obtain ⟨v, v1, v2, v3, v4, v5, v6⟩ := hτ
        refine ⟨_, v1, ?_⟩
        have hf2 : se_fq ty [(61, 0, 489), (62, 0, 200), (89, 12, 18)] m0 τ2.2.2.2.1 := hb_fq_t hf' v5.1
        rcases v2 with rfl | rfl
        · refine mm_T_step (σ' := (35, lc', [], τ2.2.2.2.1, cb2, sb2)) hd_288_32 rfl rfl ?_
          refine se_sho_ok (C := []) (lvl := 1) (ρ := [.ref q]) hO.1 hO.2.1 hO.2.2 (Nat.le_refl 1) (fun c hc => absurd hc List.not_mem_nil) (by omega) ht sS_r2 (hb_env ⟨rfl, hb_kr hq, trivial⟩) (hb_gl hlc' ⟨hb_vr rfl, trivial⟩) (hb_mf0 _ _) (hb_pf0 _) v3 v4 (fun T hT => ?_)
          rcases List.mem_cons.mp hT with rfl | hT
          · intro τ lc2 m2 cb3 sb3 hρ2 he2 hM2 hP2 htm2 hJ2 hap2 hfq2
            refine ⟨fun e => absurd rfl e, fun _ pc sc v hv hrv => ?_⟩
            cases hb_ap0 (hap2 _ rfl)
            obtain ⟨x, rfl, hx⟩ := hrv _ rfl
            rw [hb_vc] at hx
            cases hx
            exact ⟨0, hv, Or.inl rfl, htm2, hJ2, hf2, fun h => absurd h (by decide)⟩
          · exact absurd hT List.not_mem_nil
        · refine mm_T_step (σ' := (37, lc', [], τ2.2.2.2.1, cb2, sb2)) hd_288_32 rfl rfl ?_
          refine se_sho_ok (C := []) (lvl := 1) (ρ := [.ref q]) hO.1 hO.2.1 hO.2.2 (Nat.le_refl 1) (fun c hc => absurd hc List.not_mem_nil) (by omega) ht (sS_r3 p hp) (hb_env ⟨rfl, hb_kr hq, trivial⟩) (hb_gl hlc' ⟨hb_vr rfl, vp _, trivial⟩) (hb_mf0 _ _) (hb_pf0 _) v3 v4 (fun T hT => ?_)
          rcases List.mem_cons.mp hT with rfl | hT
          · intro τ lc2 m2 cb3 sb3 hρ2 he2 hM2 hP2 htm2 hJ2 hap2 hfq2
            refine ⟨fun _ hg2 => ?_, fun e => absurd e (show ¬ (7 : Nat) = 99999 by decide)⟩
            cases hb_ap0 (hap2 _ rfl)
            refine ih (p + 1) lc2 _ cb3 sb3 (by omega) htm2 hJ2 hf2 (fun j hj => ?_) (hb_lcof hg2 ⟨hb_vr (hb_at hρ2 rfl), vp1 _, trivial⟩)
            by_cases e : j = p
            · subst e
              exact v6 rfl
            · exact rw_rowc (fun i hi => ((rw_vc (v5.2 _ (by omega))).trans (rw_vc (kc2 hfq _))).symm) (hrows j (by omega))
          · exact absurd hT List.not_mem_nil
      · exact absurd hT List.not_mem_nil
theorem rd_main (hO : se_Ok ty J kx zs) {t : mm_Mt} (ht : mm_mths[288]? = some t) (hd : 39 ≤ d) {q qc qw : Nat} {m0 : List mm_C} (hq : ty q = some 89) (hqc : ty qc = some 61) (hqw : ty qw = some 62) (k9 : se_get m0 q 9 = some (.ref qc)) (k10 : se_get m0 q 10 = some (.ref qw)) (htm : se_tm ty se_tt m0) (hJm : J m0) : mm_T kx zs (rd_Q ty J qc m0 t) [] (d + 2) (sx_fi 288) (mm_ent 288 [.ref q] m0) := by
  have hlc : hb_lc [some (.ref q)] (lv_args 0 [.ref q]) := fun i x hx => by
    match i, hx with
    | 0, hx => cases hx; rfl
    | i + 1, hx => simp at hx
  refine se_sho_ok (C := []) (lvl := 1) (ρ := [.ref q]) hO.1 hO.2.1 hO.2.2 (Nat.le_refl 1) (fun c hc => absurd hc List.not_mem_nil) (by omega) ht sS_r0 (hb_env ⟨rfl, hb_kr hq, trivial⟩) (hb_gl hlc ⟨hb_vr rfl, trivial⟩) (hb_mf0 _ _) (hb_pf0 _) htm hJm (fun T hT => ?_)
  rcases List.mem_cons.mp hT with rfl | hT
  · intro τ lc' m' cb' sb' hρ he hM hP htm' hJ' hap hfq
    refine ⟨fun _ hg => ?_, fun e => absurd e (by decide)⟩
    exact rd_loop hO ht hd hq hqc hqw k9 k10 3 0 lc' m' cb' sb' rfl htm' hJ' hfq (fun j hj => absurd hj (Nat.not_lt_zero j)) (hb_lcof hg ⟨hb_vr (hb_at hρ rfl), hb_vc _ _ _, trivial⟩)
  · exact absurd hT List.not_mem_nil
end HI
