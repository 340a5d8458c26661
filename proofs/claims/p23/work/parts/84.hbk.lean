/-! ===== by hand: restore, text ===== -/
section HK
variable {ty : Nat → Option Nat} {kx : Nat} {zs : List mm_Zt} {J : List mm_C → Prop} {Q : mm_S → Prop} {d : Nat}
theorem rs_loop (hO : se_Ok ty J kx zs) {t : mm_Mt} (ht : mm_mths[328]? = some t) (hd : 13 ≤ d) {m0 : List mm_C} {q qn qk : Nat} (hq : ty q = some 89) (hn : ty qn = some 56) (hk : ty qk = some 103) (g0 : se_get m0 q 0 = some (.ref qn)) (g1 : se_get m0 q 1 = some (.ref qk)) (hend : ∀ (lc : List (Nat × Value)) (m : List mm_C) (cb sb : Nat), hb_cp ty m0 m qk qn 2973 → hb_lc [some (.ref q), some (hb_z 2973)] lc → mm_T kx zs Q [] d (sx_fi 328) (16, lc, [], m, cb, sb)) : ∀ (n k : Nat) (lc : List (Nat × Value)) (m : List mm_C) (cb sb : Nat), n + k = 2973 → hb_cp ty m0 m qk qn k → hb_lc [some (.ref q), some (hb_z (k : Int))] lc → mm_T kx zs Q [] d (sx_fi 328) (16, lc, [], m, cb, sb) := by
  intro n
  induction n with
  | zero =>
    intro k lc m cb sb hnk hcp hlc
    have : k = 2973 := by omega
    subst this
    exact hend lc m cb sb hcp hlc
  | succ n ih =>
    intro k lc m cb sb hnk hcp hlc
    have hqn : q ≠ qn := hb_ne hq hn (by decide)
    obtain ⟨x, hx, hxi⟩ := hb_at103 (i := k) hcp.1 hk (by omega)
    have hki := hb_k k (by omega)
    refine se_sho_ok (J := fun _ => True) (Z := []) (C := []) (lvl := 1) (tt := se_tf) (ρ := [.ref q, .ref qk, .ref qn, hb_z (k : Int), hb_z x]) (fun _ _ _ _ => trivial) hO.2.1 hO.2.2 (Nat.le_refl 1) (fun c hc => absurd hc List.not_mem_nil) hd ht sS_reb (hb_env ⟨rfl, hb_kr hq, rfl, hb_kr hk, rfl, hb_kr hn, rfl, hb_kz hki (by omega) (by omega), rfl, hb_kz hxi hxi.1 hxi.2, trivial⟩) (hb_gl hlc ⟨hb_vr rfl, hb_vz1 rfl, trivial⟩) (hb_mf (q := q) (z := 1) (hb_vr rfl) (hb_vc _ _ _) (by decide) (hb_kd (by decide) (by decide)) (hb_vr rfl) ((hb_geq (hcp.2.1 q hqn)).trans g1) (hb_mf (q := q) (z := 0) (hb_vr rfl) (hb_vc _ _ _) (by decide) (hb_kd (by decide) (by decide)) (hb_vr rfl) ((hb_geq (hcp.2.1 q hqn)).trans g0) (hb_mf (q := qk) (z := (k : Int)) (hb_vr rfl) (hb_vz1 rfl) (by omega) hki (hb_vz1 rfl) hx (hb_mf0 _ _)))) (hb_pf0 _) (hb_tf hcp.1) trivial (fun T hT => ?_)
    rcases List.mem_cons.mp hT with rfl | hT
    · intro τ lc' m' cb' sb' hρ he hM hP htm' _ hap hfq
      refine ⟨fun _ hg => ?_, fun e => absurd e (by decide)⟩
      obtain ⟨m1, hap1, rfl⟩ := hb_ap (hap _ rfl) (hb_vr (hb_at hρ rfl)) (hb_vz1 (hb_at hρ rfl)) hki (hb_vz1 (hb_at hρ rfl))
      cases hb_ap0 hap1
      exact ih (k + 1) lc' _ cb' sb' (by omega) (hb_cp_step hcp (Or.inr rfl) (Or.inl rfl) hk hn (by omega) hx) (hb_lcof hg ⟨hb_vr (hb_at hρ rfl), hb_vs (hb_at hρ rfl) (by omega), trivial⟩)
    · exact absurd hT List.not_mem_nil
theorem sm_h6 (hO : se_Ok ty (rw_J ty) kx zs) : se_Met ty se_tt (rw_J ty) kx zs sc_h6 := by
  intro d t ρ As m0 hd ht he hgl hM hP htm hJm
  have hd : 13 ≤ d := hd
  have ht : mm_mths[328]? = some t := ht
  obtain ⟨w, w1, w2⟩ := he.2 0 _ rfl
  obtain ⟨q, rfl, hq⟩ := w2.1
  have hρ := hb_l1 (show ρ.length = 1 from he.1) w1
  subst hρ
  obtain ⟨x0, x1, x2⟩ := hgl 0 (1, 0, 0) rfl
  rw [hb_vr rfl] at x2
  cases x2
  have hlc : hb_lc [some (.ref q)] (lv_args 0 As) := fun i x hx => by
    match i, hx with
    | 0, hx => cases hx; exact x1
    | i + 1, hx => simp at hx
  obtain ⟨qn, g0, hn⟩ := hb_now htm hq
  obtain ⟨qk, g1, hk⟩ := hb_kept htm hq
  obtain ⟨f, g3, fi, -, -⟩ := hb_int (i := 3) (l := se_lo) (h := se_hi) htm hq (by decide +kernel) (by decide +kernel)
  have hfi : sx_fi 328 = mm_fi t := sx_cods_mths ht
  have hT : mm_T kx zs (se_Q ty se_tt (rw_J ty) sc_h6 t [.ref q] m0) [] d (sx_fi 328) (mm_ent 328 As m0) := by
    refine se_sho_ok (J := fun _ => True) (Z := []) (C := []) (lvl := 1) (tt := se_tf) (ρ := [.ref q, hb_z f]) (fun _ _ _ _ => trivial) hO.2.1 hO.2.2 (Nat.le_refl 1) (fun c hc => absurd hc List.not_mem_nil) hd ht sS_rea (hb_env ⟨rfl, hb_kr hq, rfl, hb_kz fi fi.1 fi.2, trivial⟩) (hb_gl hlc ⟨hb_vr rfl, trivial⟩) (hb_mf (q := q) (z := 3) (hb_vr rfl) (hb_vc _ _ _) (by decide) (hb_kd (by decide) (by decide)) (hb_vz1 rfl) g3 (hb_mf0 _ _)) (hb_pf0 _) (hb_tf htm) trivial (fun T hT => ?_)
    rcases List.mem_cons.mp hT with rfl | hT
    · intro τ lc m cb sb hρ he2 hM2 hP2 htm2 _ hap hfq
      refine ⟨fun e => absurd rfl e, fun _ pc sc v hv hrv => ?_⟩
      obtain ⟨m1, hap1, rfl⟩ := hb_ap (hap _ rfl) (hb_vr (hb_at hρ rfl)) (hb_vc _ _ _) (hb_kd (by decide) (by decide)) (hb_vz (hb_at hρ rfl) 1 1)
      cases hb_ap0 hap1
      obtain ⟨x, hvx, hx⟩ := hrv _ rfl
      rw [hb_vc] at hx
      cases hx
      refine hb_fin hv hvx ⟨by unfold se_lo; omega, by unfold se_hi; omega⟩ he List.mem_cons_self (se_tm_set htm hq ?_) (hb_set_J hq (by decide) hJm) (hb_set_fq hq ⟨(89, 3, 4), List.mem_cons_of_mem _ (List.mem_cons_of_mem _ List.mem_cons_self), rfl, by decide, by decide⟩)
      show se_k ty (se_seg (se_tt 89).2.2.2 3) (hb_z (1 * f + 1))
      rw [show se_seg (se_tt 89).2.2.2 3 = (0, se_lo, se_hi) by decide +kernel]
      exact ⟨_, rfl, se_i32 _⟩
    · rcases List.mem_cons.mp hT with rfl | hT
      · intro τ lc m cb sb hρ he2 hM2 hP2 htm2 _ hap hfq
        refine ⟨fun _ hg => ?_, fun e => absurd e (by decide)⟩
        cases hb_ap0 (hap _ rfl)
        refine rs_loop hO ht hd hq hn hk g0 g1 (fun lc m cb sb hcp hlc => ?_) 2973 0 lc m0 cb sb rfl ⟨htm, fun _ _ => rfl, fun j hj => absurd hj (Nat.not_lt_zero j), fun _ => rfl⟩ (hb_lcof hg ⟨hb_vr (hb_at hρ rfl), hb_vc _ _ _, trivial⟩)
        refine se_sho_ok (J := fun _ => True) (Z := []) (C := []) (lvl := 1) (tt := se_tf) (ρ := [.ref q]) (fun _ _ _ _ => trivial) hO.2.1 hO.2.2 (Nat.le_refl 1) (fun c hc => absurd hc List.not_mem_nil) hd ht sS_rec (hb_env ⟨rfl, hb_kr hq, trivial⟩) (hb_gl hlc ⟨hb_vr rfl, hb_vc _ _ _, trivial⟩) (hb_mf0 _ _) (hb_pf0 _) (hb_tf hcp.1) trivial (fun T hT => ?_)
        rcases List.mem_cons.mp hT with rfl | hT
        · intro τ lc' m' cb' sb' hρ he2 hM2 hP2 htm2 _ hap hfq
          refine ⟨fun e => absurd rfl e, fun _ pc sc v hv hrv => ?_⟩
          cases hb_ap0 (hap _ rfl)
          obtain ⟨z, hz, hzi, -, -⟩ := hb_new he2 (k := 1) rfl
          obtain ⟨x, hvx, hx⟩ := hrv _ rfl
          rw [hb_vz1 hz] at hx
          cases hx
          exact hb_fin hv hvx hzi he List.mem_cons_self hcp.1 (hb_cp_J hcp (Or.inr hk) hJm) (hb_cp_fq htm hcp (Or.inl rfl) hn List.mem_cons_self (List.mem_cons_of_mem _ List.mem_cons_self))
        · exact absurd hT List.not_mem_nil
      · exact absurd hT List.not_mem_nil
  obtain ⟨n, τ, r1, v, r2, r3⟩ := hT
  rw [hfi] at r1
  exact ⟨n, τ, v, r1, r2, r3⟩
/-- a text's rows while they are being copied into the state -/
def tx_cp (ty : Nat → Option Nat) (m1 m : List mm_C) (qc qn b k : Nat) : Prop := se_tm ty se_tt m ∧ (∀ p, p ≠ qn → m[p]? = m1[p]?) ∧ (∀ j, j < k → se_get m qn (b + j) = se_get m1 qc j) ∧ ∀ i, (i < b ∨ b + k ≤ i) → se_get m qn i = se_get m1 qn i
set_option maxRecDepth 100000 in
theorem tx_kind : ∀ u, u < 5 → ∀ k, k < 489 → se_seg (se_tt 56).2.2.2 (528 + 489 * u + k) = se_seg (se_tt 61).2.2.2 k := by decide +kernel
theorem tx_step {m1 m : List mm_C} {qc qn u k : Nat} {x : Value} (hu : u < 5) (hqc : ty qc = some 61) (hn : ty qn = some 56) (h : tx_cp ty m1 m qc qn (528 + 489 * u) k) (hk : k < 489) (hx : se_get m qc k = some x) : tx_cp ty m1 (se_set m qn (528 + 489 * u + k) x) qc qn (528 + 489 * u) (k + 1) := by
  obtain ⟨h1, h2, h3, h4⟩ := h
  have hne : qc ≠ qn := hb_ne hqc hn (by decide)
  have hx1 : se_get m1 qc k = some x := by rw [← hb_geq (h2 qc hne)]; exact hx
  obtain ⟨y, hy1, hy2⟩ := se_tc_get (i := k) (h1 qc 61 hqc) (show k < 489 from hk)
  rw [hx] at hy1
  cases hy1
  obtain ⟨y', hy', -⟩ := se_tc_get (i := 528 + 489 * u + k) (h1 qn 56 hn) (show 528 + 489 * u + k < 2973 by omega)
  refine ⟨se_tm_set h1 hn (by rw [tx_kind u hu k hk]; exact hy2), fun p hp => by rw [se_set_at hp]; exact h2 p hp, fun j hj => ?_, fun i hi => ?_⟩
  · by_cases e : j = k
    · subst e
      rw [se_get_set hy']
      exact hx1.symm
    · rw [se_get_set_ne (Or.inr (by omega))]
      exact h3 j (by omega)
  · rw [se_get_set_ne (Or.inr (by omega))]
    exact h4 i (by omega)
theorem tx_loop (hO : se_Ok ty J kx zs) {t : mm_Mt} (ht : mm_mths[287]? = some t) (hd : 13 ≤ d) {m1 : List mm_C} {q qn qc u : Nat} (hu : u < 5) (hq : ty q = some 89) (hn : ty qn = some 56) (hqc : ty qc = some 61) (g0 : se_get m1 q 0 = some (.ref qn)) (g9 : se_get m1 q 9 = some (.ref qc)) (hend : ∀ (lc : List (Nat × Value)) (m : List mm_C) (cb sb : Nat), tx_cp ty m1 m qc qn (528 + 489 * u) 489 → hb_lc [some (.ref q), some (hb_z (u : Int)), some (hb_z 1), some (hb_z 489)] lc → mm_T kx zs Q [] d (sx_fi 287) (37, lc, [], m, cb, sb)) : ∀ (n k : Nat) (lc : List (Nat × Value)) (m : List mm_C) (cb sb : Nat), n + k = 489 → tx_cp ty m1 m qc qn (528 + 489 * u) k → hb_lc [some (.ref q), some (hb_z (u : Int)), some (hb_z 1), some (hb_z (k : Int))] lc → mm_T kx zs Q [] d (sx_fi 287) (37, lc, [], m, cb, sb) := by
  intro n
  induction n with
  | zero =>
    intro k lc m cb sb hnk hcp hlc
    have : k = 489 := by omega
    subst this
    exact hend lc m cb sb hcp hlc
  | succ n ih =>
    intro k lc m cb sb hnk hcp hlc
    have hqn : q ≠ qn := hb_ne hq hn (by decide)
    obtain ⟨x, hx, hxi⟩ := hb_at61 (i := k) hcp.1 hqc (by omega)
    have hki := hb_k k (by omega)
    have hui := hb_k u (by omega)
    have hsi := hb_k (528 + 489 * u + k) (by omega)
    refine se_sho_ok (J := fun _ => True) (Z := []) (C := []) (lvl := 1) (tt := se_tf) (ρ := [.ref q, hb_z (u : Int), .ref qn, .ref qc, hb_z (k : Int), hb_z x]) (fun _ _ _ _ => trivial) hO.2.1 hO.2.2 (Nat.le_refl 1) (fun c hc => absurd hc List.not_mem_nil) hd ht sS_txd (hb_env ⟨rfl, hb_kr hq, rfl, hb_kz hui (by omega) (by omega), rfl, hb_kr hn, rfl, hb_kr hqc, rfl, hb_kz hki (by omega) (by omega), rfl, hb_kz hxi hxi.1 hxi.2, trivial⟩) (hb_gl hlc ⟨hb_vr rfl, hb_vz1 rfl, hb_vc _ _ _, hb_vz1 rfl, trivial⟩) (hb_mf (q := q) (z := 0) (hb_vr rfl) (hb_vc _ _ _) (by decide) (hb_kd (by decide) (by decide)) (hb_vr rfl) ((hb_geq (hcp.2.1 q hqn)).trans g0) (hb_mf (q := q) (z := 9) (hb_vr rfl) (hb_vc _ _ _) (by decide) (hb_kd (by decide) (by decide)) (hb_vr rfl) ((hb_geq (hcp.2.1 q hqn)).trans g9) (hb_mf (q := qc) (z := (k : Int)) (hb_vr rfl) (hb_vz1 rfl) (by omega) hki (hb_vz1 rfl) hx (hb_mf0 _ _)))) (hb_pf0 _) (hb_tf hcp.1) trivial (fun T hT => ?_)
    rcases List.mem_cons.mp hT with rfl | hT
    · intro τ lc' m' cb' sb' hρ he hM hP htm' _ hap hfq
      refine ⟨fun _ hg => ?_, fun e => absurd e (by decide)⟩
      obtain ⟨w, hw, hdok⟩ := he.2 6 _ rfl
      obtain ⟨va, vb, e1, e2, e3⟩ := hdok.2 (by decide)
      rw [hb_vs (hb_at hρ rfl) (show (489 : Int) * (u : Int) + 528 = ((528 + 489 * u : Nat) : Int) by omega)] at e1
      rw [hb_vz1 (hb_at hρ rfl)] at e2
      cases e1
      cases e2
      rw [hb_op1] at e3
      cases e3
      rw [show ((528 + 489 * u : Nat) : Int) + (k : Int) = ((528 + 489 * u + k : Nat) : Int) by omega] at hw
      obtain ⟨m1', hap1, rfl⟩ := hb_ap (hap _ rfl) (hb_vr (hb_at hρ rfl)) (hb_vz1 hw) hsi (hb_vz1 (hb_at hρ rfl))
      cases hb_ap0 hap1
      exact ih (k + 1) lc' _ cb' sb' (by omega) (tx_step hu hqc hn hcp (by omega) hx) (hb_lcof hg ⟨hb_vr (hb_at hρ rfl), hb_vz1 (hb_at hρ rfl), hb_vc _ _ _, hb_vs (hb_at hρ rfl) (by omega), trivial⟩)
    · exact absurd hT List.not_mem_nil
theorem tx_J {m1 m : List mm_C} {qc qn u : Nat} (hu : u < 5) (hn : ty qn = some 56) (h : tx_cp ty m1 m qc qn (528 + 489 * u) 489) (hJ : rw_J ty m1) (hrows : ∀ p, p < 3 → rw_row m1 qc (163 * p)) : rw_J ty m := by
  obtain ⟨h1, h2, h3, h4⟩ := h
  intro p hp t k ht hk
  by_cases e : p = qn
  · subst e
    by_cases e2 : t = u
    · subst e2
      exact rw_rowc (fun j hj => (rw_vc (by rw [Nat.add_assoc]; exact h3 (163 * k + j) (by omega))).symm) (hrows k hk)
    · refine rw_rowc (fun j hj => (rw_vc (h4 _ ?_)).symm) (hJ p hp t k ht hk)
      rcases Nat.lt_or_gt_of_ne e2 with h | h <;> omega
  · exact rw_rowc (fun j hj => rw_vc (hb_geq (h2 p e)).symm) (hJ p hp t k ht hk)
theorem hb_fqw {W W' : se_W} {a b : List mm_C} (h : se_fq ty W a b) (hw : ∀ u ∈ W, ∃ v ∈ W', v.1 = u.1 ∧ v.2.1 ≤ u.2.1 ∧ u.2.2 ≤ v.2.2) : se_fq ty W' a b := ⟨h.1, fun p t i hp hu => h.2 p t i hp (fun u hu' e => by
  obtain ⟨v, v1, v2, v3, v4⟩ := hw u hu'
  rcases hu v v1 (v2.trans e) with r | r
  · exact Or.inl (by omega)
  · exact Or.inr (by omega))⟩
theorem sm_h2 (hO : se_Ok ty (rw_J ty) kx zs) : se_Met ty se_tt (rw_J ty) kx zs sc_h2 := by
  intro d t ρ As m0 hd ht he hgl hM hP htm hJm
  have hd : 52 ≤ d := hd
  have ht : mm_mths[287]? = some t := ht
  obtain ⟨w, w1, w2⟩ := he.2 0 _ rfl
  obtain ⟨q, rfl, hq⟩ := w2.1
  obtain ⟨u, u1, ui, -, -⟩ := hb_new he (k := 1) rfl
  have hρ := hb_l2 (show ρ.length = 2 from he.1) w1 u1
  subst hρ
  obtain ⟨x0, x1, x2⟩ := hgl 0 (1, 0, 0) rfl
  rw [hb_vr rfl] at x2
  cases x2
  obtain ⟨y0, y1, y2⟩ := hgl 1 (1, 1, 0) rfl
  rw [hb_vz1 rfl] at y2
  cases y2
  have hlc : hb_lc [some (.ref q), some (hb_z u)] (lv_args 0 As) := fun i x hx => by
    match i, hx with
    | 0, hx => cases hx; exact x1
    | 1, hx => cases hx; exact y1
    | i + 2, hx => simp at hx
  obtain ⟨qn, g0, hn⟩ := hb_now htm hq
  obtain ⟨qc, g9, hqc⟩ := hb_code htm hq
  obtain ⟨qw, g10, hqw⟩ := hb_waits htm hq
  obtain ⟨f, g3, fi, -, -⟩ := hb_int (i := 3) (l := se_lo) (h := se_hi) htm hq (by decide +kernel) (by decide +kernel)
  have hfi : sx_fi 287 = mm_fi t := sx_cods_mths ht
  obtain ⟨d', rfl⟩ : ∃ d', d = d' + 3 := ⟨d - 3, by omega⟩
  have hT : mm_T kx zs (se_Q ty se_tt (rw_J ty) sc_h2 t [.ref q, hb_z u] m0) [] (d' + 3) (sx_fi 287) (mm_ent 287 As m0) := by
    refine se_sho_ok (J := fun _ => True) (Z := []) (C := []) (lvl := 1) (tt := se_tf) (ρ := [.ref q, hb_z u, hb_z f]) (fun _ _ _ _ => trivial) hO.2.1 hO.2.2 (Nat.le_refl 1) (fun c hc => absurd hc List.not_mem_nil) (by omega) ht sS_txa (hb_env ⟨rfl, hb_kr hq, rfl, hb_kz ui ui.1 ui.2, rfl, hb_kz fi fi.1 fi.2, trivial⟩) (hb_gl hlc ⟨hb_vr rfl, hb_vz1 rfl, trivial⟩) (hb_mf (q := q) (z := 3) (hb_vr rfl) (hb_vc _ _ _) (by decide) (hb_kd (by decide) (by decide)) (hb_vz1 rfl) g3 (hb_mf0 _ _)) (hb_pf0 _) (hb_tf htm) trivial (fun T hT => ?_)
    rcases List.mem_cons.mp hT with rfl | hT
    · intro τ lc m cb sb hρ he2 hM2 hP2 htm2 _ hap hfq
      refine ⟨fun e => absurd rfl e, fun _ pc sc v hv hrv => ?_⟩
      obtain ⟨m1, hap1, rfl⟩ := hb_ap (hap _ rfl) (hb_vr (hb_at hρ rfl)) (hb_vc _ _ _) (hb_kd (by decide) (by decide)) (hb_vz (hb_at hρ rfl) 1 1)
      cases hb_ap0 hap1
      obtain ⟨x, hvx, hx⟩ := hrv _ rfl
      rw [hb_vc] at hx
      cases hx
      refine hb_fin hv hvx ⟨by unfold se_lo; omega, by unfold se_hi; omega⟩ he List.mem_cons_self (se_tm_set htm hq ?_) (hb_set_J hq (by decide) hJm) (hb_set_fq hq ⟨(89, 3, 4), by decide, rfl, by decide, by decide⟩)
      show se_k ty (se_seg (se_tt 89).2.2.2 3) (hb_z (1 * f + 1))
      rw [show se_seg (se_tt 89).2.2.2 3 = (0, se_lo, se_hi) by decide +kernel]
      exact ⟨_, rfl, se_i32 _⟩
    · rcases List.mem_cons.mp hT with rfl | hT
      · intro τ lc' m' cb' sb' hρ he2 hM2 hP2 htm2 _ hap hfq
        refine ⟨fun _ hg => ?_, fun e => absurd e (by decide)⟩
        have em := hb_ap0 (hap _ rfl)
        subst em
        obtain ⟨r1, r2⟩ := hb_rng (k := 1) he2 rfl (hb_at hρ rfl) ui
        obtain ⟨u', rfl⟩ := Int.eq_ofNat_of_zero_le r1
        have hlc' := hb_lcof (l := [some (.ref q), some (hb_z (u' : Int))]) hg ⟨hb_vr (hb_at hρ rfl), hb_vz1 (hb_at hρ rfl), trivial⟩
        have l0 : mm_lget lc' 0 = some (.ref q) := hlc' 0 _ rfl
        have l1 : mm_lget lc' 1 = some (hb_z (u' : Int)) := hlc' 1 _ rfl
        show mm_T kx zs _ [] (d' + 3) (sx_fi 287) (16, lc', [], m', cb', sb')
        refine mm_T_step (σ' := (17, lc', [.ref q], m', cb', sb')) hd_287_16 rfl (by simp [mm_stp, mm_pure, mm_lda, l0]) ?_
        obtain ⟨t2, ht2⟩ : ∃ t2, mm_mths[288]? = some t2 := ⟨_, rfl⟩
        have hb2 : (mm_mths[288]?).map (fun t => (t.1, decide (1 ≤ t.2.2.2.1), t.2.2.2.2.2.1, t.2.2.2.2.2.2.1)) = some (12, true, 0, 1) := rfl
        rw [ht2] at hb2
        have hb3 := Option.some.inj hb2
        obtain ⟨fs, hfs⟩ := hb_obj htm hq
        refine hb_virt0 (t := t2) (y := 288) hd_287_17 rfl ht2 (congrArg Prod.fst hb3) (of_decide_eq_true (congrArg (fun a => a.2.1) hb3)) (congrArg (fun a => a.2.2.1) hb3) (congrArg (fun a => a.2.2.2) hb3) rfl hfs (rd_main hO ht2 (by omega) hq hqc hqw g9 g10 htm hJm) (fun τ2 cb2 sb2 hτ => ?_)
        obtain ⟨v, v1, v2, v3, v4, v5, v6⟩ := hτ
        refine ⟨_, v1, ?_⟩
        have hnL : (sx_fi 287).2.2.1 = 4 := rfl
        refine mm_T_step (σ' := (21, mm_l1 lc' 2 (hb_z v), [], τ2.2.2.2.1, cb2, sb2)) hd_287_20 rfl (by simp [mm_stp, mm_pure, mm_sti, hnL, hb_z]) ?_
        have hlc2 : hb_lc [some (.ref q), some (hb_z (u' : Int)), some (hb_z v)] (mm_l1 lc' 2 (hb_z v)) := fun i x hx => by
          match i, hx with
          | 0, hx => cases hx; exact mm_lget_l1 l0 (by decide) (fun q => by have := q.2; simp [Value.category] at this)
          | 1, hx => cases hx; exact mm_lget_l1 l1 (by decide) (fun q => by have := q.2; simp [Value.category, hb_z] at this)
          | 2, hx => cases hx; exact mm_lget_l1s
          | i + 3, hx => simp at hx
        generalize τ2.2.2.2.1 = m2 at v3 v4 v5 v6 ⊢
        have kq : ∀ i, i < 12 → se_get m2 q i = se_get m' q i := fun i hi => v5.2 q 89 i hq (fun u hu e => by
          rcases List.mem_cons.mp hu with rfl | hu
          · cases e
          · rcases List.mem_cons.mp hu with rfl | hu
            · cases e
            · rcases List.mem_cons.mp hu with rfl | hu
              · exact Or.inl hi
              · exact absurd hu List.not_mem_nil)
        have hui := hb_k u' (by omega)
        have hW5 : se_fq ty sc_h2.2.2.2 m' m2 := ⟨v5.1, fun p t i hp hu => v5.2 p t i hp (fun w hw e => by
          rcases List.mem_cons.mp hw with rfl | hw
          · exact hu (61, 0, 489) (by decide) e
          · rcases List.mem_cons.mp hw with rfl | hw
            · exact hu (62, 0, 200) (by decide) e
            · rcases List.mem_cons.mp hw with rfl | hw
              · have a1 := hu (89, 12, 13) (by decide) e
                have a2 := hu (89, 13, 14) (by decide) e
                have a3 := hu (89, 14, 15) (by decide) e
                have a4 := hu (89, 15, 16) (by decide) e
                have a5 := hu (89, 16, 17) (by decide) e
                have a6 := hu (89, 17, 18) (by decide) e
                dsimp only at a1 a2 a3 a4 a5 a6 ⊢
                omega
              · exact absurd hw List.not_mem_nil)⟩
        have k6 : se_seg (se_tt 89).2.2.2 6 = (0, 0, 160) := by decide +kernel
        have htm6 : se_tm ty se_tt (se_set m2 q 6 (hb_z 0)) := se_tm_set v3 hq (by rw [k6]; exact hb_kz (hb_kd (by decide) (by decide)) (by decide) (by decide))
        have hJ6 : rw_J ty (se_set m2 q 6 (hb_z 0)) := hb_set_J hq (by decide) v4
        have hf6 : se_fq ty sc_h2.2.2.2 m' (se_set m2 q 6 (hb_z 0)) := hb_fq_t hW5 (hb_set_fq hq ⟨(89, 6, 7), by decide, rfl, by decide, by decide⟩)
        rcases v2 with rfl | rfl
        · refine se_sho_ok (J := fun _ => True) (Z := []) (C := []) (lvl := 1) (tt := se_tf) (ρ := [.ref q, hb_z (u' : Int)]) (fun _ _ _ _ => trivial) hO.2.1 hO.2.2 (Nat.le_refl 1) (fun c hc => absurd hc List.not_mem_nil) (by omega) ht sS_txb (hb_env ⟨rfl, hb_kr hq, rfl, hb_kz hui (by omega) r2, trivial⟩) (hb_gl hlc2 ⟨hb_vr rfl, hb_vz1 rfl, hb_vc _ _ _, trivial⟩) (hb_mf0 _ _) (hb_pf0 _) (hb_tf v3) trivial (fun T hT => ?_)
          rcases List.mem_cons.mp hT with rfl | hT
          · intro τ lc3 m3 cb3 sb3 hρ3 he3 hM3 hP3 htm3 _ hap3 hfq3
            refine ⟨fun e => absurd rfl e, fun _ pc sc v hv hrv => ?_⟩
            obtain ⟨m4, hap4, rfl⟩ := hb_ap (hap3 _ rfl) (hb_vr (hb_at hρ3 rfl)) (hb_vc _ _ _) (hb_kd (by decide) (by decide)) (hb_vc _ _ _)
            cases hb_ap0 hap4
            obtain ⟨z, hz, hzi, -, -⟩ := hb_new he3 (k := 2) rfl
            obtain ⟨x, hvx, hx⟩ := hrv _ rfl
            rw [hb_vz1 hz] at hx
            cases hx
            exact hb_fin hv hvx hzi he List.mem_cons_self htm6 hJ6 hf6
          · exact absurd hT List.not_mem_nil
        · refine se_sho_ok (J := fun _ => True) (Z := []) (C := []) (lvl := 1) (tt := se_tf) (ρ := [.ref q, hb_z (u' : Int)]) (fun _ _ _ _ => trivial) hO.2.1 hO.2.2 (Nat.le_refl 1) (fun c hc => absurd hc List.not_mem_nil) (by omega) ht sS_txc (hb_env ⟨rfl, hb_kr hq, rfl, hb_kz hui (by omega) r2, trivial⟩) (hb_gl hlc2 ⟨hb_vr rfl, hb_vz1 rfl, hb_vc _ _ _, trivial⟩) (hb_mf0 _ _) (hb_pf0 _) (hb_tf v3) trivial (fun T hT => ?_)
          rcases List.mem_cons.mp hT with rfl | hT
          · intro τ lc3 m3 cb3 sb3 hρ3 he3 hM3 hP3 htm3 _ hap3 hfq3
            refine ⟨fun _ hg3 => ?_, fun e => absurd e (by decide)⟩
            obtain ⟨m4, hap4, rfl⟩ := hb_ap (hap3 _ rfl) (hb_vr (hb_at hρ3 rfl)) (hb_vc _ _ _) (hb_kd (by decide) (by decide)) (hb_vc _ _ _)
            have em := hb_ap0 hap4
            subst em
            have gq6 : ∀ i, i ≠ 6 → se_get (se_set m4 q 6 (hb_z 0)) q i = se_get m4 q i := fun i hi => se_get_set_ne (Or.inr hi)
            have hqc' : qc ≠ q := hb_ne hqc hq (by decide)
            refine tx_loop hO ht (by omega) (u := u') (by omega) hq hn hqc ((gq6 0 (by decide)).trans ((kq 0 (by decide)).trans g0)) ((gq6 9 (by decide)).trans ((kq 9 (by decide)).trans g9)) (fun lc m cb sb hcp hlc => ?_) 489 0 lc3 _ cb3 sb3 rfl ⟨htm6, fun _ _ => rfl, fun j hj => absurd hj (Nat.not_lt_zero j), fun _ _ => rfl⟩ (hb_lcof hg3 ⟨hb_vr (hb_at hρ3 rfl), hb_vz1 (hb_at hρ3 rfl), hb_vc _ _ _, hb_vc _ _ _, trivial⟩)
            refine se_sho_ok (J := fun _ => True) (Z := []) (C := []) (lvl := 1) (tt := se_tf) (ρ := [.ref q, hb_z (u' : Int)]) (fun _ _ _ _ => trivial) hO.2.1 hO.2.2 (Nat.le_refl 1) (fun c hc => absurd hc List.not_mem_nil) (by omega) ht sS_txe (hb_env ⟨rfl, hb_kr hq, rfl, hb_kz hui (by omega) r2, trivial⟩) (hb_gl hlc ⟨hb_vr rfl, hb_vz1 rfl, hb_vc _ _ _, hb_vc _ _ _, trivial⟩) (hb_mf0 _ _) (hb_pf0 _) (hb_tf hcp.1) trivial (fun T hT => ?_)
            rcases List.mem_cons.mp hT with rfl | hT
            · intro τ lc5 m5 cb5 sb5 hρ5 he5 hM5 hP5 htm5 _ hap5 hfq5
              refine ⟨fun e => absurd rfl e, fun _ pc sc v hv hrv => ?_⟩
              cases hb_ap0 (hap5 _ rfl)
              obtain ⟨x, hvx, hx⟩ := hrv _ rfl
              rw [hb_vc] at hx
              cases hx
              refine hb_fin hv hvx (hb_kd (by decide) (by decide)) he List.mem_cons_self hcp.1 (tx_J (by omega) hn hcp hJ6 (fun p hp => rw_rowc (fun i _ => (rw_vc (se_get_set_ne (Or.inl hqc'))).symm) (v6 rfl p hp))) (hb_fq_t hf6 ⟨fun p hp => hcp.2.1 p (fun e => by rw [e, hn] at hp; cases hp), fun p t i hp hu => ?_⟩)
              by_cases e : p = qn
              · subst e
                rw [hn] at hp
                cases hp
                have := hu (56, 528, 2973) (by decide) rfl
                dsimp only at this
                rcases this with r | r
                · exact hcp.2.2.2 i (Or.inl (by omega))
                · exact hcp.2.2.2 i (Or.inr (by omega))
              · exact hb_geq (hcp.2.1 p e)
            · exact absurd hT List.not_mem_nil
          · exact absurd hT List.not_mem_nil
      · exact absurd hT List.not_mem_nil
  obtain ⟨n, τ, r1, v, r2, r3⟩ := hT
  rw [hfi] at r1
  exact ⟨n, τ, v, r1, r2, r3⟩
end HK
