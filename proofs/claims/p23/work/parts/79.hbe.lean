/-! ===== by hand: how many wait, an E of a text, the whole text ===== -/
section HE
variable {ty : Nat → Option Nat} {kx : Nat} {zs : List mm_Zt} {J : List mm_C → Prop} {Q : mm_S → Prop} {d : Nat}
def wa_Q (m : List mm_C) (qw w : Nat) (t : mm_Mt) (τ : mm_S) : Prop := ∃ z, mm_ret t τ = some (some (hb_z z)) ∧ hb_i z ∧ τ.2.2.2.1 = m ∧ (0 < z → ∃ j, j < w ∧ rw_v m qw j = 140)
theorem wa_loop (hO : se_Ok ty J kx zs) {t : mm_Mt} (ht : mm_mths[296]? = some t) (hd : 13 ≤ d) {q qw w : Nat} {m : List mm_C} (hq : ty q = some 89) (hqw : ty qw = some 62) (k10 : se_get m q 10 = some (.ref qw)) (k17 : se_get m q 17 = some (hb_z (w : Int))) (hw : w ≤ 160) (hS : ∀ k, k < w → rw_v m qw k ∈ re_S) (htm : se_tm ty se_tt m) (hJ : J m) : ∀ (n k : Nat) (c : Nat) (lc : List (Nat × Value)) (cb sb : Nat), n + k = w → c ≤ k → (0 < c → ∃ j, j < w ∧ rw_v m qw j = 140) → hb_lc [some (.ref q), some (hb_z 140), some (hb_z (c : Int)), some (hb_z (k : Int))] lc → mm_T kx zs (wa_Q m qw w t) [] d (sx_fi 296) (4, lc, [], m, cb, sb) := by
  intro n
  induction n with
  | zero =>
    intro k c lc cb sb hnk hck hcw hlc
    have : k = w := by omega
    subst this
    have hki := hb_k k (by omega)
    have hci := hb_k c (by omega)
    refine se_sho_ok (C := []) (lvl := 1) (ρ := [.ref q, hb_z (k : Int), hb_z (c : Int)]) hO.1 hO.2.1 hO.2.2 (Nat.le_refl 1) (fun c hc => absurd hc List.not_mem_nil) hd ht sS_wa2 (hb_env ⟨rfl, hb_kr hq, rfl, hb_kz hki (by omega) (by omega), rfl, hb_kz hci (by omega) (by omega), trivial⟩) (hb_gl hlc ⟨hb_vr rfl, hb_vc _ _ _, hb_vz1 rfl, hb_vz1 rfl, trivial⟩) (hb_mf (q := q) (z := 17) (hb_vr rfl) (hb_vc _ _ _) (by decide) (hb_kd (by decide) (by decide)) (hb_vz1 rfl) k17 (hb_mf0 _ _)) (hb_pf (hb_vz1 rfl) (hb_vz1 rfl) (hb_ge hki hki (Int.le_refl _)) (hb_pf0 _)) htm hJ (fun T hT => ?_)
    rcases List.mem_cons.mp hT with rfl | hT
    · intro τ lc' m' cb' sb' hρ he hM hP htm' hJ' hap hfq
      refine ⟨fun e => absurd rfl e, fun _ pc sc v hv hrv => ?_⟩
      cases hb_ap0 (hap _ rfl)
      obtain ⟨x, rfl, hx⟩ := hrv _ rfl
      rw [hb_vz1 (hb_at hρ rfl)] at hx
      cases hx
      exact ⟨_, hv, hci, rfl, fun h => hcw (by omega)⟩
    · exact absurd hT List.not_mem_nil
  | succ n ih =>
    intro k c lc cb sb hnk hck hcw hlc
    have hki := hb_k k (by omega)
    have hci := hb_k c (by omega)
    have hwi := hb_k w (by omega)
    obtain ⟨x, hx, hxi⟩ := hb_at62 (i := k) htm hqw (by omega)
    have hxS := hS k (by omega)
    rw [rw_vz hx hxi] at hxS
    have hx1 : 13 ≤ x ∧ x ≤ 161 := by
      simp only [re_S, List.mem_cons, List.not_mem_nil, or_false] at hxS
      omega
    have env : ∀ {l h : Int}, l ≤ x → x ≤ h → se_env ty [.ref q, .ref qw, hb_z (w : Int), hb_z (c : Int), hb_z (k : Int), hb_z x] [((91, 0, 0), 0, (0, 0, 0), (0, 0, 0)), ((64, 0, 0), 0, (0, 0, 0), (0, 0, 0)), ((0, 1, 160), 0, (0, 0, 0), (0, 0, 0)), ((0, 0, 160), 0, (0, 0, 0), (0, 0, 0)), ((0, 0, 159), 0, (0, 0, 0), (0, 0, 0)), ((0, l, h), 0, (0, 0, 0), (0, 0, 0))] := fun h1 h2 => hb_env ⟨rfl, hb_kr hq, rfl, hb_kr hqw, rfl, hb_kz hwi (by omega) (by omega), rfl, hb_kz hci (by omega) (by omega), rfl, hb_kz hki (by omega) (by omega), rfl, hb_kz hxi h1 h2, trivial⟩
    have mf : se_mf [.ref q, .ref qw, hb_z (w : Int), hb_z (c : Int), hb_z (k : Int), hb_z x] [((1, 0, 0), (0, 0, 17), (1, 2, 0)), ((1, 0, 0), (0, 0, 10), (1, 1, 0)), ((1, 1, 0), (1, 4, 0), (1, 5, 0))] m := hb_mf (q := q) (z := 17) (hb_vr rfl) (hb_vc _ _ _) (by decide) (hb_kd (by decide) (by decide)) (hb_vz1 rfl) k17 (hb_mf (q := q) (z := 10) (hb_vr rfl) (hb_vc _ _ _) (by decide) (hb_kd (by decide) (by decide)) (hb_vr rfl) k10 (hb_mf (q := qw) (z := (k : Int)) (hb_vr rfl) (hb_vz1 rfl) (by omega) hki (hb_vz1 rfl) hx (hb_mf0 _ _)))
    have pf : se_pf [.ref q, .ref qw, hb_z (w : Int), hb_z (c : Int), hb_z (k : Int), hb_z x] [(.lt, (1, 4, 0), (1, 2, 0))] := hb_pf (hb_vz1 rfl) (hb_vz1 rfl) (hb_lt hki hwi (by omega)) (hb_pf0 _)
    have gl : se_gl [.ref q, .ref qw, hb_z (w : Int), hb_z (c : Int), hb_z (k : Int), hb_z x] [some (1, 0, 0), some (0, 0, 140), some (1, 3, 0), some (1, 4, 0)] lc := hb_gl hlc ⟨hb_vr rfl, hb_vc _ _ _, hb_vz1 rfl, hb_vz1 rfl, trivial⟩
    by_cases c1 : x = 140
    · refine se_sho_ok (C := []) (lvl := 1) hO.1 hO.2.1 hO.2.2 (Nat.le_refl 1) (fun c hc => absurd hc List.not_mem_nil) hd ht sS_wa1a (env (by omega) (by omega)) gl mf pf htm hJ (fun T hT => ?_)
      rcases List.mem_cons.mp hT with rfl | hT
      · intro τ lc' m' cb' sb' hρ he hM hP htm' hJ' hap hfq
        refine ⟨fun _ hg => ?_, fun e => absurd e (by decide)⟩
        cases hb_ap0 (hap _ rfl)
        exact ih (k + 1) (c + 1) lc' cb' sb' (by omega) (by omega) (fun _ => ⟨k, by omega, by rw [rw_vz hx hxi]; exact c1⟩) (hb_lcof hg ⟨hb_vr (hb_at hρ rfl), hb_vc _ _ _, hb_vs (hb_at hρ rfl) (by omega), hb_vs (hb_at hρ rfl) (by omega), trivial⟩)
      · exact absurd hT List.not_mem_nil
    · by_cases c2 : x < 140
      · refine se_sho_ok (C := []) (lvl := 1) hO.1 hO.2.1 hO.2.2 (Nat.le_refl 1) (fun c hc => absurd hc List.not_mem_nil) hd ht sS_wa1b (env (by omega) (by omega)) gl mf pf htm hJ (fun T hT => ?_)
        rcases List.mem_cons.mp hT with rfl | hT
        · intro τ lc' m' cb' sb' hρ he hM hP htm' hJ' hap hfq
          refine ⟨fun _ hg => ?_, fun e => absurd e (by decide)⟩
          cases hb_ap0 (hap _ rfl)
          exact ih (k + 1) c lc' cb' sb' (by omega) (by omega) hcw (hb_lcof hg ⟨hb_vr (hb_at hρ rfl), hb_vc _ _ _, hb_vs (hb_at hρ rfl) (by omega), hb_vs (hb_at hρ rfl) (by omega), trivial⟩)
        · exact absurd hT List.not_mem_nil
      · refine se_sho_ok (C := []) (lvl := 1) hO.1 hO.2.1 hO.2.2 (Nat.le_refl 1) (fun c hc => absurd hc List.not_mem_nil) hd ht sS_wa1c (env (by omega) (by omega)) gl mf pf htm hJ (fun T hT => ?_)
        rcases List.mem_cons.mp hT with rfl | hT
        · intro τ lc' m' cb' sb' hρ he hM hP htm' hJ' hap hfq
          refine ⟨fun _ hg => ?_, fun e => absurd e (by decide)⟩
          cases hb_ap0 (hap _ rfl)
          exact ih (k + 1) c lc' cb' sb' (by omega) (by omega) hcw (hb_lcof hg ⟨hb_vr (hb_at hρ rfl), hb_vc _ _ _, hb_vs (hb_at hρ rfl) (by omega), hb_vs (hb_at hρ rfl) (by omega), trivial⟩)
        · exact absurd hT List.not_mem_nil
theorem wa_main (hO : se_Ok ty J kx zs) {t : mm_Mt} (ht : mm_mths[296]? = some t) (hd : 13 ≤ d) {q qw w : Nat} {m : List mm_C} (hq : ty q = some 89) (hqw : ty qw = some 62) (k10 : se_get m q 10 = some (.ref qw)) (k17 : se_get m q 17 = some (hb_z (w : Int))) (hw : w ≤ 160) (hS : ∀ k, k < w → rw_v m qw k ∈ re_S) (htm : se_tm ty se_tt m) (hJ : J m) : mm_T kx zs (wa_Q m qw w t) [] d (sx_fi 296) (mm_ent 296 [.ref q, hb_z 140] m) := by
  have hlc : hb_lc [some (.ref q), some (hb_z 140)] (lv_args 0 [.ref q, hb_z 140]) := fun i x hx => by
    match i, hx with
    | 0, hx => cases hx; rfl
    | 1, hx => cases hx; rfl
    | i + 2, hx => simp at hx
  refine se_sho_ok (C := []) (lvl := 1) (ρ := [.ref q]) hO.1 hO.2.1 hO.2.2 (Nat.le_refl 1) (fun c hc => absurd hc List.not_mem_nil) hd ht sS_wa0 (hb_env ⟨rfl, hb_kr hq, trivial⟩) (hb_gl hlc ⟨hb_vr rfl, hb_vc _ _ _, trivial⟩) (hb_mf0 _ _) (hb_pf0 _) htm hJ (fun T hT => ?_)
  rcases List.mem_cons.mp hT with rfl | hT
  · intro τ lc' m' cb' sb' hρ he hM hP htm' hJ' hap hfq
    refine ⟨fun _ hg => ?_, fun e => absurd e (by decide)⟩
    cases hb_ap0 (hap _ rfl)
    exact wa_loop hO ht hd hq hqw k10 k17 hw hS htm hJ w 0 0 lc' cb' sb' rfl (Nat.le_refl 0) (fun h => absurd h (Nat.lt_irrefl 0)) (hb_lcof hg ⟨hb_vr (hb_at hρ rfl), hb_vc _ _ _, hb_vc _ _ _, hb_vc _ _ _, trivial⟩)
  · exact absurd hT List.not_mem_nil
end HE
