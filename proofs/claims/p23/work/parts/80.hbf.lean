/-! ===== by hand: an E of a text ===== -/
section HF
variable {ty : Nat → Option Nat} {kx : Nat} {zs : List mm_Zt} {J : List mm_C → Prop} {P : mm_S → Prop} {d : Nat}
def re_C (ty : Nat → Option Nat) (qc p : Nat) (m0 m : List mm_C) : Prop := se_fq ty [(61, 0, 489), (62, 0, 200), (89, 12, 18)] m0 m ∧ ∀ i, i < 163 * p → se_get m qc i = se_get m0 qc i
def re_Q (ty : Nat → Option Nat) (J : List mm_C → Prop) (qc p : Nat) (m0 : List mm_C) (t : mm_Mt) (τ : mm_S) : Prop := ∃ v, mm_ret t τ = some (some (hb_z v)) ∧ (v = 0 ∨ v = 1) ∧ se_tm ty se_tt τ.2.2.2.1 ∧ J τ.2.2.2.1 ∧ re_C ty qc p m0 τ.2.2.2.1 ∧ (v = 1 → rw_row τ.2.2.2.1 qc (163 * p))
theorem re_Ct {qc p : Nat} {a b c : List mm_C} (h1 : re_C ty qc p a b) (h2 : re_C ty qc p b c) : re_C ty qc p a c := ⟨hb_fq_t h1.1 h2.1, fun i hi => (h2.2 i hi).trans (h1.2 i hi)⟩
theorem re_r0 {qc p : Nat} {m0 m : List mm_C} {t : mm_Mt} {pc cb sb : Nat} {lc : List (Nat × Value)} {sc : List Value} {v : Option Value} {τ : List Value} (hv : mm_ret t (pc, lc, sc, m, cb, sb) = some v) (hx : ∃ x, v = some x ∧ se_v τ (0, 0, 0) = some x) (htm : se_tm ty se_tt m) (hJ : J m) (hC : re_C ty qc p m0 m) : re_Q ty J qc p m0 t (pc, lc, sc, m, cb, sb) := by
  obtain ⟨x, rfl, hx⟩ := hx
  rw [hb_vc] at hx
  cases hx
  exact ⟨0, hv, Or.inl rfl, htm, hJ, hC, fun h => absurd h (by decide)⟩
theorem re_lay2 {q qc qw p n w e : Nat} {v : Int} {m m' : List mm_C} (hp : p < 3) (hq : ty q = some 89) (hqc : ty qc = some 61) (hqw : ty qw = some 62) (h : re_I ty J q qc qw p 0 n w e m) (htm : se_tm ty se_tt m') (hJ : J m') (e1 : m' = se_set (se_set m qc (163 * p + 1 + n) (hb_z v)) q 16 (hb_z ((163 * p + 1 + (n + 1) : Nat) : Int))) (hvi : hb_i v) (hv : -9 ≤ v) (hsum : n + 1 + w ≤ e) : re_I ty J q qc qw p 1 (n + 1) w e m' ∧ (∀ i, i < 163 * p + 1 → se_get m' qc i = se_get m qc i) ∧ ∀ i, i ≠ 16 → se_get m' q i = se_get m q i := by
  have i1 := h.1
  have i3 := h.2.2.1
  have i4 := h.2.2.2.1
  have i6 := h.2.2.2.2.2.1
  have hqc' : q ≠ qc := hb_ne hq hqc (by decide)
  have hqw' : q ≠ qw := hb_ne hq hqw (by decide)
  have hcw : qc ≠ qw := hb_ne hqc hqw (by decide)
  obtain ⟨oc, hoc, -⟩ := hb_at61 (i := 163 * p + 1 + n) i1 hqc (by omega)
  have gw : ∀ i, se_get m' qw i = se_get m qw i := fun i => by
    rw [e1, se_get_set_ne (Or.inl hqw'.symm), se_get_set_ne (Or.inl hcw.symm)]
  have gc : ∀ i, i ≠ 163 * p + 1 + n → se_get m' qc i = se_get m qc i := fun i hi => by
    rw [e1, se_get_set_ne (Or.inl hqc'.symm), se_get_set_ne (Or.inr hi)]
  have gs : se_get m' qc (163 * p + 1 + n) = some (hb_z v) := by
    rw [e1, se_get_set_ne (Or.inl hqc'.symm)]
    exact se_get_set hoc
  have gq : ∀ i, i ≠ 16 → se_get m' q i = se_get m q i := fun i h1 => by
    rw [e1, se_get_set_ne (Or.inr h1), se_get_set_ne (Or.inl hqc')]
  have g16 : se_get m' q 16 = some (hb_z ((163 * p + 1 + (n + 1) : Nat) : Int)) := by
    rw [e1]
    exact se_get_set (y := hb_z ((163 * p + 1 + n : Nat) : Int)) (by rw [se_get_set_ne (Or.inl hqc')]; exact i3)
  have w0 := wt_0 (rw_v m qw) w
  refine ⟨re_E (w' := w) h htm hJ gw gc gs hvi g16 ((gq 17 (by decide)).trans i4) (gq 13 (by decide)) ⟨fun _ => hv, fun h => absurd h (by omega), fun h => absurd h (by omega)⟩ ?_ (Nat.le_refl w) hsum, fun i hi => gc i (by omega), gq⟩
  unfold rw_w
  rw [if_pos (by omega)]
  omega
theorem re_push2 {q qc qw p n w e : Nat} {b b' x : Int} {m m' : List mm_C} (hq : ty q = some 89) (hqc : ty qc = some 61) (hqw : ty qw = some 62) (h : re_I ty J q qc qw p b n w e m) (htm : se_tm ty se_tt m') (hJ : J m') (e1 : m' = se_set (se_set m qw w (hb_z x)) q 17 (hb_z ((w + 1 : Nat) : Int))) (hx : x ∈ re_S) (hbal : b = (if x = 140 ∨ x = 15 then 0 else 1) + b') (hsum : n + (w + 1) ≤ e) : re_I ty J q qc qw p b' n (w + 1) e m' ∧ ∀ i, se_get m' qc i = se_get m qc i := by
  have i1 := h.1
  have i4 := h.2.2.2.1
  have i6 := h.2.2.2.2.2.1
  have hqc' : q ≠ qc := hb_ne hq hqc (by decide)
  have hqw' : q ≠ qw := hb_ne hq hqw (by decide)
  have hcw : qc ≠ qw := hb_ne hqc hqw (by decide)
  obtain ⟨ow, how, -⟩ := hb_at62 (i := w) i1 hqw (by omega)
  have hxi : hb_i x := by
    simp only [re_S, List.mem_cons, List.not_mem_nil, or_false] at hx
    exact hb_kd (by omega) (by omega)
  have gw : ∀ i, i ≠ w → se_get m' qw i = se_get m qw i := fun i hi => by
    rw [e1, se_get_set_ne (Or.inl hqw'.symm), se_get_set_ne (Or.inr hi)]
  have gs : se_get m' qw w = some (hb_z x) := by
    rw [e1, se_get_set_ne (Or.inl hqw'.symm)]
    exact se_get_set how
  have gc : ∀ i, se_get m' qc i = se_get m qc i := fun i => by
    rw [e1, se_get_set_ne (Or.inl hqc'.symm), se_get_set_ne (Or.inl hcw)]
  have gq : ∀ i, i ≠ 17 → se_get m' q i = se_get m q i := fun i h1 => by
    rw [e1, se_get_set_ne (Or.inr h1), se_get_set_ne (Or.inl hqw')]
  have g17 : se_get m' q 17 = some (hb_z ((w + 1 : Nat) : Int)) := by
    rw [e1]
    exact se_get_set (y := hb_z (w : Int)) (by rw [se_get_set_ne (Or.inl hqw')]; exact i4)
  exact ⟨re_P h htm hJ gw gs hx hxi gc (gq 16 (by decide)) g17 (gq 13 (by decide)) hbal hsum, gc⟩
/-- settles, called -/
theorem re_callst (hO : se_Ok ty J kx zs) (hd : 13 ≤ d) {q qc qw p n w e pc cb sb : Nat} (hp : p < 3) {m : List mm_C} (hq : ty q = some 89) (hqc : ty qc = some 61) (hqw : ty qw = some 62) (k9 : se_get m q 9 = some (.ref qc)) (k10 : se_get m q 10 = some (.ref qw)) {r : Int} (hr1 : 1 ≤ r) (hr2 : r ≤ 5) (hI : re_I ty J q qc qw p 1 n w e m) {lc : List (Nat × Value)} (hdec : decode (sx_fi 295).2.1 pc = .ok (.invokevirtual 272, 3)) (hgo : ∀ (n' w' : Nat) (m' : List mm_C) (cb sb : Nat), re_I ty J q qc qw p 1 n' w' e m' → st_R ty q qc qw p w n m n' w' m' → (r = 1 → w' = 0 ∨ ∃ k, w' = k + 1 ∧ rw_v m' qw k = 140) → mm_T kx zs P [] (d + 1) (sx_fi 295) (pc + 3, lc, [], m', cb, sb)) : mm_T kx zs P [] (d + 1) (sx_fi 295) (pc, lc, [hb_z r, .ref q], m, cb, sb) := by
  obtain ⟨t2, ht2⟩ : ∃ t2, mm_mths[298]? = some t2 := ⟨_, rfl⟩
  have hb2 : (mm_mths[298]?).map (fun t => (t.1, t.2.2.2.1, t.2.2.2.2.2.1, t.2.2.2.2.2.2.1)) = some (12, 2, 1, 1) := rfl
  rw [ht2] at hb2
  have hb3 := Option.some.inj hb2
  obtain ⟨fs, hfs⟩ := hb_obj hI.1 hq
  have hlc : hb_lc [some (.ref q), some (hb_z r)] (lv_args 0 [.ref q, hb_z r]) := fun i x hx => by
    match i, hx with
    | 0, hx => cases hx; rfl
    | 1, hx => cases hx; rfl
    | i + 2, hx => simp at hx
  refine hb_virt1 (t := t2) (y := 298) hdec rfl ht2 (congrArg Prod.fst hb3) (Nat.le_of_eq (congrArg (fun a => a.2.1) hb3).symm) (congrArg (fun a => a.2.2.1) hb3) (congrArg (fun a => a.2.2.2) hb3) rfl rfl hfs (st_main hO ht2 hd hp hq hqc hqw k9 k10 hr1 hr2 w n _ m _ _ hI ⟨fun _ => rfl, fun _ _ _ => rfl, fun _ _ => rfl, Nat.le_refl w, rfl, fun j h1 h2 => absurd h2 (by omega), fun _ _ => rfl, fun _ _ _ _ _ => rfl⟩ hlc) (fun τ cb sb hτ => ?_)
  obtain ⟨h1, n', w', h2, h3, h4⟩ := hτ
  exact ⟨none, h1, hgo n' w' _ cb sb h2 h3 h4⟩
theorem st_RC {q qc qw p w n w' n' : Nat} {m m' : List mm_C} (h : st_R ty q qc qw p w n m n' w' m') : re_C ty qc p m m' := ⟨h.2.2.2.2.2.2, fun i hi => h.2.2.1 i (by omega)⟩
/-- none is wanted, a sign of two sides: those that bind tighter go, it waits -/
theorem re_sign (hO : se_Ok ty J kx zs) {t : mm_Mt} (ht : mm_mths[295]? = some t) (hd : 13 ≤ d) {q qc qw p n w e cb sb : Nat} (hp : p < 3) {m : List mm_C} (hq : ty q = some 89) (hqc : ty qc = some 61) (hqw : ty qw = some 62) (k9 : se_get m q 9 = some (.ref qc)) (k10 : se_get m q 10 = some (.ref qw)) {r x : Int} (hr1 : 1 ≤ r) (hr2 : r ≤ 5) (hI : re_I ty J q qc qw p 1 n w e m) (hsum : n + w + 1 ≤ e) (hx : x ∈ re_S) (hx2 : ¬ (x = 140 ∨ x = 15)) (k14 : se_get m q 14 = some (hb_z x)) {mN : Int} {lc : List (Nat × Value)} (hlc : hb_lc [some (.ref q), some (hb_z (p : Int)), some (hb_z 0), some (hb_z mN), some (hb_z r)] lc) (hgo : ∀ (n' w' : Nat) (m' : List mm_C) (lc : List (Nat × Value)) (mN : Int) (cb sb : Nat), re_I ty J q qc qw p 0 n' w' e m' → re_C ty qc p m m' → 0 ≤ mN → mN ≤ 1 → hb_lc [some (.ref q), some (hb_z (p : Int)), some (hb_z 1), some (hb_z mN)] lc → mm_T kx zs P [] (d + 1) (sx_fi 295) (20, lc, [], m', cb, sb)) : mm_T kx zs P [] (d + 1) (sx_fi 295) (300, lc, [], m, cb, sb) := by
  have l0 : mm_lget lc 0 = some (.ref q) := hlc 0 _ rfl
  have l4 : mm_lget lc 4 = some (hb_z r) := hlc 4 _ rfl
  have l4' : mm_lget lc 4 = some (.int (Int32.ofInt r)) := l4
  refine mm_T_step (σ' := (301, lc, [.ref q], m, cb, sb)) hd_295_300 rfl (by simp [mm_stp, mm_pure, mm_lda, l0]) ?_
  refine mm_T_step (σ' := (303, lc, [hb_z r, .ref q], m, cb, sb)) hd_295_301 rfl (by simp [mm_stp, mm_pure, mm_ldi, l4', hb_z]) ?_
  refine re_callst hO hd hp hq hqc hqw k9 k10 hr1 hr2 hI hd_295_303 (fun n' w' m' cb sb hI' hR _ => ?_)
  have hC := st_RC hR
  have hsum' : n' + w' = n + w := hR.2.2.2.2.1
  have i4 := hI'.2.2.2.1
  have i6 := hI'.2.2.2.2.2.1
  have k14' : se_get m' q 14 = some (hb_z x) := (hR.2.1 14 (by decide) (by decide)).trans k14
  have k10' : se_get m' q 10 = some (.ref qw) := (hR.2.1 10 (by decide) (by decide)).trans k10
  have hwi := hb_k w' (by omega)
  have hpi := hb_k p (by omega)
  have hri : hb_i r := hb_kd (by omega) (by omega)
  have hxi : hb_i x := by
    have h := hx
    simp only [re_S, List.mem_cons, List.not_mem_nil, or_false] at h
    exact hb_kd (by omega) (by omega)
  refine se_sho_ok (C := []) (lvl := 1) (ρ := [.ref q, hb_z (p : Int), hb_z r, .ref qw, hb_z (w' : Int), hb_z x]) hO.1 hO.2.1 hO.2.2 (Nat.le_refl 1) (fun c hc => absurd hc List.not_mem_nil) (by omega) ht sS_ng (hb_env ⟨rfl, hb_kr hq, rfl, hb_kz hpi (by omega) (by omega), rfl, hb_kz hri hr1 hr2, rfl, hb_kr hqw, rfl, hb_kz hwi (by omega) (by omega), rfl, hb_kz hxi hxi.1 hxi.2, trivial⟩) (hb_gl (l := [some (.ref q), some (hb_z (p : Int)), some (hb_z 0), none, some (hb_z r)]) (fun i y hy => by
    match i, hy with
    | 0, hy => cases hy; exact l0
    | 1, hy => cases hy; exact hlc 1 _ rfl
    | 2, hy => cases hy; exact hlc 2 _ rfl
    | 3, hy => cases hy
    | 4, hy => cases hy; exact l4
    | i + 5, hy => simp at hy) ⟨hb_vr rfl, hb_vz1 rfl, hb_vc _ _ _, hb_vz1 rfl, trivial⟩) (hb_mf (q := q) (z := 10) (hb_vr rfl) (hb_vc _ _ _) (by decide) (hb_kd (by decide) (by decide)) (hb_vr rfl) k10' (hb_mf (q := q) (z := 17) (hb_vr rfl) (hb_vc _ _ _) (by decide) (hb_kd (by decide) (by decide)) (hb_vz1 rfl) i4 (hb_mf (q := q) (z := 14) (hb_vr rfl) (hb_vc _ _ _) (by decide) (hb_kd (by decide) (by decide)) (hb_vz1 rfl) k14' (hb_mf0 _ _)))) (hb_pf0 _) hI'.1 hI'.2.1 (fun T hT => ?_)
  rcases List.mem_cons.mp hT with rfl | hT
  · intro τ lc' m2 cb' sb' hρ he hM hP htm' hJ' hap hfq
    refine ⟨fun _ hg => ?_, fun e => absurd e (by decide)⟩
    obtain ⟨m3, hap1, e1⟩ := hb_ap (hap _ rfl) (hb_vr (hb_at hρ rfl)) (hb_vc _ _ _) (hb_kd (by decide) (by decide)) (hb_vs (w := ((w' + 1 : Nat) : Int)) (hb_at hρ rfl) (by omega))
    obtain ⟨m4, hap2, e2⟩ := hb_ap hap1 (hb_vr (hb_at hρ rfl)) (hb_vz1 (hb_at hρ rfl)) hwi (hb_vz1 (hb_at hρ rfl))
    have e4 := hb_ap0 hap2
    subst e4
    subst e2
    have e1 : m2 = se_set (se_set m4 qw w' (hb_z x)) q 17 (hb_z ((w' + 1 : Nat) : Int)) := e1
    obtain ⟨mN', hm, hmi, hm0, hm1⟩ := hb_new he (k := 6) rfl
    obtain ⟨g1, g2⟩ := re_push2 (b' := 0) hq hqc hqw hI' htm' hJ' e1 hx (by rw [if_neg hx2]; rfl) (by omega)
    exact hgo n' (w' + 1) m2 lc' mN' cb' sb' g1 (re_Ct hC ⟨hfq, fun i _ => g2 i⟩) hm0 hm1 (hb_lcof hg ⟨hb_vr (hb_at hρ rfl), hb_vz1 (hb_at hρ rfl), hb_vc _ _ _, hb_vz1 hm, trivial⟩)
  · exact absurd hT List.not_mem_nil
end HF
