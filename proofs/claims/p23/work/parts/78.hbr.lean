/-! ===== by hand: the reader of texts of the reference, its waiting signs ===== -/
def wt_t (g : Nat → Int) : Nat → Int
  | 0 => 0
  | k + 1 => wt_t g k + (if g k = 140 ∨ g k = 15 then 0 else 1)
theorem wt_c {f g : Nat → Int} {n : Nat} (h : ∀ k, k < n → f k = g k) : ∀ k, k ≤ n → wt_t f k = wt_t g k
  | 0, _ => rfl
  | k + 1, hk => by
    show wt_t f k + _ = wt_t g k + _
    rw [wt_c h k (by omega), h k (by omega)]
theorem wt_0 (g : Nat → Int) : ∀ k, 0 ≤ wt_t g k
  | 0 => Int.le_refl 0
  | k + 1 => by
    have := wt_0 g k
    show 0 ≤ wt_t g k + _
    split <;> omega
def re_S : List Int := [13, 14, 15, 140, 143, 145, 160, 161]
/-- what the reader has laid and what waits -/
def re_I (ty : Nat → Option Nat) (J : List mm_C → Prop) (q qc qw p : Nat) (b : Int) (n w e : Nat) (m : List mm_C) : Prop := se_tm ty se_tt m ∧ J m ∧ se_get m q 16 = some (hb_z ((163 * p + 1 + n : Nat) : Int)) ∧ se_get m q 17 = some (hb_z (w : Int)) ∧ se_get m q 13 = some (hb_z (e : Int)) ∧ e ≤ 160 ∧ n + w ≤ e ∧ rw_ok (fun j => rw_v m qc (163 * p + 1 + j)) n ∧ rw_d (fun j => rw_v m qc (163 * p + 1 + j)) n = wt_t (rw_v m qw) w + b ∧ ∀ k, k < w → rw_v m qw k ∈ re_S
section HR
variable {ty : Nat → Option Nat} {kx : Nat} {zs : List mm_Zt} {J : List mm_C → Prop} {Q : mm_S → Prop} {d : Nat}
theorem hb_T_frame {P Qc : mm_S → Prop} {K : List mm_Fr} {f : mm_Fr} {fi : mm_Fi} {σ : mm_S} (h : mm_T kx zs Qc [] d fi σ) (hk : ∀ τ, Qc τ → ∃ v, mm_ret f.2.1 τ = some v ∧ mm_T kx zs P K (d + 1) f.1 (f.2.2.1, f.2.2.2.1, v.toList ++ f.2.2.2.2.1, τ.2.2.2.1, f.2.2.2.2.2.1, f.2.2.2.2.2.2)) : mm_T kx zs P (f :: K) d fi σ := by
  obtain ⟨n, τ, h1, h2⟩ := h
  obtain ⟨v, h3, h4⟩ := hk τ h2
  exact ⟨n, τ, v, h1, h3, h4⟩
theorem hb_virt1 {P Qc : mm_S → Prop} {fi : mm_Fi} {pc idx y pl q cb sb : Nat} {t : mm_Mt} {x : Value} {lc : List (Nat × Value)} {m : List mm_C} {fs : List Value} (hd : decode fi.2.1 pc = .ok (.invokevirtual idx, 3)) (hl : mm_look fi.1 idx = some (idx, 2, y, 0, 0, pl)) (ht : mm_mths[y]? = some t) (h1 : t.1 = 12) (h2 : 2 ≤ t.2.2.2.1) (h3 : t.2.2.2.2.2.1 = 1) (h4 : t.2.2.2.2.2.2.1 = 1) (hb : mm_bud y = (0, 0)) (hx : x.category = 1) (hq : m[q]? = some (.inr (12, fs))) (hc : mm_T kx zs Qc [] d (sx_fi y) (mm_ent y [.ref q, x] m)) (hk : ∀ (τ : mm_S) (cb sb : Nat), Qc τ → ∃ v, mm_ret t τ = some v ∧ mm_T kx zs P [] (d + 1) fi (pc + 3, lc, v.toList ++ [], τ.2.2.2.1, cb, sb)) : mm_T kx zs P [] (d + 1) fi (pc, lc, [x, .ref q], m, cb, sb) := by
  refine mm_T_call (As := [.ref q, x]) (rest := []) (t := t) hd rfl rfl ?_ ht ⟨?_, by rw [hb]; exact Nat.zero_le _, by rw [hb]; exact Nat.zero_le _⟩ (hb_T_frame (by rw [← sx_cods_mths ht]; exact hc) (fun τ hτ => hk τ _ _ hτ))
  · unfold mm_cal
    simp [hl, ht, h1, h3, h4, hq]
  · show ([Slot.val (Value.ref q)] ++ ((if x.category = 2 then [Slot.val x, Slot.second] else [Slot.val x]) ++ [])).length ≤ t.2.2.2.1
    rw [if_neg (by rw [hx]; decide)]
    exact h2
theorem hb_virt0 {P Qc : mm_S → Prop} {fi : mm_Fi} {pc idx y pl q cb sb : Nat} {t : mm_Mt} {lc : List (Nat × Value)} {m : List mm_C} {fs : List Value} (hd : decode fi.2.1 pc = .ok (.invokevirtual idx, 3)) (hl : mm_look fi.1 idx = some (idx, 2, y, 0, 0, pl)) (ht : mm_mths[y]? = some t) (h1 : t.1 = 12) (h2 : 1 ≤ t.2.2.2.1) (h3 : t.2.2.2.2.2.1 = 0) (h4 : t.2.2.2.2.2.2.1 = 1) (hb : mm_bud y = (0, 0)) (hq : m[q]? = some (.inr (12, fs))) (hc : mm_T kx zs Qc [] d (sx_fi y) (mm_ent y [.ref q] m)) (hk : ∀ (τ : mm_S) (cb sb : Nat), Qc τ → ∃ v, mm_ret t τ = some v ∧ mm_T kx zs P [] (d + 1) fi (pc + 3, lc, v.toList ++ [], τ.2.2.2.1, cb, sb)) : mm_T kx zs P [] (d + 1) fi (pc, lc, [.ref q], m, cb, sb) := by
  refine mm_T_call (As := [.ref q]) (rest := []) (t := t) hd rfl rfl ?_ ht ⟨?_, by rw [hb]; exact Nat.zero_le _, by rw [hb]; exact Nat.zero_le _⟩ (hb_T_frame (by rw [← sx_cods_mths ht]; exact hc) (fun τ hτ => hk τ _ _ hτ))
  · unfold mm_cal
    simp [hl, ht, h1, h3, h4, hq]
  · unfold lg_sl
    simp [Value.category]
    omega
theorem hb_obj {m : List mm_C} {q : Nat} (htm : se_tm ty se_tt m) (hq : ty q = some 89) : ∃ fs, m[q]? = some (.inr (12, fs)) := by
  have h := htm q 89 hq
  unfold se_tc at h
  rw [show (se_tt 89).1 = some 12 from rfl] at h
  obtain ⟨fs, e, -⟩ := h
  exact ⟨fs, e⟩
theorem hb_code {m : List mm_C} {q : Nat} (htm : se_tm ty se_tt m) (hq : ty q = some 89) : ∃ p, se_get m q 9 = some (.ref p) ∧ ty p = some 61 := hb_ref (l := 0) (h := 0) htm hq (by decide +kernel) (by decide +kernel)
theorem hb_waits {m : List mm_C} {q : Nat} (htm : se_tm ty se_tt m) (hq : ty q = some 89) : ∃ p, se_get m q 10 = some (.ref p) ∧ ty p = some 62 := hb_ref (l := 0) (h := 0) htm hq (by decide +kernel) (by decide +kernel)
theorem hb_at61 {m : List mm_C} {p i : Nat} (htm : se_tm ty se_tt m) (hp : ty p = some 61) (hi : i < 489) : ∃ z, se_get m p i = some (hb_z z) ∧ hb_i z := by
  obtain ⟨x, h1, h2⟩ := se_tc_get (i := i) (htm p 61 hp) (show i < 489 from hi)
  unfold se_k at h2
  rw [se_seg_any (by decide +kernel) i] at h2
  obtain ⟨n, rfl, -⟩ := h2
  exact ⟨n.toInt, by rw [h1, hb_zx], se_i32 n⟩
theorem hb_at62 {m : List mm_C} {p i : Nat} (htm : se_tm ty se_tt m) (hp : ty p = some 62) (hi : i < 200) : ∃ z, se_get m p i = some (hb_z z) ∧ hb_i z := by
  obtain ⟨x, h1, h2⟩ := se_tc_get (i := i) (htm p 62 hp) (show i < 200 from hi)
  unfold se_k at h2
  rw [se_seg_any (by decide +kernel) i] at h2
  obtain ⟨n, rfl, -⟩ := h2
  exact ⟨n.toInt, by rw [h1, hb_zx], se_i32 n⟩
/-- one act more -/
theorem re_E {q qc qw p n w w' e : Nat} {b b' v : Int} {m m' : List mm_C} (h : re_I ty J q qc qw p b n w e m) (htm : se_tm ty se_tt m') (hJ : J m') (gw : ∀ i, se_get m' qw i = se_get m qw i) (gc : ∀ i, i ≠ 163 * p + 1 + n → se_get m' qc i = se_get m qc i) (gs : se_get m' qc (163 * p + 1 + n) = some (hb_z v)) (hvi : hb_i v) (g16 : se_get m' q 16 = some (hb_z ((163 * p + 1 + (n + 1) : Nat) : Int))) (g17 : se_get m' q 17 = some (hb_z (w' : Int))) (g13 : se_get m' q 13 = se_get m q 13) (hv : (-100 < v → -9 ≤ v) ∧ (v = -115 → 1 ≤ wt_t (rw_v m qw) w + b) ∧ (v ≤ -100 → v ≠ -115 → 2 ≤ wt_t (rw_v m qw) w + b)) (hbal : wt_t (rw_v m qw) w + b + rw_w v = wt_t (rw_v m qw) w' + b') (hw : w' ≤ w) (hsum : n + 1 + w' ≤ e) : re_I ty J q qc qw p b' (n + 1) w' e m' := by
  obtain ⟨i1, i2, i3, i4, i5, i6, i7, i8, i9, i10⟩ := h
  have fc : ∀ k, k < n → rw_v m qc (163 * p + 1 + k) = rw_v m' qc (163 * p + 1 + k) := fun k hk => (rw_vc (gc _ (by omega))).symm
  have fs : rw_v m' qc (163 * p + 1 + n) = v := rw_vz gs hvi
  have fw : ∀ k, rw_v m' qw k = rw_v m qw k := fun k => rw_vc (gw k)
  have hd : rw_d (fun j => rw_v m' qc (163 * p + 1 + j)) n = wt_t (rw_v m qw) w + b := by
    rw [← i9]
    exact (rw_dc fc n (Nat.le_refl n)).symm
  have hwt : ∀ k, wt_t (rw_v m' qw) k = wt_t (rw_v m qw) k := fun k => wt_c (n := k) (fun j _ => fw j) k (Nat.le_refl k)
  refine ⟨htm, hJ, g16, g17, g13.trans i5, i6, hsum, fun k hk => ?_, ?_, fun k hk => by rw [fw]; exact i10 k (by omega)⟩
  · by_cases e : k = n
    · subst e
      dsimp only
      rw [fs, hd]
      exact hv
    · exact rw_okc fc i8 k (by omega)
  · show rw_d _ n + rw_w (rw_v m' qc (163 * p + 1 + n)) = _
    rw [hd, fs, hwt, hbal]
/-- one sign more waits -/
theorem re_P {q qc qw p n w e : Nat} {b b' x : Int} {m m' : List mm_C} (h : re_I ty J q qc qw p b n w e m) (htm : se_tm ty se_tt m') (hJ : J m') (gw : ∀ i, i ≠ w → se_get m' qw i = se_get m qw i) (gs : se_get m' qw w = some (hb_z x)) (hx : x ∈ re_S) (hxi : hb_i x) (gc : ∀ i, se_get m' qc i = se_get m qc i) (g16 : se_get m' q 16 = se_get m q 16) (g17 : se_get m' q 17 = some (hb_z ((w + 1 : Nat) : Int))) (g13 : se_get m' q 13 = se_get m q 13) (hbal : b = (if x = 140 ∨ x = 15 then 0 else 1) + b') (hsum : n + (w + 1) ≤ e) : re_I ty J q qc qw p b' n (w + 1) e m' := by
  obtain ⟨i1, i2, i3, i4, i5, i6, i7, i8, i9, i10⟩ := h
  have fc : ∀ k, k < n → rw_v m qc (163 * p + 1 + k) = rw_v m' qc (163 * p + 1 + k) := fun k hk => (rw_vc (gc _)).symm
  have fs : rw_v m' qw w = x := rw_vz gs hxi
  have fw : ∀ k, k < w → rw_v m' qw k = rw_v m qw k := fun k hk => rw_vc (gw k (by omega))
  refine ⟨htm, hJ, g16.trans i3, g17, g13.trans i5, i6, hsum, rw_okc fc i8, ?_, fun k hk => ?_⟩
  · rw [← rw_dc fc n (Nat.le_refl n), i9]
    show _ = wt_t (rw_v m' qw) w + (if rw_v m' qw w = 140 ∨ rw_v m' qw w = 15 then 0 else 1) + b'
    rw [fs, wt_c fw w (Nat.le_refl w), hbal]
    omega
  · by_cases e : k = w
    · subst e
      rw [fs]
      exact hx
    · rw [fw k (by omega)]
      exact i10 k (by omega)
theorem re_looks {q qc qw p n w e e' : Nat} {b : Int} {m m' : List mm_C} (hq : ty q = some 89) (hqc : ty qc = some 61) (hqw : ty qw = some 62) (h : re_I ty J q qc qw p b n w e m) (hf : se_fq ty [(89, 12, 16)] m m') (htm : se_tm ty se_tt m') (hJ : J m') (h13 : se_get m' q 13 = some (hb_z (e' : Int))) (h1 : e ≤ e') (h2 : e' ≤ 160) : re_I ty J q qc qw p b n w e' m' := by
  obtain ⟨i1, i2, i3, i4, i5, i6, i7, i8, i9, i10⟩ := h
  have kq : ∀ i, 16 ≤ i → se_get m' q i = se_get m q i := fun i hi => hf.2 q 89 i hq (fun u hu _ => by
    rcases List.mem_cons.mp hu with rfl | hu
    · exact Or.inr hi
    · exact absurd hu List.not_mem_nil)
  have ko : ∀ (r u i : Nat), ty r = some u → u ≠ 89 → se_get m' r i = se_get m r i := fun r u i hr hu => hf.2 r u i hr (fun w hw e => by
    rcases List.mem_cons.mp hw with rfl | hw
    · exact absurd e.symm hu
    · exact absurd hw List.not_mem_nil)
  have fc : ∀ k, k < n → rw_v m qc (163 * p + 1 + k) = rw_v m' qc (163 * p + 1 + k) := fun k _ => (rw_vc (ko qc 61 _ hqc (by decide))).symm
  have fw : ∀ k, rw_v m' qw k = rw_v m qw k := fun k => rw_vc (ko qw 62 _ hqw (by decide))
  refine ⟨htm, hJ, (kq 16 (by omega)).trans i3, (kq 17 (by omega)).trans i4, h13, h2, by omega, rw_okc fc i8, ?_, fun k hk => by rw [fw]; exact i10 k hk⟩
  rw [← rw_dc fc n (Nat.le_refl n), i9, wt_c (n := w) (fun k _ => fw k) w (Nat.le_refl w)]
def st_N (c : Int) (p : Nat) : se_N := ([(((91, 0, 0), 0, (0, 0, 0), (0, 0, 0)), (0, (0, 0, 0), (0, 0, 0))), (((64, 0, 0), 0, (0, 0, 0), (0, 0, 0)), (0, (0, 0, 0), (0, 0, 0))), (((63, 0, 0), 0, (0, 0, 0), (0, 0, 0)), (0, (0, 0, 0), (0, 0, 0))), (((0, 1, 160), 0, (0, 0, 0), (0, 0, 0)), (0, (0, 0, 0), (0, 0, 0))), (((0, c, c), 0, (0, 0, 0), (0, 0, 0)), (0, (0, 0, 0), (0, 0, 0))), (((0, (163 * (p : Int) + (1)), (163 * (p : Int) + (161))), 0, (0, 0, 0), (0, 0, 0)), (0, (0, 0, 0), (0, 0, 0))), (((0, 1, 5), 0, (0, 0, 0), (0, 0, 0)), (0, (0, 0, 0), (0, 0, 0)))], [some (1, 0, 0), some (1, 6, 0)], [((1, 0, 0), (0, 0, 17), (1, 3, 0)), ((1, 0, 0), (0, 0, 10), (1, 1, 0)), ((1, 1, 0), (1, 3, (-1)), (1, 4, 0)), ((1, 0, 0), (0, 0, 16), (1, 5, 0)), ((1, 0, 0), (0, 0, 9), (1, 2, 0))], [])
def st_Tr (c rk : Int) (p : Nat) : se_Th := (99999, ([(((91, 0, 0), 0, (0, 0, 0), (0, 0, 0)), (3, (0, 0, 0), (0, 0, 0))), (((64, 0, 0), 0, (0, 0, 0), (0, 0, 0)), (3, (0, 1, 0), (0, 0, 0))), (((63, 0, 0), 0, (0, 0, 0), (0, 0, 0)), (3, (0, 2, 0), (0, 0, 0))), (((0, 1, 160), 0, (0, 0, 0), (0, 0, 0)), (3, (0, 3, 0), (0, 0, 0))), (((0, c, c), 0, (0, 0, 0), (0, 0, 0)), (3, (0, 4, 0), (0, 0, 0))), (((0, (163 * (p : Int) + (1)), (163 * (p : Int) + (161))), 0, (0, 0, 0), (0, 0, 0)), (3, (0, 5, 0), (0, 0, 0))), (((0, 1, 5), 0, (0, 0, 0), (0, 0, 0)), (3, (0, 6, 0), (0, 0, 0)))], [], [], [(.lt, (0, 0, rk), (1, 6, 0))]), some [])
def st_Tg (c : Int) (p : Nat) : se_Th := (0, ([(((91, 0, 0), 0, (0, 0, 0), (0, 0, 0)), (3, (0, 0, 0), (0, 0, 0))), (((64, 0, 0), 0, (0, 0, 0), (0, 0, 0)), (3, (0, 1, 0), (0, 0, 0))), (((63, 0, 0), 0, (0, 0, 0), (0, 0, 0)), (3, (0, 2, 0), (0, 0, 0))), (((0, 1, 160), 0, (0, 0, 0), (0, 0, 0)), (3, (0, 3, 0), (0, 0, 0))), (((0, c, c), 0, (0, 0, 0), (0, 0, 0)), (3, (0, 4, 0), (0, 0, 0))), (((0, (163 * (p : Int) + (1)), (163 * (p : Int) + (161))), 0, (0, 0, 0), (0, 0, 0)), (3, (0, 5, 0), (0, 0, 0))), (((0, 1, 5), 0, (0, 0, 0), (0, 0, 0)), (3, (0, 6, 0), (0, 0, 0)))], [some (1, 0, 0), some (1, 6, 0)], [], []), some [((1, 0, 0), (0, 0, 16), (1, 5, 1)), ((1, 2, 0), (1, 5, 0), ((-1), 4, (-100))), ((1, 0, 0), (0, 0, 17), (1, 3, (-1)))])
/-- what settles leaves as it was -/
def st_R (ty : Nat → Option Nat) (q qc qw p w1 n1 : Nat) (m1 : List mm_C) (n w : Nat) (m : List mm_C) : Prop := (∀ i, se_get m qw i = se_get m1 qw i) ∧ (∀ i, i ≠ 16 → i ≠ 17 → se_get m q i = se_get m1 q i) ∧ (∀ i, i < 163 * p + 1 → se_get m qc i = se_get m1 qc i) ∧ w ≤ w1 ∧ n + w = n1 + w1 ∧ (∀ j, w ≤ j → j < w1 → rw_v m1 qw j ≠ 140) ∧ se_fq ty [(61, 0, 489), (62, 0, 200), (89, 12, 18)] m1 m
def st_Q (ty : Nat → Option Nat) (J : List mm_C → Prop) (q qc qw p w1 n1 e : Nat) (r : Int) (m1 : List mm_C) (t : mm_Mt) (τ : mm_S) : Prop := mm_ret t τ = some none ∧ ∃ n w, re_I ty J q qc qw p 1 n w e τ.2.2.2.1 ∧ st_R ty q qc qw p w1 n1 m1 n w τ.2.2.2.1 ∧ (r = 1 → w = 0 ∨ ∃ k, w = k + 1 ∧ rw_v τ.2.2.2.1 qw k = 140)
theorem st_void {t : mm_Mt} (ht : mm_mths[298]? = some t) {σ : mm_S} {v : Option Value} (h : mm_ret t σ = some v) : v = none := by
  have h0 : (mm_mths[298]?).map (fun t => t.2.2.2.2.1) = some none := rfl
  rw [ht] at h0
  have h0 : t.2.2.2.2.1 = none := Option.some.inj h0
  unfold mm_ret at h
  rw [h0] at h
  split at h
  · cases h
  · cases h
  · cases h
  · split at h
    · cases h; rfl
    · cases h
  · cases h
theorem st_step (hO : se_Ok ty J kx zs) {t : mm_Mt} (ht : mm_mths[298]? = some t) (hd : 13 ≤ d) {q qc qw p w1 n1 e : Nat} (hp : p < 3) {m1 m : List mm_C} (hq : ty q = some 89) (hqc : ty qc = some 61) (hqw : ty qw = some 62) (k9 : se_get m1 q 9 = some (.ref qc)) (k10 : se_get m1 q 10 = some (.ref qw)) {c rk r : Int} (hrk : rk = 0 → c = 140) (hrk0 : 0 ≤ rk) (hrk5 : rk ≤ 5) (hr1 : 1 ≤ r) (hr2 : r ≤ 5) {k n w : Nat} {Ts : List se_Th} (hs : se_sho se_tt [] se_Z 37 se_zt [(61, 0, 489), (62, 0, 200), (89, 12, 18)] 298 (st_N c p) 0 k Ts = true) (hTs : ∀ T ∈ Ts, T = st_Tr c rk p ∨ (c ≠ 140 ∧ T = st_Tg c p)) (hI : re_I ty J q qc qw p 1 n (w + 1) e m) (hR : st_R ty q qc qw p w1 n1 m1 n (w + 1) m) (hc : rw_v m qw w = c) (hcS : c ∈ re_S) {lc : List (Nat × Value)} {cb sb : Nat} (hlc : hb_lc [some (.ref q), some (hb_z r)] lc) (ih : ∀ (n : Nat) (lc : List (Nat × Value)) (m : List mm_C) (cb sb : Nat), re_I ty J q qc qw p 1 n w e m → st_R ty q qc qw p w1 n1 m1 n w m → hb_lc [some (.ref q), some (hb_z r)] lc → mm_T kx zs (st_Q ty J q qc qw p w1 n1 e r m1 t) [] d (sx_fi 298) (0, lc, [], m, cb, sb)) : mm_T kx zs (st_Q ty J q qc qw p w1 n1 e r m1 t) [] d (sx_fi 298) (0, lc, [], m, cb, sb) := by
  obtain ⟨i1, i2, i3, i4, i5, i6, i7, i8, i9, i10⟩ := id hI
  obtain ⟨r1, r2, r3, r4, r5, r6, r7⟩ := id hR
  have hc1 : 13 ≤ c ∧ c ≤ 161 := by
    simp only [re_S, List.mem_cons, List.not_mem_nil, or_false] at hcS
    omega
  have hp3 : 163 * p + 1 + n < 489 := by omega
  have hwi := hb_k (w + 1) (by omega)
  have hwi' := hb_k w (by omega)
  have hsi := hb_k (163 * p + 1 + n) (by omega)
  have hci : hb_i c := hb_kd (by omega) (by omega)
  have hri : hb_i r := hb_kd (by omega) (by omega)
  have hqc' : q ≠ qc := hb_ne hq hqc (by decide)
  have hqw' : q ≠ qw := hb_ne hq hqw (by decide)
  have hcw : qc ≠ qw := hb_ne hqc hqw (by decide)
  obtain ⟨x, hx, hxi⟩ := hb_at62 (i := w) i1 hqw (by omega)
  have hxc : x = c := by rw [← hc]; exact (rw_vz hx hxi).symm
  subst hxc
  refine se_sho_ok (C := []) (lvl := 1) (ρ := [.ref q, .ref qw, .ref qc, hb_z ((w + 1 : Nat) : Int), hb_z x, hb_z ((163 * p + 1 + n : Nat) : Int), hb_z r]) hO.1 hO.2.1 hO.2.2 (Nat.le_refl 1) (fun c hc => absurd hc List.not_mem_nil) hd ht hs (hb_env ⟨rfl, hb_kr hq, rfl, hb_kr hqw, rfl, hb_kr hqc, rfl, hb_kz hwi (by omega) (by omega), rfl, hb_kz hci (Int.le_refl _) (Int.le_refl _), rfl, hb_kz hsi (by omega) (by omega), rfl, hb_kz hri hr1 hr2, trivial⟩) (hb_gl hlc ⟨hb_vr rfl, hb_vz1 rfl, trivial⟩) (hb_mf (q := q) (z := 17) (hb_vr rfl) (hb_vc _ _ _) (by decide) (hb_kd (by decide) (by decide)) (hb_vz1 rfl) i4 (hb_mf (q := q) (z := 10) (hb_vr rfl) (hb_vc _ _ _) (by decide) (hb_kd (by decide) (by decide)) (hb_vr rfl) ((r2 10 (by decide) (by decide)).trans k10) (hb_mf (q := qw) (z := (w : Int)) (hb_vr rfl) (hb_vs rfl (by omega)) (by omega) hwi' (hb_vz1 rfl) hx (hb_mf (q := q) (z := 16) (hb_vr rfl) (hb_vc _ _ _) (by decide) (hb_kd (by decide) (by decide)) (hb_vz1 rfl) i3 (hb_mf (q := q) (z := 9) (hb_vr rfl) (hb_vc _ _ _) (by decide) (hb_kd (by decide) (by decide)) (hb_vr rfl) ((r2 9 (by decide) (by decide)).trans k9) (hb_mf0 _ _)))))) (hb_pf0 _) i1 i2 (fun T hT => ?_)
  rcases hTs T hT with rfl | ⟨h140, rfl⟩
  · intro τ lc' m' cb' sb' hρ he hM hP htm' hJ' hap hfq
    refine ⟨fun e => absurd rfl e, fun _ pc sc v hv hrv => ?_⟩
    cases hb_ap0 (hap _ rfl)
    have hvn := st_void ht hv
    subst hvn
    have hlt := hb_plt hP List.mem_cons_self (hb_vc _ _ _) (hb_vz1 (hb_at hρ rfl)) (hb_kd (by omega) (by omega)) hri
    exact ⟨hv, n, w + 1, hI, hR, fun h1 => Or.inr ⟨w, rfl, by rw [hc]; exact hrk (by omega)⟩⟩
  · intro τ lc' m' cb' sb' hρ he hM hP htm' hJ' hap hfq
    refine ⟨fun _ hg => ?_, fun e => absurd e (show ¬ (0 : Nat) = 99999 by decide)⟩
    obtain ⟨m2, hap1, e1⟩ := hb_ap (hap _ rfl) (hb_vr (hb_at hρ rfl)) (hb_vc _ _ _) (hb_kd (by decide) (by decide)) (hb_vs (w := ((163 * p + 1 + (n + 1) : Nat) : Int)) (hb_at hρ rfl) (by omega))
    obtain ⟨m3, hap2, e2⟩ := hb_ap hap1 (hb_vr (hb_at hρ rfl)) (hb_vz1 (hb_at hρ rfl)) hsi (hb_vs (w := -100 - x) (hb_at hρ rfl) (by omega))
    obtain ⟨m4, hap3, e3⟩ := hb_ap hap2 (hb_vr (hb_at hρ rfl)) (hb_vc _ _ _) (hb_kd (by decide) (by decide)) (hb_vs (w := (w : Int)) (hb_at hρ rfl) (by omega))
    have e4 := hb_ap0 hap3
    subst e4
    have e3 : m3 = se_set m4 q 17 (hb_z (w : Int)) := e3
    have e2 : m2 = se_set m3 qc (163 * p + 1 + n) (hb_z (-100 - x)) := e2
    have e1 : m' = se_set m2 q 16 (hb_z ((163 * p + 1 + (n + 1) : Nat) : Int)) := e1
    obtain ⟨oc, hoc, -⟩ := hb_at61 (i := 163 * p + 1 + n) i1 hqc hp3
    have gw : ∀ i, se_get m' qw i = se_get m4 qw i := fun i => by
      rw [e1, se_get_set_ne (Or.inl hqw'.symm), e2, se_get_set_ne (Or.inl hcw.symm), e3, se_get_set_ne (Or.inl hqw'.symm)]
    have gc : ∀ i, i ≠ 163 * p + 1 + n → se_get m' qc i = se_get m4 qc i := fun i hi => by
      rw [e1, se_get_set_ne (Or.inl hqc'.symm), e2, se_get_set_ne (Or.inr hi), e3, se_get_set_ne (Or.inl hqc'.symm)]
    have gs : se_get m' qc (163 * p + 1 + n) = some (hb_z (-100 - x)) := by
      rw [e1, se_get_set_ne (Or.inl hqc'.symm), e2]
      exact se_get_set (y := hb_z oc) (by rw [e3, se_get_set_ne (Or.inl hqc'.symm)]; exact hoc)
    have gq : ∀ i, i ≠ 16 → i ≠ 17 → se_get m' q i = se_get m4 q i := fun i h1 h2 => by
      rw [e1, se_get_set_ne (Or.inr h1), e2, se_get_set_ne (Or.inl hqc'), e3, se_get_set_ne (Or.inr h2)]
    have g17 : se_get m' q 17 = some (hb_z (w : Int)) := by
      rw [e1, se_get_set_ne (Or.inr (by decide)), e2, se_get_set_ne (Or.inl hqc'), e3]
      exact se_get_set i4
    have g16 : se_get m' q 16 = some (hb_z ((163 * p + 1 + (n + 1) : Nat) : Int)) := by
      rw [e1]
      exact se_get_set (y := hb_z ((163 * p + 1 + n : Nat) : Int)) (by rw [e2, se_get_set_ne (Or.inl hqc'), e3, se_get_set_ne (Or.inr (by decide))]; exact i3)
    have w0 := wt_0 (rw_v m4 qw) w
    have hwt : wt_t (rw_v m4 qw) (w + 1) = wt_t (rw_v m4 qw) w + (if x = 140 ∨ x = 15 then 0 else 1) := by
      show _ + (if rw_v m4 qw w = 140 ∨ rw_v m4 qw w = 15 then 0 else 1) = _
      rw [hc]
    have hI' : re_I ty J q qc qw p 1 (n + 1) w e m' := by
      refine re_E (w' := w) hI htm' hJ' gw gc gs (hb_kd (by omega) (by omega)) g16 g17 (gq 13 (by decide) (by decide)) ⟨fun h => absurd h (by omega), fun h => by rw [hwt]; split <;> omega, fun h1 h2 => ?_⟩ ?_ (by omega) (by omega)
      · rw [hwt, if_neg (by omega)]
        omega
      · rw [hwt]
        unfold rw_w
        by_cases h15 : x = 15
        · rw [if_pos (Or.inr h15), if_neg (by omega), if_pos (by omega)]
          omega
        · rw [if_neg (by omega), if_neg (by omega), if_neg (by omega)]
          omega
    refine ih (n + 1) lc' m' cb' sb' hI' ⟨fun i => (gw i).trans (r1 i), fun i h1 h2 => (gq i h1 h2).trans (r2 i h1 h2), fun i hi => (gc i (by omega)).trans (r3 i hi), by omega, by omega, fun j h1 h2 => ?_, hb_fq_t r7 hfq⟩ (hb_lcof hg ⟨hb_vr (hb_at hρ rfl), hb_vz1 (hb_at hρ rfl), trivial⟩)
    by_cases e : j = w
    · subst e
      rw [← rw_vc (r1 j), hc]
      exact h140
    · exact r6 j (by omega) h2
theorem st_main (hO : se_Ok ty J kx zs) {t : mm_Mt} (ht : mm_mths[298]? = some t) (hd : 13 ≤ d) {q qc qw p w1 n1 e : Nat} (hp : p < 3) {m1 : List mm_C} (hq : ty q = some 89) (hqc : ty qc = some 61) (hqw : ty qw = some 62) (k9 : se_get m1 q 9 = some (.ref qc)) (k10 : se_get m1 q 10 = some (.ref qw)) {r : Int} (hr1 : 1 ≤ r) (hr2 : r ≤ 5) : ∀ (w n : Nat) (lc : List (Nat × Value)) (m : List mm_C) (cb sb : Nat), re_I ty J q qc qw p 1 n w e m → st_R ty q qc qw p w1 n1 m1 n w m → hb_lc [some (.ref q), some (hb_z r)] lc → mm_T kx zs (st_Q ty J q qc qw p w1 n1 e r m1 t) [] d (sx_fi 298) (0, lc, [], m, cb, sb) := by
  intro w
  induction w with
  | zero =>
    intro n lc m cb sb hI hR hlc
    have hri : hb_i r := hb_kd (by omega) (by omega)
    refine se_sho_ok (C := []) (lvl := 1) (ρ := [.ref q, hb_z r]) hO.1 hO.2.1 hO.2.2 (Nat.le_refl 1) (fun c hc => absurd hc List.not_mem_nil) hd ht sS_se0 (hb_env ⟨rfl, hb_kr hq, rfl, hb_kz hri hr1 hr2, trivial⟩) (hb_gl hlc ⟨hb_vr rfl, hb_vz1 rfl, trivial⟩) (hb_mf (q := q) (z := 17) (hb_vr rfl) (hb_vc _ _ _) (by decide) (hb_kd (by decide) (by decide)) (hb_vc _ _ _) hI.2.2.2.1 (hb_mf0 _ _)) (hb_pf0 _) hI.1 hI.2.1 (fun T hT => ?_)
    rcases List.mem_cons.mp hT with rfl | hT
    · intro τ lc' m' cb' sb' hρ he hM hP htm' hJ' hap hfq
      refine ⟨fun e => absurd rfl e, fun _ pc sc v hv hrv => ?_⟩
      cases hb_ap0 (hap _ rfl)
      have hvn := st_void ht hv
      subst hvn
      exact ⟨hv, n, 0, hI, hR, fun _ => Or.inl rfl⟩
    · exact absurd hT List.not_mem_nil
  | succ w ih =>
    intro n lc m cb sb hI hR hlc
    have hS := hI.2.2.2.2.2.2.2.2.2 w (Nat.lt_succ_self w)
    have two : ∀ {c k : Int} {A B : se_Th}, c ≠ 140 → A = st_Tr c k p → B = st_Tg c p → ∀ T ∈ [A, B], T = st_Tr c k p ∨ (c ≠ 140 ∧ T = st_Tg c p) := fun h1 h2 h3 T hT => by
      rcases List.mem_cons.mp hT with rfl | hT
      · exact Or.inl h2
      · rcases List.mem_cons.mp hT with rfl | hT
        · exact Or.inr ⟨h1, h3⟩
        · exact absurd hT List.not_mem_nil
    have one : ∀ {c k : Int} {B : se_Th}, c ≠ 140 → B = st_Tg c p → ∀ T ∈ [B], T = st_Tr c k p ∨ (c ≠ 140 ∧ T = st_Tg c p) := fun h1 h3 T hT => by
      rcases List.mem_cons.mp hT with rfl | hT
      · exact Or.inr ⟨h1, h3⟩
      · exact absurd hT List.not_mem_nil
    have ret : ∀ {c k : Int} {B : se_Th}, B = st_Tr c k p → ∀ T ∈ [B], T = st_Tr c k p ∨ (c ≠ 140 ∧ T = st_Tg c p) := fun h3 T hT => by
      rcases List.mem_cons.mp hT with rfl | hT
      · exact Or.inl h3
      · exact absurd hT List.not_mem_nil
    generalize hc : rw_v m qw w = c at hS
    have hS0 := hS
    simp only [re_S, List.mem_cons, List.not_mem_nil, or_false] at hS
    rcases hS with rfl | rfl | rfl | rfl | rfl | rfl | rfl | rfl
    · exact st_step hO ht hd hp hq hqc hqw k9 k10 (fun h => absurd h (by decide)) (by decide) (by decide) hr1 hr2 (c := 13) (rk := 1) (sS_se13 p hp) (two (by decide) rfl rfl) hI hR hc hS0 hlc ih
    · exact st_step hO ht hd hp hq hqc hqw k9 k10 (fun h => absurd h (by decide)) (by decide) (by decide) hr1 hr2 (c := 14) (rk := 2) (sS_se14 p hp) (two (by decide) rfl rfl) hI hR hc hS0 hlc ih
    · exact st_step hO ht hd hp hq hqc hqw k9 k10 (fun h => absurd h (by decide)) (by decide) (by decide) hr1 hr2 (c := 15) (rk := 3) (sS_se15 p hp) (two (by decide) rfl rfl) hI hR hc hS0 hlc ih
    · exact st_step hO ht hd hp hq hqc hqw k9 k10 (fun h => by rfl) (by decide) (by decide) hr1 hr2 (c := 140) (rk := 0) (sS_se140 p hp) (ret rfl) hI hR hc hS0 hlc ih
    · exact st_step hO ht hd hp hq hqc hqw k9 k10 (fun h => absurd h (by decide)) (by decide) (by decide) hr1 hr2 (c := 143) (rk := 5) (sS_se143 p hp) (one (by decide) rfl) hI hR hc hS0 hlc ih
    · exact st_step hO ht hd hp hq hqc hqw k9 k10 (fun h => absurd h (by decide)) (by decide) (by decide) hr1 hr2 (c := 145) (rk := 5) (sS_se145 p hp) (one (by decide) rfl) hI hR hc hS0 hlc ih
    · exact st_step hO ht hd hp hq hqc hqw k9 k10 (fun h => absurd h (by decide)) (by decide) (by decide) hr1 hr2 (c := 160) (rk := 4) (sS_se160 p hp) (two (by decide) rfl rfl) hI hR hc hS0 hlc ih
    · exact st_step hO ht hd hp hq hqc hqw k9 k10 (fun h => absurd h (by decide)) (by decide) (by decide) hr1 hr2 (c := 161) (rk := 4) (sS_se161 p hp) (two (by decide) rfl rfl) hI hR hc hS0 hlc ih
end HR
