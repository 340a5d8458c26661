/-! ===== by hand: the rows of acts, image, restore ===== -/
def rw_v (m : List mm_C) (p i : Nat) : Int := match se_get m p i with
  | some (.int x) => x.toInt
  | _ => 0
theorem rw_vz {m : List mm_C} {p i : Nat} {z : Int} (h : se_get m p i = some (hb_z z)) (hi : hb_i z) : rw_v m p i = z := by
  unfold rw_v
  rw [h]
  exact se_ofInt hi.1 hi.2
theorem rw_vc {m m' : List mm_C} {p p' i i' : Nat} (h : se_get m p i = se_get m' p' i') : rw_v m p i = rw_v m' p' i' := by
  unfold rw_v
  rw [h]
/-- what an act adds to the heap of values -/
def rw_w (v : Int) : Int := if -100 < v then 1 else if v = -115 then 0 else -1
def rw_d (f : Nat → Int) : Nat → Int
  | 0 => 0
  | k + 1 => rw_d f k + rw_w (f k)
/-- the acts of a row find what they take -/
def rw_ok (f : Nat → Int) (n : Nat) : Prop := ∀ k, k < n → (-100 < f k → -9 ≤ f k) ∧ (f k = -115 → 1 ≤ rw_d f k) ∧ (f k ≤ -100 → f k ≠ -115 → 2 ≤ rw_d f k)
theorem rw_dc {f g : Nat → Int} {n : Nat} (h : ∀ k, k < n → f k = g k) : ∀ k, k ≤ n → rw_d f k = rw_d g k
  | 0, _ => rfl
  | k + 1, hk => by
    show rw_d f k + rw_w (f k) = rw_d g k + rw_w (g k)
    rw [rw_dc h k (by omega), h k (by omega)]
theorem rw_okc {f g : Nat → Int} {n : Nat} (h : ∀ k, k < n → f k = g k) (ho : rw_ok f n) : rw_ok g n := fun k hk => by
  have := ho k hk
  rw [rw_dc h k (by omega), h k hk] at this
  exact this
theorem rw_db {f : Nat → Int} {n : Nat} (h : rw_ok f n) : ∀ k, k ≤ n → 0 ≤ rw_d f k ∧ rw_d f k ≤ k
  | 0, _ => ⟨Int.le_refl 0, Int.le_refl 0⟩
  | k + 1, hk => by
    obtain ⟨h1, h2⟩ := rw_db h k (by omega)
    obtain ⟨g1, g2, g3⟩ := h k (by omega)
    show 0 ≤ rw_d f k + rw_w (f k) ∧ rw_d f k + rw_w (f k) ≤ ((k + 1 : Nat) : Int)
    unfold rw_w
    split
    · omega
    · split
      · omega
      · have := g3 (by omega) (by omega)
        omega
def rw_row (m : List mm_C) (p b : Nat) : Prop := rw_ok (fun j => rw_v m p (b + 1 + j)) (min (rw_v m p b).toNat 162)
theorem rw_rowc {m m' : List mm_C} {p p' b b' : Nat} (h : ∀ j, j ≤ 162 → rw_v m p (b + j) = rw_v m' p' (b' + j)) (hr : rw_row m p b) : rw_row m' p' b' := by
  unfold rw_row at hr ⊢
  have h0 := h 0 (by omega)
  rw [Nat.add_zero, Nat.add_zero] at h0
  rw [← h0]
  refine rw_okc (fun k hk => ?_) hr
  have hk2 : k < 162 := Nat.lt_of_lt_of_le hk (Nat.min_le_right _ _)
  have := h (1 + k) (by omega)
  show rw_v m p (b + 1 + k) = rw_v m' p' (b' + 1 + k)
  rw [Nat.add_assoc, Nat.add_assoc]
  exact this
/-- the texts in the state and in its image are right rows of acts -/
def rw_J (ty : Nat → Option Nat) (m : List mm_C) : Prop := ∀ p, (ty p = some 56 ∨ ty p = some 103) → ∀ t k, t < 5 → k < 3 → rw_row m p (528 + 489 * t + 163 * k)
theorem rw_Jz (ty : Nat → Option Nat) : se_Jz ty se_Z (rw_J ty) := by
  intro m m' h hJ p hp t k ht hk
  refine rw_rowc (fun j hj => ?_) (hJ p hp t k ht hk)
  rcases hp with hp | hp
  · exact (rw_vc (h p 56 _ hp ⟨(56, 528, 2973), List.mem_cons_self, rfl, by show 528 ≤ _; omega, by show _ < 2973; omega⟩)).symm
  · exact (rw_vc (h p 103 _ hp ⟨(103, 528, 2973), List.mem_cons_of_mem _ List.mem_cons_self, rfl, by show 528 ≤ _; omega, by show _ < 2973; omega⟩)).symm
theorem hb_nk {a : Nat} (h : a = 56 ∨ a = 103) : (se_tt a).2.2.1 = 2973 ∧ (se_tt a).2.2.2 = (se_tt 56).2.2.2 := by
  rcases h with rfl | rfl
  · exact ⟨rfl, rfl⟩
  · exact ⟨rfl, by decide +kernel⟩
theorem hb_geq {m m' : List mm_C} {q i : Nat} (h : m[q]? = m'[q]?) : se_get m q i = se_get m' q i := by unfold se_get; rw [h]
theorem hb_vs {ρ : List Value} {k : Nat} {z a c w : Int} (h : ρ[k]? = some (hb_z z)) (e : a * z + c = w) : se_v ρ (a, k, c) = some (hb_z w) := by rw [hb_vz h, e]
theorem hb_l1 {ρ : List Value} {w : Value} (h : ρ.length = 1) (h0 : ρ[0]? = some w) : ρ = [w] := by
  match ρ, h, h0 with
  | [a], _, h0 => simp at h0; rw [h0]
theorem hb_l2 {ρ : List Value} {w x : Value} (h : ρ.length = 2) (h0 : ρ[0]? = some w) (h1 : ρ[1]? = some x) : ρ = [w, x] := by
  match ρ, h, h0, h1 with
  | [a, b], _, h0, h1 => simp at h0 h1; rw [h0, h1]
theorem hb_l3 {ρ : List Value} {w x y : Value} (h : ρ.length = 3) (h0 : ρ[0]? = some w) (h1 : ρ[1]? = some x) (h2 : ρ[2]? = some y) : ρ = [w, x, y] := by
  match ρ, h, h0, h1, h2 with
  | [a, b, c], _, h0, h1, h2 => simp at h0 h1 h2; rw [h0, h1, h2]
theorem hb_ne {ty : Nat → Option Nat} {p q t u : Nat} (hp : ty p = some t) (hq : ty q = some u) (h : t ≠ u) : p ≠ q := fun e => by
  subst e
  rw [hp] at hq
  exact h (Option.some.inj hq)
/-- a row of the state while it is being copied -/
def hb_cp (ty : Nat → Option Nat) (m0 m : List mm_C) (qs qd k : Nat) : Prop := se_tm ty se_tt m ∧ (∀ p, p ≠ qd → m[p]? = m0[p]?) ∧ (∀ j, j < k → se_get m qd j = se_get m0 qs j) ∧ ∀ j, se_get m qs j = se_get m0 qs j
theorem hb_cp_step {ty : Nat → Option Nat} {m0 m : List mm_C} {qs qd k a b : Nat} {x : Value} (h : hb_cp ty m0 m qs qd k) (ha : a = 56 ∨ a = 103) (hb : b = 56 ∨ b = 103) (hs : ty qs = some a) (hd : ty qd = some b) (hk : k < 2973) (hx : se_get m qs k = some x) : hb_cp ty m0 (se_set m qd k x) qs qd (k + 1) := by
  obtain ⟨h1, h2, h3, h4⟩ := h
  have hx0 := hx
  rw [h4 k] at hx0
  obtain ⟨y, hy1, hy2⟩ := se_tc_get (i := k) (h1 qs a hs) (by rw [(hb_nk ha).1]; exact hk)
  rw [hx] at hy1
  cases hy1
  obtain ⟨y', hy', -⟩ := se_tc_get (i := k) (h1 qd b hd) (by rw [(hb_nk hb).1]; exact hk)
  rw [(hb_nk ha).2, ← (hb_nk hb).2] at hy2
  have gs : ∀ j, se_get (se_set m qd k x) qd j = if j = k then some x else se_get m qd j := fun j => by
    by_cases e : j = k
    · subst e
      rw [if_pos rfl]
      exact se_get_set hy'
    · rw [if_neg e]
      exact se_get_set_ne (Or.inr e)
  refine ⟨se_tm_set h1 hd hy2, fun p hp => by rw [se_set_at hp]; exact h2 p hp, fun j hj => ?_, fun j => ?_⟩
  · rw [gs j]
    split
    · next e => rw [e]; exact hx0.symm
    · exact h3 j (by omega)
  · by_cases e : qs = qd
    · subst e
      rw [gs j]
      split
      · next e2 => rw [e2]; exact hx0.symm
      · exact h4 j
    · rw [se_get_set_ne (Or.inl e)]
      exact h4 j
/-- the whole row copied -/
theorem hb_cp_J {ty : Nat → Option Nat} {m0 m : List mm_C} {qs qd : Nat} (h : hb_cp ty m0 m qs qd 2973) (hs : ty qs = some 56 ∨ ty qs = some 103) (hJ : rw_J ty m0) : rw_J ty m := by
  obtain ⟨h1, h2, h3, h4⟩ := h
  intro p hp t k ht hk
  by_cases e : p = qd
  · subst e
    exact rw_rowc (fun j hj => rw_vc (h3 _ (by omega)).symm) (hJ qs hs t k ht hk)
  · exact rw_rowc (fun j hj => rw_vc (hb_geq (h2 p e)).symm) (hJ p hp t k ht hk)
theorem hb_cp_fq {ty : Nat → Option Nat} {m0 m : List mm_C} {qs qd k b : Nat} {W : se_W} (htm : se_tm ty se_tt m0) (h : hb_cp ty m0 m qs qd k) (hb : b = 56 ∨ b = 103) (hd : ty qd = some b) (hW1 : (b, 0, 528) ∈ W) (hW2 : (b, 528, 2973) ∈ W) : se_fq ty W m0 m := by
  obtain ⟨h1, h2, h3, h4⟩ := h
  refine ⟨fun p hp => h2 p (fun e => by rw [e, hd] at hp; cases hp), fun p t i hp hu => ?_⟩
  by_cases e : p = qd
  · subst e
    rw [hd] at hp
    cases hp
    rcases hu _ hW2 rfl with q | q
    · rcases hu _ hW1 rfl with r | r
      · exact absurd r (Nat.not_lt_zero i)
      · have q : i < 528 := q
        have r : 528 ≤ i := r
        omega
    · have q : 2973 ≤ i := q
      rw [hb_none h1 hd (by rw [(hb_nk hb).1]; exact q), hb_none htm hd (by rw [(hb_nk hb).1]; exact q)]
  · exact hb_geq (h2 p e)
/-- one slot of a place of a type is another now -/
theorem hb_set_fq {ty : Nat → Option Nat} {m : List mm_C} {q i t : Nat} {x : Value} {W : se_W} (hq : ty q = some t) (hW : ∃ u ∈ W, u.1 = t ∧ u.2.1 ≤ i ∧ i < u.2.2) : se_fq ty W m (se_set m q i x) := by
  refine ⟨fun p hp => se_set_at (fun e => by rw [e, hq] at hp; cases hp), fun p t' j hp hu => ?_⟩
  by_cases e : p = q
  · subst e
    rw [hq] at hp
    cases hp
    obtain ⟨u, u1, u2, u3, u4⟩ := hW
    refine se_get_set_ne (Or.inr (fun e => ?_))
    subst e
    rcases hu u u1 u2 with r | r <;> omega
  · exact se_get_set_ne (Or.inl e)
theorem hb_fq_t {ty : Nat → Option Nat} {W : se_W} {a b c : List mm_C} (h1 : se_fq ty W a b) (h2 : se_fq ty W b c) : se_fq ty W a c := ⟨fun p hp => (h2.1 p hp).trans (h1.1 p hp), fun p t i hp hu => (h2.2 p t i hp hu).trans (h1.2 p t i hp hu)⟩
theorem hb_set_J {ty : Nat → Option Nat} {m : List mm_C} {q i t : Nat} {x : Value} (hq : ty q = some t) (ht : t ≠ 56 ∧ t ≠ 103) (hJ : rw_J ty m) : rw_J ty (se_set m q i x) := by
  intro p hp u k hu hk
  have e : p ≠ q := hp.elim (fun hp => hb_ne hp hq (fun e => ht.1 e.symm)) (fun hp => hb_ne hp hq (fun e => ht.2 e.symm))
  exact rw_rowc (fun j hj => rw_vc (se_get_set_ne (Or.inl e)).symm) (hJ p hp u k hu hk)
theorem hb_k (c : Nat) (h : c ≤ 100000) : hb_i (c : Int) := ⟨by unfold se_lo; omega, by unfold se_hi; omega⟩
theorem hb_kd {z : Int} (h1 : -100000 ≤ z) (h2 : z ≤ 100000) : hb_i z := ⟨by unfold se_lo; omega, by unfold se_hi; omega⟩
section HBI
variable {ty : Nat → Option Nat} {kx : Nat} {zs : List mm_Zt} {J : List mm_C → Prop} {Q : mm_S → Prop} {d : Nat}
theorem hb_now {m : List mm_C} {q : Nat} (htm : se_tm ty se_tt m) (hq : ty q = some 89) : ∃ p, se_get m q 0 = some (.ref p) ∧ ty p = some 56 := hb_ref (l := 0) (h := 0) htm hq (by decide +kernel) (by decide +kernel)
theorem hb_kept {m : List mm_C} {q : Nat} (htm : se_tm ty se_tt m) (hq : ty q = some 89) : ∃ p, se_get m q 1 = some (.ref p) ∧ ty p = some 103 := hb_ref (l := 0) (h := 0) htm hq (by decide +kernel) (by decide +kernel)
theorem hb_at56 {m : List mm_C} {p i : Nat} (htm : se_tm ty se_tt m) (hp : ty p = some 56) (hi : i < 2973) : ∃ z, se_get m p i = some (hb_z z) ∧ hb_i z := by
  obtain ⟨x, h1, h2⟩ := se_tc_get (i := i) (htm p 56 hp) (show i < 2973 from hi)
  unfold se_k at h2
  rw [se_seg_any (by decide +kernel) i] at h2
  obtain ⟨n, rfl, -⟩ := h2
  exact ⟨n.toInt, by rw [h1, hb_zx], se_i32 n⟩
theorem hb_at103 {m : List mm_C} {p i : Nat} (htm : se_tm ty se_tt m) (hp : ty p = some 103) (hi : i < 2973) : ∃ z, se_get m p i = some (hb_z z) ∧ hb_i z := by
  obtain ⟨x, h1, h2⟩ := se_tc_get (i := i) (htm p 103 hp) (show i < 2973 from hi)
  unfold se_k at h2
  rw [se_seg_any (by decide +kernel) i] at h2
  obtain ⟨n, rfl, -⟩ := h2
  exact ⟨n.toInt, by rw [h1, hb_zx], se_i32 n⟩
theorem im_loop (hO : se_Ok ty J kx zs) {t : mm_Mt} (ht : mm_mths[327]? = some t) (hd : 13 ≤ d) {m0 : List mm_C} {q qn qk : Nat} (hq : ty q = some 89) (hn : ty qn = some 56) (hk : ty qk = some 103) (g0 : se_get m0 q 0 = some (.ref qn)) (g1 : se_get m0 q 1 = some (.ref qk)) (hend : ∀ (lc : List (Nat × Value)) (m : List mm_C) (cb sb : Nat), hb_cp ty m0 m qn qk 2973 → hb_lc [some (.ref q), some (hb_z 2973)] lc → mm_T kx zs Q [] d (sx_fi 327) (2, lc, [], m, cb, sb)) : ∀ (n k : Nat) (lc : List (Nat × Value)) (m : List mm_C) (cb sb : Nat), n + k = 2973 → hb_cp ty m0 m qn qk k → hb_lc [some (.ref q), some (hb_z (k : Int))] lc → mm_T kx zs Q [] d (sx_fi 327) (2, lc, [], m, cb, sb) := by
  intro n
  induction n with
  | zero =>
    intro k lc m cb sb hnk hcp hlc
    have : k = 2973 := by omega
    subst this
    exact hend lc m cb sb hcp hlc
  | succ n ih =>
    intro k lc m cb sb hnk hcp hlc
    have hqk : q ≠ qk := hb_ne hq hk (by decide)
    obtain ⟨x, hx, hxi⟩ := hb_at56 (i := k) hcp.1 hn (by omega)
    have hki := hb_k k (by omega)
    have z0 : (0 : Int).toNat = 0 := rfl
    refine se_sho_ok (J := fun _ => True) (Z := []) (C := []) (lvl := 1) (tt := se_tf) (ρ := [.ref q, .ref qn, .ref qk, hb_z (k : Int), hb_z x]) (fun _ _ _ _ => trivial) hO.2.1 hO.2.2 (Nat.le_refl 1) (fun c hc => absurd hc List.not_mem_nil) hd ht sS_imb (hb_env ⟨rfl, hb_kr hq, rfl, hb_kr hn, rfl, hb_kr hk, rfl, hb_kz hki (by omega) (by omega), rfl, hb_kz hxi hxi.1 hxi.2, trivial⟩) (hb_gl hlc ⟨hb_vr rfl, hb_vz1 rfl, trivial⟩) (hb_mf (q := q) (z := 0) (hb_vr rfl) (hb_vc _ _ _) (by decide) (hb_kd (by decide) (by decide)) (hb_vr rfl) ((hb_geq (hcp.2.1 q hqk)).trans g0) (hb_mf (q := q) (z := 1) (hb_vr rfl) (hb_vc _ _ _) (by decide) (hb_kd (by decide) (by decide)) (hb_vr rfl) ((hb_geq (hcp.2.1 q hqk)).trans g1) (hb_mf (q := qn) (z := (k : Int)) (hb_vr rfl) (hb_vz1 rfl) (by omega) hki (hb_vz1 rfl) hx (hb_mf0 _ _)))) (hb_pf0 _) (hb_tf hcp.1) trivial (fun T hT => ?_)
    rcases List.mem_cons.mp hT with rfl | hT
    · intro τ lc' m' cb' sb' hρ he hM hP htm' _ hap hfq
      refine ⟨fun _ hg => ?_, fun e => absurd e (by decide)⟩
      obtain ⟨m1, hap1, rfl⟩ := hb_ap (hap _ rfl) (hb_vr (hb_at hρ rfl)) (hb_vz1 (hb_at hρ rfl)) hki (hb_vz1 (hb_at hρ rfl))
      cases hb_ap0 hap1
      exact ih (k + 1) lc' _ cb' sb' (by omega) (hb_cp_step hcp (Or.inl rfl) (Or.inr rfl) hn hk (by omega) hx) (hb_lcof hg ⟨hb_vr (hb_at hρ rfl), hb_vs (hb_at hρ rfl) (by omega), trivial⟩)
    · exact absurd hT List.not_mem_nil
theorem hb_f2 : se_seg (se_tt 89).2.2.2 2 = (0, 0, 1) := by decide +kernel
theorem hb_fin {c : se_C} {t : mm_Mt} {ρ0 : List Value} {m0 m : List mm_C} {pc cb sb : Nat} {lc : List (Nat × Value)} {sc : List Value} {v : Option Value} {z : Int} (hv : mm_ret t (pc, lc, sc, m, cb, sb) = some v) (hx : v = some (hb_z z)) (hz : hb_i z) (he : se_env ty ρ0 (c.2.1.1.map Prod.fst)) (hc : ([(((0, se_lo, se_hi), 0, (0, 0, 0), (0, 0, 0)), (0, (0, 0, 0), (0, 0, 0)))], some (1, ρ0.length, 0), [], []) ∈ c.2.2.1) (htm : se_tm ty se_tt m) (hJ : J m) (hfq : se_fq ty c.2.2.2 m0 m) : se_Q ty se_tt J c t ρ0 m0 (pc, lc, sc, m, cb, sb) := by
  refine ⟨v, hv, _, hc, [hb_z z], ?_, hb_mf0 _ _, hb_pf0 _, (fun q => by cases q), fun rv q => ?_, htm, hJ, hfq⟩
  · exact se_env_new he (se_dok0 (hb_kz hz hz.1 hz.2))
  · cases q
    exact ⟨_, hx, hb_vz1 (by simp)⟩
theorem sm_h5 (hO : se_Ok ty (rw_J ty) kx zs) : se_Met ty se_tt (rw_J ty) kx zs sc_h5 := by
  intro d t ρ As m0 hd ht he hgl hM hP htm hJm
  have hd : 13 ≤ d := hd
  have ht : mm_mths[327]? = some t := ht
  obtain ⟨w, w1, w2⟩ := he.2 0 _ rfl
  obtain ⟨q, rfl, hq⟩ := w2.1
  have hρ := hb_l1 (show ρ.length = 1 from he.1) w1
  subst hρ
  obtain ⟨x0, x1, x2⟩ := hgl 0 (1, 0, 0) rfl
  rw [hb_vr rfl] at x2
  cases x2
  have hlc : hb_lc [some (.ref q)] (lv_args 0 As) := fun i x hx => by
    match i, hx with
    | 0, hx => cases hx; exact x1
    | i + 1, hx => simp at hx
  obtain ⟨qn, g0, hn⟩ := hb_now htm hq
  obtain ⟨qk, g1, hk⟩ := hb_kept htm hq
  have hfi : sx_fi 327 = mm_fi t := sx_cods_mths ht
  have hT : mm_T kx zs (se_Q ty se_tt (rw_J ty) sc_h5 t [.ref q] m0) [] d (sx_fi 327) (mm_ent 327 As m0) := by
    refine se_sho_ok (J := fun _ => True) (Z := []) (C := []) (lvl := 1) (tt := se_tf) (ρ := [.ref q]) (fun _ _ _ _ => trivial) hO.2.1 hO.2.2 (Nat.le_refl 1) (fun c hc => absurd hc List.not_mem_nil) hd ht sS_ima (hb_env ⟨rfl, hb_kr hq, trivial⟩) (hb_gl hlc ⟨hb_vr rfl, trivial⟩) (hb_mf0 _ _) (hb_pf0 _) (hb_tf htm) trivial (fun T hT => ?_)
    rcases List.mem_cons.mp hT with rfl | hT
    · intro τ lc m cb sb hρ he2 hM2 hP2 htm2 _ hap hfq
      refine ⟨fun _ hg => ?_, fun e => absurd e (by decide)⟩
      cases hb_ap0 (hap _ rfl)
      refine im_loop hO ht hd hq hn hk g0 g1 (fun lc m cb sb hcp hlc => ?_) 2973 0 lc m0 cb sb rfl ⟨htm, fun _ _ => rfl, fun j hj => absurd hj (Nat.not_lt_zero j), fun _ => rfl⟩ (hb_lcof hg ⟨hb_vr (hb_at hρ rfl), hb_vc _ _ _, trivial⟩)
      refine se_sho_ok (J := fun _ => True) (Z := []) (C := []) (lvl := 1) (tt := se_tf) (ρ := [.ref q]) (fun _ _ _ _ => trivial) hO.2.1 hO.2.2 (Nat.le_refl 1) (fun c hc => absurd hc List.not_mem_nil) hd ht sS_imc (hb_env ⟨rfl, hb_kr hq, trivial⟩) (hb_gl hlc ⟨hb_vr rfl, hb_vc _ _ _, trivial⟩) (hb_mf0 _ _) (hb_pf0 _) (hb_tf hcp.1) trivial (fun T hT => ?_)
      rcases List.mem_cons.mp hT with rfl | hT
      · intro τ lc' m' cb' sb' hρ he2 hM2 hP2 htm2 _ hap hfq
        refine ⟨fun e => absurd rfl e, fun _ pc sc v hv hrv => ?_⟩
        obtain ⟨m1, hap1, rfl⟩ := hb_ap (hap _ rfl) (hb_vr (hb_at hρ rfl)) (hb_vc _ _ _) (hb_kd (by decide) (by decide)) (hb_vc _ _ _)
        cases hb_ap0 hap1
        obtain ⟨z, hz, hzi, -, -⟩ := hb_new he2 (k := 1) rfl
        obtain ⟨x, hvx, hx⟩ := hrv _ rfl
        rw [hb_vz1 hz] at hx
        cases hx
        refine hb_fin hv hvx hzi he List.mem_cons_self (se_tm_set hcp.1 hq ?_) (hb_set_J hq (by decide) (hb_cp_J hcp (Or.inl hn) hJm)) (hb_fq_t (hb_cp_fq htm hcp (Or.inr rfl) hk (List.mem_cons_of_mem _ List.mem_cons_self) (List.mem_cons_of_mem _ (List.mem_cons_of_mem _ List.mem_cons_self))) (hb_set_fq hq ⟨(89, 2, 3), List.mem_cons_self, rfl, by decide, by decide⟩))
        show se_k ty (se_seg (se_tt 89).2.2.2 2) (hb_z 1)
        rw [hb_f2]
        exact hb_kz (hb_kd (by decide) (by decide)) (by decide) (by decide)
      · exact absurd hT List.not_mem_nil
    · exact absurd hT List.not_mem_nil
  obtain ⟨n, τ, r1, v, r2, r3⟩ := hT
  rw [hfi] at r1
  exact ⟨n, τ, v, r1, r2, r3⟩
end HBI
