/-! ===== runs from cut to cut: a stretch of a method, with all that it wrote ===== -/
/-- a stretch's end: where (99999: a return; its answer stands as local 0), what holds there, what was written -/
abbrev se_Tg : Type := Nat × se_N × se_M
def se_wq (σ : List se_V) : se_M → se_M → Bool
  | [], [] => true
  | e :: l, f :: w => se_eqs σ f.1 e.1 && (se_eqs σ f.2.1 e.2.1 && (se_eqs σ f.2.2 e.2.2 && se_wq σ l w))
  | _, _ => false
theorem se_wq_ok {ρ τ : List Value} {σ : List se_V} (h : sx_r2 (se_sv ρ) σ τ) {m0 : List mm_C} : ∀ {l w : se_M} {m : List mm_C}, se_wq σ l w = true → se_ap ρ l m0 m → se_ap τ w m0 m
  | [], [], _, _, ha => ha
  | [], _ :: _, _, hq, _ => by cases hq
  | _ :: _, [], _, hq, _ => by cases hq
  | e :: l, f :: w, m, hq, ha => by
    unfold se_wq at hq
    rw [Bool.and_eq_true, Bool.and_eq_true, Bool.and_eq_true] at hq
    obtain ⟨q1, q2, q3, q4⟩ := hq
    obtain ⟨m1, q, j, x, h1, h2, h3, h4, h5, h6⟩ := ha
    obtain ⟨x1, a1, b1⟩ := se_eqs_ok h q1
    obtain ⟨x2, a2, b2⟩ := se_eqs_ok h q2
    obtain ⟨x3, a3, b3⟩ := se_eqs_ok h q3
    rw [h2] at a1
    rw [h3] at a2
    rw [h5] at a3
    cases a1
    cases a2
    cases a3
    exact ⟨m1, q, j, x, se_wq_ok h q4 h1, b1, b2, h4, b3, h6⟩
section SEGA
variable (tt : Nat → se_Ty) (C : List se_C) (Z : se_W) (tw : Nat) (zt : Nat → Option Nat)
def se_sgf (y : Nat) (t : mm_Mt) (g : Nat) (Ts : List se_Tg) (S : se_S) : Bool := match S with
  | (ds, M, (y', _, cs, lv, st), K, P, L) => match K, cs, L with
    | [], (pc, ins, len, _) :: _, some l => Nat.beq y' y && (match mm_isR ins with
      | true => se_rok t ds ins len st && Ts.any (fun T => Nat.beq T.1 99999 && se_some (se_match tt (st.map some) P T.2.1 ds M (fun _ _ σ => if se_gh σ g && se_wq σ l T.2.2 then some [] else none)))
      | false => st.isEmpty && Ts.any (fun T => (Nat.beq T.1 pc && !(Nat.beq T.1 99999)) && se_some (se_match tt lv P T.2.1 ds M (fun _ _ σ => if se_gh σ g && se_wq σ l T.2.2 then some [] else none))))
    | _, _, _ => false
def se_sgo (W : se_W) (y : Nat) (N : se_N) (pc k : Nat) (Ts : List se_Tg) : Bool := match mm_mths[y]?, sx_cods[y]? with
  | some t, some code => Nat.ble N.2.1.length t.2.2.2.1 && (match se_go (N.1.map Prod.fst) N.2.2.1 y code code (se_pad t.2.2.2.1 N.2.1) [] [] N.2.2.2 (some []) pc with
    | some w => w.all (fun S => match se_step tt C W Z tw zt S with
      | some w => (se_it tt C W Z tw zt (Ts.map (fun T => T.1)) k w).all (se_sgf tt y t N.1.length Ts)
      | none => false)
    | none => false)
  | _, _ => false
end SEGA
section SEGB
variable {kx : Nat} {zs : List mm_Zt} {Q : mm_S → Prop} {d : Nat}
variable {ty : Nat → Option Nat} {tt : Nat → se_Ty} {W Z : se_W} {tw : Nat} {J : List mm_C → Prop} {C : List se_C} {zt : Nat → Option Nat} {lvl : Nat}
/-- what a method's return hands back -/
theorem se_rok_ok {t : mm_Mt} {ds : List se_D} {ins : Instr} {len pc cb sb : Nat} {st : List se_V} {sc : List Value} {lc : List (Nat × Value)} {mc : List mm_C} {ρ : List Value} (hd : decode t.2.2.1 pc = .ok (ins, len)) (h : se_rok t ds ins len st = true) (he : se_env ty ρ ds) (hst : sx_r2 (se_sv ρ) st sc) : ∃ v, mm_ret t (pc, lc, sc, mc, cb, sb) = some v ∧ ∀ u, st[0]? = some u → ∃ x, v = some x ∧ se_v ρ u = some x := by
  unfold se_rok at h
  rw [Bool.and_eq_true] at h
  obtain ⟨hl0, h1'⟩ := h
  have hl1 := Nat.eq_of_beq_eq_true hl0
  clear hl0
  subst hl1
  split at h1'
  · next fty v hty =>
    have h1 := h1'
    have hq := sx_r2_cons hst; clear hst; obtain ⟨b1, rc, rfl, g1, hst⟩ := hq
    cases sx_r2_nil hst
    replace h1 : (Nat.beq (se_kd ds v) 0 && se_nar fty (se_rg ds v).1 (se_rg ds v).2) = true := h1
    rw [Bool.and_eq_true] at h1
    obtain ⟨n, rfl, a1, a2⟩ := se_int he g1 (Nat.eq_of_beq_eq_true h1.1)
    refine ⟨some (.int n), ?_, fun u hu => ?_⟩
    · unfold mm_ret
      rw [hd]
      dsimp only
      rw [hty]
      dsimp only
      rw [if_pos (se_nar_ok h1.2 a1 a2).1]
      rfl
    · simp at hu
      subst hu
      exact ⟨_, rfl, g1⟩
  · next nm v hty =>
    have hq := sx_r2_cons hst; clear hst; obtain ⟨b1, rc, rfl, g1, hst⟩ := hq
    cases sx_r2_nil hst
    have h1 := Nat.le_of_ble_eq_true h1'
    obtain ⟨t', et⟩ : ∃ t, se_kd ds v = t + 2 := ⟨se_kd ds v - 2, by omega⟩
    obtain ⟨q, rfl, _⟩ := se_ref he g1 et
    refine ⟨some (.ref q), ?_, fun u hu => ?_⟩
    · unfold mm_ret
      rw [hd]
      dsimp only
      rw [hty]
      rfl
    · simp at hu
      subst hu
      exact ⟨_, rfl, g1⟩
  · next v hty =>
    have hq := sx_r2_cons hst; clear hst; obtain ⟨b1, rc, rfl, g1, hst⟩ := hq
    cases sx_r2_nil hst
    obtain ⟨n, rfl⟩ := se_long he g1 (Nat.eq_of_beq_eq_true h1')
    refine ⟨some (.long n), ?_, fun u hu => ?_⟩
    · unfold mm_ret
      rw [hd]
      dsimp only
      rw [hty]
      rfl
    · simp at hu
      subst hu
      exact ⟨_, rfl, g1⟩
  · next hty =>
    cases sx_r2_nil hst
    refine ⟨none, ?_, fun u hu => by simp at hu⟩
    unfold mm_ret
    rw [hd]
    dsimp only
    rw [hty]
    rfl
  · cases h1'
/-- what is left to show of a stretch's ends -/
def se_Ar (ty : Nat → Option Nat) (tt : Nat → se_Ty) (W : se_W) (J : List mm_C → Prop) (kx : Nat) (zs : List mm_Zt) (Q : mm_S → Prop) (d y : Nat) (t : mm_Mt) (ρ : List Value) (m : List mm_C) (T : se_Tg) : Prop := ∀ (τ : List Value) (lc : List (Nat × Value)) (m' : List mm_C) (cb sb : Nat), ρ <+: τ → se_env ty τ (T.2.1.1.map Prod.fst) → se_mf τ T.2.1.2.2.1 m' → se_pf τ T.2.1.2.2.2 → se_tm ty tt m' → J m' → se_ap τ T.2.2 m m' → se_fq ty W m m' → (T.1 ≠ 99999 → se_gl τ T.2.1.2.1 lc → mm_T kx zs Q [] d (sx_fi y) (T.1, lc, [], m', cb, sb)) ∧ (T.1 = 99999 → ∀ (pc : Nat) (sc : List Value) (v : Option Value), mm_ret t (pc, lc, sc, m', cb, sb) = some v → (∀ rv, T.2.1.2.1[0]? = some (some rv) → ∃ x, v = some x ∧ se_v τ rv = some x) → Q (pc, lc, sc, m', cb, sb))
theorem se_sgf_ok {t : mm_Mt} {y g : Nat} {Ts : List se_Tg} {S : se_S} {ρ0 : List Value} {m0 : List mm_C} (ht : mm_mths[y]? = some t) (h : se_sgf tt y t g Ts S = true) (hg : ρ0.length = g) (hA : ∀ T ∈ Ts, se_Ar ty tt W J kx zs Q d y t ρ0 m0 T) : se_Good ty tt W J m0 kx zs Q ρ0 d S := by
  obtain ⟨ds, M, ⟨y', full, cs, lv, st⟩, K, P, L⟩ := S
  intro ρ hρ pc lc sc mc Kc cb sb he hf hX
  obtain ⟨hfull, hcs, hat, hlen, hgl, hst⟩ := id hf
  dsimp only at he hfull hcs hat hlen hgl hst hX ⊢
  unfold se_sgf at h
  dsimp only at h
  split at h
  · next pc' ins len e4 rest l =>
    have hpc : pc' = pc := hat _ _ rfl
    subst hpc
    rw [Bool.and_eq_true] at h
    obtain ⟨hy, h⟩ := h
    have hy := Nat.eq_of_beq_eq_true hy
    subst hy
    obtain ⟨hM, hK, hKl, hP, hL, htm, hJm, hF⟩ := hX
    have hap := hL l rfl
    cases Kc with
    | cons a b => exact hK.elim
    | nil =>
      obtain ⟨hd, hck⟩ := sx_dec hfull (hcs _ List.mem_cons_self)
      dsimp only at hd
      have hdd : decode t.2.2.1 pc' = .ok (ins, len) := by
        rw [sx_cods_mths ht] at hd
        exact hd
      have key : ∀ {lvs : List (Option se_V)} {T : se_Tg}, (∀ i v, se_ld lvs i = some v → ∃ x, se_v ρ v = some x) → se_some (se_match tt lvs P T.2.1 ds M (fun _ _ σ => if se_gh σ g && se_wq σ l T.2.2 then some [] else none)) = true → ∃ (τ : List Value), ρ0 <+: τ ∧ se_env ty τ (T.2.1.1.map Prod.fst) ∧ se_mf τ T.2.1.2.2.1 mc ∧ se_pf τ T.2.1.2.2.2 ∧ se_ap τ T.2.2 m0 mc ∧ ∀ (i : Nat) (u : se_V), T.2.1.2.1[i]? = some (some u) → ∃ w x, lvs[i]? = some (some w) ∧ se_v ρ w = some x ∧ se_v τ u = some x := by
        intro lvs T hl hm
        obtain ⟨l2, hl2⟩ := se_some_ok hm
        obtain ⟨δ, ds2, M2, σ, τ, g1, g2, g3, g4, g5, g6, g7, g8⟩ := se_match_ok htm hl2 he hP hM hl
        split at g1
        · next gg =>
          rw [Bool.and_eq_true] at gg
          refine ⟨τ, se_gh_ok gg.1 g4 hg (List.IsPrefix.trans hρ (List.prefix_append ρ δ)), g5, g7, g8, se_wq_ok g4 gg.2 (se_ap_app δ hap), fun i u hu => ?_⟩
          obtain ⟨w, x, w1, w2, w3⟩ := g6 i u hu
          obtain ⟨x', hx'⟩ := hl i w (by unfold se_ld; rw [w1])
          rw [se_v_app hx'] at w2
          cases w2
          exact ⟨w, _, w1, hx', w3⟩
        · cases g1
      split at h
      · next hr =>
        rw [Bool.and_eq_true] at h
        obtain ⟨h1, h2⟩ := h
        obtain ⟨T, t1, t2⟩ := List.any_eq_true.mp h2
        rw [Bool.and_eq_true] at t2
        have hT := Nat.eq_of_beq_eq_true t2.1
        obtain ⟨v, v1, v2⟩ := se_rok_ok (lc := lc) (mc := mc) (cb := cb) (sb := sb) hdd h1 he hst
        obtain ⟨τ, k1, k2, k3, k4, k5, k6⟩ := key (T := T) (fun i u hu => by
          unfold se_ld at hu
          split at hu
          · next e =>
            cases hu
            simp only [List.getElem?_map, Option.map_eq_some_iff] at e
            obtain ⟨u', hu', e'⟩ := e
            cases e'
            obtain ⟨x, hx1, hx2⟩ := sx_r2_get hst hu'
            exact ⟨x, hx2⟩
          · cases hu) t2.2
        refine mm_T_fin hd hr ?_
        refine (hA T t1 τ lc mc cb sb k1 k2 k3 k4 htm hJm k5 hF).2 hT pc' sc v v1 (fun rv hrv => ?_)
        obtain ⟨w, x, w1, w2, w3⟩ := k6 0 rv hrv
        simp only [List.getElem?_map, Option.map_eq_some_iff] at w1
        obtain ⟨u', hu', e'⟩ := w1
        cases e'
        obtain ⟨x', rfl, hx'⟩ := v2 _ hu'
        rw [hx'] at w2
        cases w2
        exact ⟨_, rfl, w3⟩
      · next hr =>
        rw [Bool.and_eq_true] at h
        obtain ⟨h1, h2⟩ := h
        have h1 : st = [] := List.isEmpty_iff.mp h1
        subst h1
        cases sx_r2_nil hst
        obtain ⟨T, t1, t2⟩ := List.any_eq_true.mp h2
        rw [Bool.and_eq_true] at t2
        obtain ⟨t21, t22⟩ := t2
        rw [Bool.and_eq_true] at t21
        have hT := Nat.eq_of_beq_eq_true t21.1
        obtain ⟨τ, k1, k2, k3, k4, k5, k6⟩ := key (T := T) (fun i v hv => by
          obtain ⟨x, _, g⟩ := se_ld_ok hgl hv
          exact ⟨x, g⟩) t22
        have hq : T.1 ≠ 99999 := fun e => by
          have := t21.2
          rw [e] at this
          revert this
          decide
        have := (hA T t1 τ lc mc cb sb k1 k2 k3 k4 htm hJm k5 hF).1 hq (fun i v hv => by
          obtain ⟨w, x, w1, w2, w3⟩ := k6 i v hv
          obtain ⟨x', x1, x2⟩ := hgl i w w1
          rw [x2] at w2
          cases w2
          exact ⟨_, x1, w3⟩)
        rw [hT] at this
        exact this
  · cases h
theorem se_sgo_ok (hJ : se_Jz ty Z J) (hkx : ∀ p t, ty p = some t → tw ≤ t → kx ≤ p) (hzt : se_zok ty zs zt) (hl1 : 1 ≤ lvl) (hC : ∀ c ∈ C, se_Met ty tt J kx zs c ∧ c.1.2 < lvl) (hdl : 13 * lvl ≤ d) {y pc k cb sb : Nat} {t : mm_Mt} (ht : mm_mths[y]? = some t) {N : se_N} {Ts : List se_Tg} (h : se_sgo tt C Z tw zt W y N pc k Ts = true) {ρ : List Value} {lc : List (Nat × Value)} {m : List mm_C} (he : se_env ty ρ (N.1.map Prod.fst)) (hgl : se_gl ρ N.2.1 lc) (hM : se_mf ρ N.2.2.1 m) (hP : se_pf ρ N.2.2.2) (htm : se_tm ty tt m) (hJm : J m) (hA : ∀ T ∈ Ts, se_Ar ty tt W J kx zs Q d y t ρ m T) : mm_T kx zs Q [] d (sx_fi y) (pc, lc, [], m, cb, sb) := by
  unfold se_sgo at h
  split at h
  · next t' code et hcode =>
    cases et.symm.trans ht
    rw [Bool.and_eq_true] at h
    obtain ⟨hlen, h⟩ := h
    have hlen := Nat.le_of_ble_eq_true hlen
    split at h
    · next w hw =>
      have hgood : ∀ S ∈ w, se_Good ty tt W J m kx zs Q ρ d S := by
        intro S hS
        have hq := List.all_eq_true.mp h S hS
        split at hq
        · next w1 hw1 =>
          refine se_step_ok hl1 hC hdl hJ hkx hzt hw1 (se_it_ok (stops := Ts.map (fun T => T.1)) hl1 hC hdl hJ hkx hzt k (fun T hT => ?_))
          exact se_sgf_ok ht (List.all_eq_true.mp hq T hT) (by have := he.1; simpa using this) hA
        · cases hq
      exact se_go_ok (K := []) (Kc := []) hw hgood (List.prefix_refl _) he hcode (fun _ q => q) (by rw [sx_cods_mths ht]; exact se_pad_len hlen) (se_pad_gl hgl) trivial ⟨hM, trivial, Nat.zero_le _, hP, (fun l q => by cases q; rfl), htm, hJm, fun _ _ => rfl, fun _ _ _ _ _ => rfl⟩
    · cases h
  · cases h
end SEGB
