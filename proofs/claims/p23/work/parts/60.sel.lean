/-! ===== runs from cut to cut: contracts, calls ===== -/
section SEM
variable (ty : Nat → Option Nat) (tt : Nat → se_Ty) (J : List mm_C → Prop)
/-- how a contract's method comes back -/
def se_post (c : se_C) (ρ : List Value) (m0 : List mm_C) (v : Option Value) (m : List mm_C) : Prop := ∃ e ∈ c.2.2.1, ∃ δ : List Value, se_env ty (ρ ++ δ) (c.2.1.1.map Prod.fst ++ e.1.map Prod.fst) ∧ se_mf (ρ ++ δ) e.2.2.1 m ∧ se_pf (ρ ++ δ) e.2.2.2 ∧ (e.2.1 = none → v = none) ∧ (∀ rv, e.2.1 = some rv → ∃ x, v = some x ∧ se_v (ρ ++ δ) rv = some x) ∧ se_tm ty tt m ∧ J m ∧ se_fq ty c.2.2.2 m0 m
def se_Met (kx : Nat) (zs : List mm_Zt) (c : se_C) : Prop := ∀ (d : Nat) (t : mm_Mt) (ρ As : List Value) (m0 : List mm_C), 13 * c.1.2 ≤ d → mm_mths[c.1.1]? = some t → se_env ty ρ (c.2.1.1.map Prod.fst) → se_gl ρ c.2.1.2.1 (lv_args 0 As) → se_mf ρ c.2.1.2.2.1 m0 → se_pf ρ c.2.1.2.2.2 → se_tm ty tt m0 → J m0 → ∃ (n : Nat) (τ : mm_S) (v : Option Value), mm_run kx zs n d (mm_fi t) (mm_ent c.1.1 As m0) = some τ ∧ mm_ret t τ = some v ∧ se_post ty tt J c ρ m0 v τ.2.2.2.1
end SEM
section SEN
variable {kx : Nat} {zs : List mm_Zt} {Q : mm_S → Prop} {ρ0 : List Value} {d : Nat}
variable {ty : Nat → Option Nat} {tt : Nat → se_Ty} {W Z : se_W} {tw : Nat} {J : List mm_C → Prop} {m0 : List mm_C} {ρ : List Value} {ds : List se_D} {y : Nat} {full tl : List sx_I} {lv : List (Option se_V)} {st : List se_V} {pc : Nat} {lc : List (Nat × Value)} {sc : List Value} {cb sb : Nat} {M : se_M} {K : List se_F} {Kc : List mm_Fr} {P : se_P} {L : Option se_M} {mc : List mm_C} {l : List se_S}
theorem se_callC_ok (htm : se_tm ty tt mc) {y' : Nat} {lvs : List (Option se_V)} {kk : se_W → List se_D → se_M → se_P → Option se_V → se_R} (he : se_env ty ρ ds) (hp : se_pf ρ P) (hM : se_mf ρ M mc) (hl : ∀ i v, se_ld lvs i = some v → ∃ x, se_v ρ v = some x) : ∀ {C : List se_C}, se_callC tt W ds M P y' lvs kk C = some l → ∃ c ∈ C, c.1.1 = y' ∧ se_Win W c.2.2.2 = true ∧ ∃ δ ds' M' σ τ, se_exs ds' (M'.filter (se_left ds' c.2.2.2)) P σ (kk c.2.2.2) c.2.2.1 = some l ∧ se_env ty (ρ ++ δ) ds' ∧ se_mf (ρ ++ δ) M' mc ∧ sx_r2 (se_sv (ρ ++ δ)) σ τ ∧ se_env ty τ (c.2.1.1.map Prod.fst) ∧ (∀ (i : Nat) (v : se_V), c.2.1.2.1[i]? = some (some v) → ∃ w x, lvs[i]? = some (some w) ∧ se_v (ρ ++ δ) w = some x ∧ se_v τ v = some x) ∧ se_mf τ c.2.1.2.2.1 mc ∧ se_pf τ c.2.1.2.2.2
  | [], h => by cases h
  | c :: t, h => by
    unfold se_callC at h
    split at h
    · next e =>
      split at h
      · next r hr =>
        cases h
        obtain ⟨δ, ds', M', σ, τ, g1, g2⟩ := se_match_ok htm hr he hp hM hl
        split at g1
        · next e2 =>
          rw [se_flt_eq] at g1
          exact ⟨c, List.mem_cons_self, Nat.eq_of_beq_eq_true e, e2, δ, ds', M', σ, τ, g1, g2⟩
        · cases g1
      · obtain ⟨c', h1, h2⟩ := se_callC_ok htm he hp hM hl h
        exact ⟨c', List.mem_cons_of_mem _ h1, h2⟩
    · obtain ⟨c', h1, h2⟩ := se_callC_ok htm he hp hM hl h
      exact ⟨c', List.mem_cons_of_mem _ h1, h2⟩
theorem se_left_ok {W' : se_W} {m' : List mm_C} (he : se_env ty ρ ds) (hM : se_mf ρ M mc) (hF : se_fq ty W' mc m') : se_mf ρ (M.filter (se_left ds W')) m' := by
  intro e h
  obtain ⟨h1, h2⟩ := List.mem_filter.mp h
  obtain ⟨q, j, x, g1, g2, g3, g4, g5⟩ := hM e h1
  refine ⟨q, j, x, g1, g2, g3, g4, ?_⟩
  obtain ⟨t, k1, k2⟩ := se_isRef he g1
  rw [hF.2 q t j.toInt.toNat k2 (fun u hu et => ?_)]
  · exact g5
  · have h3 := List.all_eq_true.mp h2 u hu
    replace h3 : (!(Nat.beq (se_kd ds e.1) (u.1 + 2)) || (decide ((se_rg ds e.2.1).2 < (u.2.1 : Int)) || se_le u.2.2 (se_rg ds e.2.1).1)) = true := h3
    rw [Bool.or_eq_true, Bool.or_eq_true, se_le_iff] at h3
    obtain ⟨n', en, a1, a2⟩ := se_int he g2 (se_isInt he g2)
    cases en
    rcases h3 with h3 | h3 | h3
    · rw [k1, et] at h3
      simp at h3
    · have := of_decide_eq_true h3
      omega
    · omega
theorem se_fq_trans {W' : se_W} {m' : List mm_C} (hW : se_Win W W' = true) (h1 : se_fq ty W m0 mc) (h2 : se_fq ty W' mc m') : se_fq ty W m0 m' := by
  refine ⟨fun p hp => (h2.1 p hp).trans (h1.1 p hp), fun p t i hp hu => ?_⟩
  rw [h2.2 p t i hp (fun u hu' et => ?_), h1.2 p t i hp hu]
  have h3 := List.all_eq_true.mp hW u hu'
  obtain ⟨w, w1, w2⟩ := List.any_eq_true.mp h3
  rw [Bool.and_eq_true, Bool.and_eq_true] at w2
  have e1 := Nat.eq_of_beq_eq_true w2.1
  have e2 := Nat.le_of_ble_eq_true w2.2.1
  have e3 := Nat.le_of_ble_eq_true w2.2.2
  rcases hu w w1 (by omega) with q | q
  · exact Or.inl (by omega)
  · exact Or.inr (by omega)
theorem se_fq_nil {m' : List mm_C} (h1 : se_tm ty tt mc) (h2 : se_tm ty tt m') (h : se_fq ty [] mc m') : m' = mc := by
  apply List.ext_getElem?
  intro p
  cases hp : ty p with
  | none => exact h.1 p hp
  | some t =>
    have a := h1 p t hp
    have b := h2 p t hp
    have g := fun i => h.2 p t i hp (fun u hu => absurd hu List.not_mem_nil)
    unfold se_tc at a b
    unfold se_get at g
    split at a
    · next ci eci =>
      rw [eci] at b
      obtain ⟨fs, e, _⟩ := a
      obtain ⟨fs', e', _⟩ := b
      have : fs' = fs := by
        apply List.ext_getElem?
        intro i
        have := g i
        rw [e, e'] at this
        exact this
      rw [e, e', this]
    · next eci =>
      rw [eci] at b
      obtain ⟨fs, e, _⟩ := a
      obtain ⟨fs', e', _⟩ := b
      have : fs' = fs := by
        apply List.ext_getElem?
        intro i
        have := g i
        rw [e, e'] at this
        exact this
      rw [e, e', this]
theorem se_mok_ok {t : mm_Mt} {n : Nat} (h : se_mok t y n = true) : n ≤ t.2.2.2.1 ∧ (mm_bud y).1 = 0 ∧ (mm_bud y).2 = 0 := by
  unfold se_mok at h
  rw [Bool.and_eq_true, Bool.and_eq_true] at h
  exact ⟨Nat.le_of_ble_eq_true h.1, Nat.eq_of_beq_eq_true h.2.1, Nat.eq_of_beq_eq_true h.2.2⟩
theorem se_call_ok {C : List se_C} {lvl : Nat} (hl1 : 1 ≤ lvl) {cs0 : List sx_I} {y' : Nat} {t : mm_Mt} {ins : Instr} {As rest : List se_V} {Ac restc : List Value} (hC : ∀ c ∈ C, se_Met ty tt J kx zs c ∧ c.1.2 < lvl) (hdl : 13 * lvl ≤ d) (h : se_call tt C W ds M (y, full, cs0, lv, st) tl K P L y' pc t As rest = some l) (hG : ∀ S ∈ l, se_Good ty tt W J m0 kx zs Q ρ0 d S) (hρ : ρ0 <+: ρ) (he : se_env ty ρ ds) (hfull : sx_cods[y]? = some full) (htl : ∀ e ∈ tl, e ∈ full) (hlen : lv.length = (sx_fi y).2.2.1) (hgl : se_gl ρ lv lc) (hX : se_X ty tt W J m0 ρ y M K Kc P L mc) (hd : decode (sx_fi y).2.1 pc = .ok (ins, 3)) (hisR : mm_isR ins = false) (hstp : mm_stp (sx_fi y).1 (sx_fi y).2.2.1 kx (sx_fi y).2.2.2 zs ins 3 (pc, lc, sc, mc, cb, sb) = none) (ht : mm_mths[y']? = some t) (hAs : sx_r2 (se_sv ρ) As Ac) (hrest : sx_r2 (se_sv ρ) rest restc) (hcal : (restc.map fun v => v.category).sum ≤ 8 → mm_cal (sx_fi y).1 ins 3 sc mc = some (y', Ac, restc)) : mm_T kx zs Q Kc (d - K.length) (sx_fi y) (pc, lc, sc, mc, cb, sb) := by
  unfold se_call at h
  split at h
  · next e1 =>
    rw [Bool.and_eq_true] at e1
    have hc8 := Nat.le_of_ble_eq_true e1.1
    rw [← se_cats_ok he hrest] at hc8
    obtain ⟨m1, m2, m3⟩ := se_mok_ok e1.2
    have hcal := hcal hc8
    obtain ⟨hM, hK, hKl, hP, hL, htm, hJm, hF⟩ := id hX
    have hargs : ∀ (i : Nat) (v : se_V), (se_args ds As)[i]? = some (some v) → ∃ x, mm_lget (lv_args 0 Ac) i = some x ∧ se_v ρ v = some x := fun i v hv => by
      obtain ⟨x, g1, g2⟩ := se_args_gl he hAs 0 i v hv
      exact ⟨x, by simpa using g1, g2⟩
    have hb : (lg_sl Ac).length ≤ t.2.2.2.1 ∧ (mm_bud y').1 ≤ cb ∧ (mm_bud y').2 ≤ sb := ⟨by rw [se_args_len he hAs]; exact m1, by omega, by omega⟩
    split at h
    · have hl : ∀ i v, se_ld (se_args ds As) i = some v → ∃ x, se_v ρ v = some x := fun i v hv => by
        unfold se_ld at hv
        split at hv
        · next e => cases hv; obtain ⟨x, _, g⟩ := hargs i _ e; exact ⟨x, g⟩
        · cases hv
      obtain ⟨c, c1, c2, c3, δ, ds1, M1, σ, τ, g1, g2, g3, g4, g5, g6, g7, g8⟩ := se_callC_ok htm he hP hM hl h
      obtain ⟨hmet, hlv⟩ := hC c c1
      subst c2
      have hdep : d - K.length = (d - K.length - 1) + 1 := by omega
      obtain ⟨n, τs, v, r1, r2, e, e2, δe, p1, p2, p3, p4, p5, p6, p7, p8⟩ := hmet (d - K.length - 1) t τ Ac mc (by omega) ht g5 (fun i v hv => by
        obtain ⟨w, x, w1, w2, w3⟩ := g6 i v hv
        obtain ⟨x', x1, x2⟩ := hargs i w w1
        rw [se_v_app x2] at w2
        cases w2
        exact ⟨_, x1, w3⟩) g7 g8 htm hJm
      have hlen1 : τ.length = c.2.1.1.length := by have := g5.1; simpa using this
      have hlen2 : δe.length = e.1.length := by
        have := p1.1
        simp only [List.length_append, List.length_map] at this
        omega
      rw [hdep]
      refine mm_T_call hd hisR hstp hcal ht hb ⟨n, τs, v, r1, r2, ?_⟩
      rw [← hdep]
      obtain ⟨l', ds2, M2, P2, v2, q1, q2, q3, q4, q5, q6, q7⟩ := se_exs_ok g2 (se_pf_app hP δ) (se_left_ok g2 g3 p8) g4 hlen2 (fun i f w h1 h2 => by
        have hi := (List.getElem?_eq_some_iff.mp h2).1
        obtain ⟨w', w1, w2⟩ := p1.2 (c.2.1.1.length + i) f.1 (by
          rw [List.getElem?_append_right (by simp)]
          simp [h1])
        rw [List.getElem?_append_right (by omega), hlen1, Nat.add_sub_cancel_left, h2] at w1
        cases w1
        exact w2) p2 p3 g1 e2
      have hX' : se_X ty tt W J m0 (ρ ++ δ ++ δe) y M2 K Kc P2 (if c.2.2.2.isEmpty then L else none) τs.2.2.2.1 := by
        refine ⟨q4, se_gK_app _ (se_gK_app _ hK), hKl, q5, fun l0 hl0 => ?_, p6, p7, se_fq_trans c3 hF p8⟩
        split at hl0
        · next ee =>
          have hW0 : c.2.2.2 = [] := List.isEmpty_iff.mp ee
          rw [hW0] at p8
          have hsame : se_ap (ρ ++ δ ++ δe) l0 m0 mc := se_ap_app _ (se_ap_app _ (hL l0 hl0))
          rw [se_fq_nil htm p6 p8]
          exact hsame
        · cases hl0
      have hgl' := se_gl_app (se_gl_app hgl δ) δe
      have hrest' := se_sv_app δe (se_sv_app δ hrest)
      have hρ' := se_pre (se_pre hρ δ) δe
      cases hret : e.2.1 with
      | none =>
        rw [q6 hret] at q1
        rw [p4 hret]
        exact se_go_ok q1 (fun S hS => hG S (q2 S hS)) hρ' q3 hfull htl hlen hgl' hrest' hX'
      | some rv =>
        obtain ⟨x, rfl, x2⟩ := p5 rv hret
        obtain ⟨w, x', rfl, w2, w3⟩ := q7 rv hret
        rw [x2] at w3
        cases w3
        exact se_go_ok q1 (fun S hS => hG S (q2 S hS)) hρ' q3 hfull htl hlen hgl' ⟨w2, hrest'⟩ hX'
    · split at h
      · next code hcode =>
        split at h
        · next eK =>
          have eK := Nat.le_of_ble_eq_true eK
          obtain ⟨cs, k1, k2, k3⟩ := sx_nx_inv h htl
          cases k1
          have hdep : d - K.length = (d - (K.length + 1)) + 1 := by omega
          rw [hdep]
          refine mm_T_call hd hisR hstp hcal ht hb ?_
          obtain ⟨p1, p2⟩ := se_pad_ok he hAs m1
          have := hG _ List.mem_cons_self ρ hρ 0 (lv_args 0 Ac) [] mc ((sx_fi y, t, pc + 3, lc, restc, cb - (mm_bud y').1, sb - (mm_bud y').2) :: Kc) (mm_bud y').1 (mm_bud y').2 he ⟨hcode, fun _ h => h, sx_ent y' code hcode, by rw [sx_cods_mths ht]; exact p1, p2, trivial⟩ ⟨hM, ⟨ht, rfl, ⟨hfull, k2, k3, hlen, hgl, hrest⟩, hK⟩, by show K.length + 1 ≤ 12; omega, hP, hL, htm, hJm, hF⟩
          rw [sx_cods_mths ht] at this
          exact this
        · cases h
      · cases h
  · cases h
end SEN
