/-! ===== printed by wip/p2/gen_step.py: a step is sound ===== -/
theorem se_r2c {ρ : List Value} {v : se_V} {w : Value} {s : List se_V} {t : List Value} (h : se_v ρ v = some w) (hs : sx_r2 (se_sv ρ) s t) : sx_r2 (se_sv ρ) (v :: s) (w :: t) := ⟨h, hs⟩
theorem se_kok0 {ds : List se_D} {v : se_V} (h : se_kok ds v 0 = true) : se_kd ds v = 0 := Nat.eq_of_beq_eq_true h
theorem se_kok1 {ds : List se_D} {v : se_V} (h : se_kok ds v 1 = true) : se_kd ds v = 1 := by
  have h : (Nat.beq (se_kd ds v) 1 && decide (v.1 = 1)) = true := h
  rw [Bool.and_eq_true] at h
  exact Nat.eq_of_beq_eq_true h.1
theorem se_kok2 {ds : List se_D} {v : se_V} (h : se_kok ds v 2 = true) : ∃ t, se_kd ds v = t + 2 := by
  have h : (Nat.ble 2 (se_kd ds v) && decide (v.1 = 1)) = true := h
  rw [Bool.and_eq_true] at h
  have := Nat.le_of_ble_eq_true h.1
  exact ⟨se_kd ds v - 2, by omega⟩
theorem se_nz {ds : List se_D} {P : se_P} {w : se_V} {ty : Nat → Option Nat} {ρ : List Value} {b : Int32} (he : se_env ty ρ ds) (hp : se_pf ρ P) (hw : se_v ρ w = some (.int b)) (h : ((match se_rg ds w with
            | (l, h) => se_le 1 l || se_le h (-1)) || P.any (fun e => match e with
              | (.ne, x, z) => se_eq x w && se_eq z (0, 0, 0)
              | _ => false)) = true) : ¬ b = 0 := by
  replace h : ((se_le 1 (se_rg ds w).1 || se_le (se_rg ds w).2 (-1)) || P.any (fun e => match e with
              | (.ne, x, z) => se_eq x w && se_eq z (0, 0, 0)
              | _ => false)) = true := h
  intro e
  subst e
  obtain ⟨n, en, a1, a2⟩ := se_int he hw (se_isInt he hw)
  cases en
  have z : (0 : Int32).toInt = 0 := by decide
  rw [Bool.or_eq_true, Bool.or_eq_true, se_le_iff, se_le_iff] at h
  rcases h with (h | h) | h
  · omega
  · omega
  · obtain ⟨f, f1, f2⟩ := List.any_eq_true.mp h
    split at f2
    · next x u =>
      rw [Bool.and_eq_true] at f2
      obtain ⟨a, b, h1, h2, h3⟩ := hp _ f1
      dsimp only at h1 h2 h3
      rw [se_eq_ok f2.1, hw] at h1
      rw [se_eq_ok f2.2, se_v_c] at h2
      cases h1
      cases h2
      revert h3
      decide
    · cases f2
/-- what is owed of statics: their places -/
def se_zok (ty : Nat → Option Nat) (zs : List mm_Zt) (zt : Nat → Option Nat) : Prop := (∀ a t, a < 1000 → zt a = some t → ∃ q tz p, mm_sts[a]? = some q ∧ zs.find? (fun t => decide (t.1 = q.1 ∧ t.2.1 = q.2.1 ∧ t.2.2.1 = q.2.2)) = some tz ∧ tz.2.2.2 = .ref p ∧ ty p = some t) ∧ (∀ a t, a < 1000 → zt (1000 + a) = some t → ty a = some t) ∧ ∀ a n, zt (2000 + a) = some n → ∃ q tz, mm_sts[a]? = some q ∧ zs.find? (fun t => decide (t.1 = q.1 ∧ t.2.1 = q.2.1 ∧ t.2.2.1 = q.2.2)) = some tz ∧ tz.2.2.2 = .int (Int32.ofInt (n : Int))
set_option maxHeartbeats 4000000 in
set_option maxRecDepth 100000 in
theorem se_step_ok {kx : Nat} {zs : List mm_Zt} {Q : mm_S → Prop} {ρ0 : List Value} {d : Nat} {ty : Nat → Option Nat} {tt : Nat → se_Ty} {W Z : se_W} {tw : Nat} {J : List mm_C → Prop} {m0 : List mm_C} {C : List se_C} {zt : Nat → Option Nat} {lvl : Nat} (hl1 : 1 ≤ lvl) (hC : ∀ c ∈ C, se_Met ty tt J kx zs c ∧ c.1.2 < lvl) (hdl : 13 * lvl ≤ d) (hJ : se_Jz ty Z J) (hkx : ∀ p t, ty p = some t → tw ≤ t → kx ≤ p) (hzt : se_zok ty zs zt) {S : se_S} {l : List se_S} (h : se_step tt C W Z tw zt S = some l) (hG : ∀ S ∈ l, se_Good ty tt W J m0 kx zs Q ρ0 d S) : se_Good ty tt W J m0 kx zs Q ρ0 d S := by
  obtain ⟨ds, M, ⟨y, full, cs, lv, st⟩, K, P, L⟩ := S
  intro ρ hρ pc lc sc mc Kc cb sb he hf hX
  obtain ⟨hfull, hcs, hat, hlen, hgl, hst⟩ := id hf
  dsimp only at he hfull hcs hat hlen hgl hst hX ⊢
  cases cs with
  | nil => cases h
  | cons e tl =>
    obtain ⟨pc0, ins, len, kd, a, b, z⟩ := e
    have hpc : pc0 = pc := hat _ _ rfl
    subst hpc
    have htl : ∀ e ∈ tl, e ∈ full := fun e he => hcs e (List.mem_cons_of_mem _ he)
    obtain ⟨hd, hck⟩ := sx_dec hfull (hcs _ List.mem_cons_self)
    dsimp only at hd
    cases ins with
    | iadd =>
      unfold se_step at h
      dsimp only [se_b2, se_u1, se_lo1, se_st1, se_lg] at h
      split at h
      · next w v r =>
        split at h
        · next e1 =>
          obtain ⟨rfl, e2, e3, e4⟩ := e1
          have hq := sx_r2_cons hst; clear hst; obtain ⟨b1, rc, rfl, g1, hst⟩ := hq
          have hq := sx_r2_cons hst; clear hst; obtain ⟨b2, rc, rfl, g2, hst⟩ := hq
          obtain ⟨bb, rfl, -⟩ := se_int he g1 e3
          obtain ⟨aa, rfl, -⟩ := se_int he g2 e2
          obtain ⟨ds2, w2, δ, k1, k2, k3⟩ := se_bin_ok h he g2 g1 (by decide) (by decide)
          exact mm_T_step hd rfl rfl (se_go_ok (cb := cb) (sb := sb) k1 hG (se_pre hρ δ) k2 hfull htl hlen (se_gl_app hgl δ) (se_r2c k3 (se_sv_app δ hst)) (se_X_app hX δ))
        · cases h
      · cases h
    | isub =>
      unfold se_step at h
      dsimp only [se_b2, se_u1, se_lo1, se_st1, se_lg] at h
      split at h
      · next w v r =>
        split at h
        · next e1 =>
          obtain ⟨rfl, e2, e3, e4⟩ := e1
          have hq := sx_r2_cons hst; clear hst; obtain ⟨b1, rc, rfl, g1, hst⟩ := hq
          have hq := sx_r2_cons hst; clear hst; obtain ⟨b2, rc, rfl, g2, hst⟩ := hq
          obtain ⟨bb, rfl, -⟩ := se_int he g1 e3
          obtain ⟨aa, rfl, -⟩ := se_int he g2 e2
          obtain ⟨ds2, w2, δ, k1, k2, k3⟩ := se_bin_ok h he g2 g1 (by decide) (by decide)
          exact mm_T_step hd rfl rfl (se_go_ok (cb := cb) (sb := sb) k1 hG (se_pre hρ δ) k2 hfull htl hlen (se_gl_app hgl δ) (se_r2c k3 (se_sv_app δ hst)) (se_X_app hX δ))
        · cases h
      · cases h
    | imul =>
      unfold se_step at h
      dsimp only [se_b2, se_u1, se_lo1, se_st1, se_lg] at h
      split at h
      · next w v r =>
        split at h
        · next e1 =>
          obtain ⟨rfl, e2, e3, e4⟩ := e1
          have hq := sx_r2_cons hst; clear hst; obtain ⟨b1, rc, rfl, g1, hst⟩ := hq
          have hq := sx_r2_cons hst; clear hst; obtain ⟨b2, rc, rfl, g2, hst⟩ := hq
          obtain ⟨bb, rfl, -⟩ := se_int he g1 e3
          obtain ⟨aa, rfl, -⟩ := se_int he g2 e2
          obtain ⟨ds2, w2, δ, k1, k2, k3⟩ := se_bin_ok h he g2 g1 (by decide) (by decide)
          exact mm_T_step hd rfl rfl (se_go_ok (cb := cb) (sb := sb) k1 hG (se_pre hρ δ) k2 hfull htl hlen (se_gl_app hgl δ) (se_r2c k3 (se_sv_app δ hst)) (se_X_app hX δ))
        · cases h
      · cases h
    | iand =>
      unfold se_step at h
      dsimp only [se_b2, se_u1, se_lo1, se_st1, se_lg] at h
      split at h
      · next w v r =>
        split at h
        · next e1 =>
          obtain ⟨rfl, e2, e3, e4⟩ := e1
          have hq := sx_r2_cons hst; clear hst; obtain ⟨b1, rc, rfl, g1, hst⟩ := hq
          have hq := sx_r2_cons hst; clear hst; obtain ⟨b2, rc, rfl, g2, hst⟩ := hq
          obtain ⟨bb, rfl, -⟩ := se_int he g1 e3
          obtain ⟨aa, rfl, -⟩ := se_int he g2 e2
          obtain ⟨ds2, w2, δ, k1, k2, k3⟩ := se_bin_ok h he g2 g1 (by decide) (by decide)
          exact mm_T_step hd rfl rfl (se_go_ok (cb := cb) (sb := sb) k1 hG (se_pre hρ δ) k2 hfull htl hlen (se_gl_app hgl δ) (se_r2c k3 (se_sv_app δ hst)) (se_X_app hX δ))
        · cases h
      · cases h
    | ior =>
      unfold se_step at h
      dsimp only [se_b2, se_u1, se_lo1, se_st1, se_lg] at h
      split at h
      · next w v r =>
        split at h
        · next e1 =>
          obtain ⟨rfl, e2, e3, e4⟩ := e1
          have hq := sx_r2_cons hst; clear hst; obtain ⟨b1, rc, rfl, g1, hst⟩ := hq
          have hq := sx_r2_cons hst; clear hst; obtain ⟨b2, rc, rfl, g2, hst⟩ := hq
          obtain ⟨bb, rfl, -⟩ := se_int he g1 e3
          obtain ⟨aa, rfl, -⟩ := se_int he g2 e2
          obtain ⟨ds2, w2, δ, k1, k2, k3⟩ := se_bin_ok h he g2 g1 (by decide) (by decide)
          exact mm_T_step hd rfl rfl (se_go_ok (cb := cb) (sb := sb) k1 hG (se_pre hρ δ) k2 hfull htl hlen (se_gl_app hgl δ) (se_r2c k3 (se_sv_app δ hst)) (se_X_app hX δ))
        · cases h
      · cases h
    | ixor =>
      unfold se_step at h
      dsimp only [se_b2, se_u1, se_lo1, se_st1, se_lg] at h
      split at h
      · next w v r =>
        split at h
        · next e1 =>
          obtain ⟨rfl, e2, e3, e4⟩ := e1
          have hq := sx_r2_cons hst; clear hst; obtain ⟨b1, rc, rfl, g1, hst⟩ := hq
          have hq := sx_r2_cons hst; clear hst; obtain ⟨b2, rc, rfl, g2, hst⟩ := hq
          obtain ⟨bb, rfl, -⟩ := se_int he g1 e3
          obtain ⟨aa, rfl, -⟩ := se_int he g2 e2
          obtain ⟨ds2, w2, δ, k1, k2, k3⟩ := se_bin_ok h he g2 g1 (by decide) (by decide)
          exact mm_T_step hd rfl rfl (se_go_ok (cb := cb) (sb := sb) k1 hG (se_pre hρ δ) k2 hfull htl hlen (se_gl_app hgl δ) (se_r2c k3 (se_sv_app δ hst)) (se_X_app hX δ))
        · cases h
      · cases h
    | ishl =>
      unfold se_step at h
      dsimp only [se_b2, se_u1, se_lo1, se_st1, se_lg] at h
      split at h
      · next w v r =>
        split at h
        · next e1 =>
          obtain ⟨rfl, e2, e3, e4⟩ := e1
          have hq := sx_r2_cons hst; clear hst; obtain ⟨b1, rc, rfl, g1, hst⟩ := hq
          have hq := sx_r2_cons hst; clear hst; obtain ⟨b2, rc, rfl, g2, hst⟩ := hq
          obtain ⟨bb, rfl, -⟩ := se_int he g1 e3
          obtain ⟨aa, rfl, -⟩ := se_int he g2 e2
          obtain ⟨ds2, w2, δ, k1, k2, k3⟩ := se_bin_ok h he g2 g1 (by decide) (by decide)
          exact mm_T_step hd rfl rfl (se_go_ok (cb := cb) (sb := sb) k1 hG (se_pre hρ δ) k2 hfull htl hlen (se_gl_app hgl δ) (se_r2c k3 (se_sv_app δ hst)) (se_X_app hX δ))
        · cases h
      · cases h
    | ishr =>
      unfold se_step at h
      dsimp only [se_b2, se_u1, se_lo1, se_st1, se_lg] at h
      split at h
      · next w v r =>
        split at h
        · next e1 =>
          obtain ⟨rfl, e2, e3, e4⟩ := e1
          have hq := sx_r2_cons hst; clear hst; obtain ⟨b1, rc, rfl, g1, hst⟩ := hq
          have hq := sx_r2_cons hst; clear hst; obtain ⟨b2, rc, rfl, g2, hst⟩ := hq
          obtain ⟨bb, rfl, -⟩ := se_int he g1 e3
          obtain ⟨aa, rfl, -⟩ := se_int he g2 e2
          obtain ⟨ds2, w2, δ, k1, k2, k3⟩ := se_bin_ok h he g2 g1 (by decide) (by decide)
          exact mm_T_step hd rfl rfl (se_go_ok (cb := cb) (sb := sb) k1 hG (se_pre hρ δ) k2 hfull htl hlen (se_gl_app hgl δ) (se_r2c k3 (se_sv_app δ hst)) (se_X_app hX δ))
        · cases h
      · cases h
    | iushr =>
      unfold se_step at h
      dsimp only [se_b2, se_u1, se_lo1, se_st1, se_lg] at h
      split at h
      · next w v r =>
        split at h
        · next e1 =>
          obtain ⟨rfl, e2, e3, e4⟩ := e1
          have hq := sx_r2_cons hst; clear hst; obtain ⟨b1, rc, rfl, g1, hst⟩ := hq
          have hq := sx_r2_cons hst; clear hst; obtain ⟨b2, rc, rfl, g2, hst⟩ := hq
          obtain ⟨bb, rfl, -⟩ := se_int he g1 e3
          obtain ⟨aa, rfl, -⟩ := se_int he g2 e2
          obtain ⟨ds2, w2, δ, k1, k2, k3⟩ := se_bin_ok h he g2 g1 (by decide) (by decide)
          exact mm_T_step hd rfl rfl (se_go_ok (cb := cb) (sb := sb) k1 hG (se_pre hρ δ) k2 hfull htl hlen (se_gl_app hgl δ) (se_r2c k3 (se_sv_app δ hst)) (se_X_app hX δ))
        · cases h
      · cases h
    | idiv =>
      unfold se_step at h
      dsimp only [se_b2, se_u1, se_lo1, se_st1, se_lg] at h
      split at h
      · next w v r =>
        split at h
        · next e1 =>
          obtain ⟨rfl, e2, e3, e4⟩ := e1
          have hq := sx_r2_cons hst; clear hst; obtain ⟨b1, rc, rfl, g1, hst⟩ := hq
          have hq := sx_r2_cons hst; clear hst; obtain ⟨b2, rc, rfl, g2, hst⟩ := hq
          obtain ⟨bb, rfl, -⟩ := se_int he g1 e3
          obtain ⟨aa, rfl, -⟩ := se_int he g2 e2
          obtain ⟨ds2, w2, δ, k1, k2, k3⟩ := se_bin_ok h he g2 g1 (by decide) (by decide)
          have h0 := se_nz he hX.2.2.2.1 g1 (e4 (by decide))
          exact mm_T_step hd rfl (by simp only [mm_stp, mm_pure, mm_bd]; rw [if_neg h0]; rfl) (se_go_ok (cb := cb) (sb := sb) k1 hG (se_pre hρ δ) k2 hfull htl hlen (se_gl_app hgl δ) (se_r2c k3 (se_sv_app δ hst)) (se_X_app hX δ))
        · cases h
      · cases h
    | irem =>
      unfold se_step at h
      dsimp only [se_b2, se_u1, se_lo1, se_st1, se_lg] at h
      split at h
      · next w v r =>
        split at h
        · next e1 =>
          obtain ⟨rfl, e2, e3, e4⟩ := e1
          have hq := sx_r2_cons hst; clear hst; obtain ⟨b1, rc, rfl, g1, hst⟩ := hq
          have hq := sx_r2_cons hst; clear hst; obtain ⟨b2, rc, rfl, g2, hst⟩ := hq
          obtain ⟨bb, rfl, -⟩ := se_int he g1 e3
          obtain ⟨aa, rfl, -⟩ := se_int he g2 e2
          obtain ⟨ds2, w2, δ, k1, k2, k3⟩ := se_bin_ok h he g2 g1 (by decide) (by decide)
          have h0 := se_nz he hX.2.2.2.1 g1 (e4 (by decide))
          exact mm_T_step hd rfl (by simp only [mm_stp, mm_pure, mm_bd]; rw [if_neg h0]; rfl) (se_go_ok (cb := cb) (sb := sb) k1 hG (se_pre hρ δ) k2 hfull htl hlen (se_gl_app hgl δ) (se_r2c k3 (se_sv_app δ hst)) (se_X_app hX δ))
        · cases h
      · cases h
    | ineg =>
      unfold se_step at h
      dsimp only [se_b2, se_u1, se_lo1, se_st1, se_lg] at h
      split at h
      · next v r =>
        split at h
        · next e1 =>
          obtain ⟨rfl, e2⟩ := e1
          have hq := sx_r2_cons hst; clear hst; obtain ⟨b1, rc, rfl, g1, hst⟩ := hq
          obtain ⟨aa, rfl, -⟩ := se_int he g1 e2
          obtain ⟨ds2, w2, δ, k1, k2, k3⟩ := se_bin_ok h he g1 (se_v_c ρ 0 0) (by decide) (by decide)
          exact mm_T_step hd rfl rfl (se_go_ok (cb := cb) (sb := sb) k1 hG (se_pre hρ δ) k2 hfull htl hlen (se_gl_app hgl δ) (se_r2c k3 (se_sv_app δ hst)) (se_X_app hX δ))
        · cases h
      · cases h
    | i2b =>
      unfold se_step at h
      dsimp only [se_b2, se_u1, se_lo1, se_st1, se_lg] at h
      split at h
      · next v r =>
        split at h
        · next e1 =>
          obtain ⟨rfl, e2⟩ := e1
          have hq := sx_r2_cons hst; clear hst; obtain ⟨b1, rc, rfl, g1, hst⟩ := hq
          obtain ⟨aa, rfl, -⟩ := se_int he g1 e2
          obtain ⟨ds2, w2, δ, k1, k2, k3⟩ := se_bin_ok h he g1 (se_v_c ρ 0 0) (by decide) (by decide)
          exact mm_T_step hd rfl rfl (se_go_ok (cb := cb) (sb := sb) k1 hG (se_pre hρ δ) k2 hfull htl hlen (se_gl_app hgl δ) (se_r2c k3 (se_sv_app δ hst)) (se_X_app hX δ))
        · cases h
      · cases h
    | i2s =>
      unfold se_step at h
      dsimp only [se_b2, se_u1, se_lo1, se_st1, se_lg] at h
      split at h
      · next v r =>
        split at h
        · next e1 =>
          obtain ⟨rfl, e2⟩ := e1
          have hq := sx_r2_cons hst; clear hst; obtain ⟨b1, rc, rfl, g1, hst⟩ := hq
          obtain ⟨aa, rfl, -⟩ := se_int he g1 e2
          obtain ⟨ds2, w2, δ, k1, k2, k3⟩ := se_bin_ok h he g1 (se_v_c ρ 0 0) (by decide) (by decide)
          exact mm_T_step hd rfl rfl (se_go_ok (cb := cb) (sb := sb) k1 hG (se_pre hρ δ) k2 hfull htl hlen (se_gl_app hgl δ) (se_r2c k3 (se_sv_app δ hst)) (se_X_app hX δ))
        · cases h
      · cases h
    | i2c =>
      unfold se_step at h
      dsimp only [se_b2, se_u1, se_lo1, se_st1, se_lg] at h
      split at h
      · next v r =>
        split at h
        · next e1 =>
          obtain ⟨rfl, e2⟩ := e1
          have hq := sx_r2_cons hst; clear hst; obtain ⟨b1, rc, rfl, g1, hst⟩ := hq
          obtain ⟨aa, rfl, -⟩ := se_int he g1 e2
          obtain ⟨ds2, w2, δ, k1, k2, k3⟩ := se_bin_ok h he g1 (se_v_c ρ 0 0) (by decide) (by decide)
          exact mm_T_step hd rfl rfl (se_go_ok (cb := cb) (sb := sb) k1 hG (se_pre hρ δ) k2 hfull htl hlen (se_gl_app hgl δ) (se_r2c k3 (se_sv_app δ hst)) (se_X_app hX δ))
        · cases h
      · cases h
    | iload_n n =>
      unfold se_step at h
      dsimp only [se_b2, se_u1, se_lo1, se_st1, se_lg] at h
      split at h
      · next v hv =>
        split at h
        · next e1 =>
          obtain ⟨rfl, e2⟩ := e1
          obtain ⟨w, h1, h2⟩ := se_ld_ok hgl hv
          obtain ⟨x, rfl, -⟩ := se_int he h2 (se_kok0 e2)
          exact mm_T_step hd rfl (by simp [mm_stp, mm_pure, mm_ldi, h1]) (se_go_ok (cb := cb) (sb := sb) h hG hρ he hfull htl hlen hgl (se_r2c h2 hst) hX)
        · cases h
      · cases h
    | iload n =>
      unfold se_step at h
      dsimp only [se_b2, se_u1, se_lo1, se_st1, se_lg] at h
      split at h
      · next v hv =>
        split at h
        · next e1 =>
          obtain ⟨rfl, e2⟩ := e1
          obtain ⟨w, h1, h2⟩ := se_ld_ok hgl hv
          obtain ⟨x, rfl, -⟩ := se_int he h2 (se_kok0 e2)
          exact mm_T_step hd rfl (by simp [mm_stp, mm_pure, mm_ldi, h1]) (se_go_ok (cb := cb) (sb := sb) h hG hρ he hfull htl hlen hgl (se_r2c h2 hst) hX)
        · cases h
      · cases h
    | lload_n n =>
      unfold se_step at h
      dsimp only [se_b2, se_u1, se_lo1, se_st1, se_lg] at h
      split at h
      · next v hv =>
        split at h
        · next e1 =>
          obtain ⟨rfl, e2⟩ := e1
          obtain ⟨w, h1, h2⟩ := se_ld_ok hgl hv
          obtain ⟨x, rfl⟩ := se_long he h2 (se_kok1 e2)
          exact mm_T_step hd rfl (by simp [mm_stp, mm_pure, mm_ldl, h1]) (se_go_ok (cb := cb) (sb := sb) h hG hρ he hfull htl hlen hgl (se_r2c h2 hst) hX)
        · cases h
      · cases h
    | lload n =>
      unfold se_step at h
      dsimp only [se_b2, se_u1, se_lo1, se_st1, se_lg] at h
      split at h
      · next v hv =>
        split at h
        · next e1 =>
          obtain ⟨rfl, e2⟩ := e1
          obtain ⟨w, h1, h2⟩ := se_ld_ok hgl hv
          obtain ⟨x, rfl⟩ := se_long he h2 (se_kok1 e2)
          exact mm_T_step hd rfl (by simp [mm_stp, mm_pure, mm_ldl, h1]) (se_go_ok (cb := cb) (sb := sb) h hG hρ he hfull htl hlen hgl (se_r2c h2 hst) hX)
        · cases h
      · cases h
    | aload_n n =>
      unfold se_step at h
      dsimp only [se_b2, se_u1, se_lo1, se_st1, se_lg] at h
      split at h
      · next v hv =>
        split at h
        · next e1 =>
          obtain ⟨rfl, e2⟩ := e1
          obtain ⟨w, h1, h2⟩ := se_ld_ok hgl hv
          obtain ⟨t, et⟩ := se_kok2 e2
          obtain ⟨x, rfl, -⟩ := se_ref he h2 et
          exact mm_T_step hd rfl (by simp [mm_stp, mm_pure, mm_lda, h1]) (se_go_ok (cb := cb) (sb := sb) h hG hρ he hfull htl hlen hgl (se_r2c h2 hst) hX)
        · cases h
      · cases h
    | aload n =>
      unfold se_step at h
      dsimp only [se_b2, se_u1, se_lo1, se_st1, se_lg] at h
      split at h
      · next v hv =>
        split at h
        · next e1 =>
          obtain ⟨rfl, e2⟩ := e1
          obtain ⟨w, h1, h2⟩ := se_ld_ok hgl hv
          obtain ⟨t, et⟩ := se_kok2 e2
          obtain ⟨x, rfl, -⟩ := se_ref he h2 et
          exact mm_T_step hd rfl (by simp [mm_stp, mm_pure, mm_lda, h1]) (se_go_ok (cb := cb) (sb := sb) h hG hρ he hfull htl hlen hgl (se_r2c h2 hst) hX)
        · cases h
      · cases h
    | istore_n n =>
      unfold se_step at h
      dsimp only [se_b2, se_u1, se_lo1, se_st1, se_lg] at h
      split at h
      · next v r =>
        split at h
        · next e1 =>
          obtain ⟨rfl, e2⟩ := e1
          have hq := sx_r2_cons hst; clear hst; obtain ⟨b1, rc, rfl, g1, hst⟩ := hq
          obtain ⟨x, rfl, -⟩ := se_int he g1 (se_kok0 e2)
          rw [if_neg (by decide)] at h
          split at h
          · next e3 =>
            obtain ⟨lv2, k1, k2, k3⟩ := se_l1K_ok h he hgl g1
            rw [hlen] at e3
            exact mm_T_step hd rfl (by simp [mm_stp, mm_pure, mm_sti, e3]) (se_go_ok (cb := cb) (sb := sb) k1 hG hρ he hfull htl (k2.trans hlen) k3 hst hX)
          · cases h
        · cases h
      · cases h
    | istore n =>
      unfold se_step at h
      dsimp only [se_b2, se_u1, se_lo1, se_st1, se_lg] at h
      split at h
      · next v r =>
        split at h
        · next e1 =>
          obtain ⟨rfl, e2⟩ := e1
          have hq := sx_r2_cons hst; clear hst; obtain ⟨b1, rc, rfl, g1, hst⟩ := hq
          obtain ⟨x, rfl, -⟩ := se_int he g1 (se_kok0 e2)
          rw [if_neg (by decide)] at h
          split at h
          · next e3 =>
            obtain ⟨lv2, k1, k2, k3⟩ := se_l1K_ok h he hgl g1
            rw [hlen] at e3
            exact mm_T_step hd rfl (by simp [mm_stp, mm_pure, mm_sti, e3]) (se_go_ok (cb := cb) (sb := sb) k1 hG hρ he hfull htl (k2.trans hlen) k3 hst hX)
          · cases h
        · cases h
      · cases h
    | astore_n n =>
      unfold se_step at h
      dsimp only [se_b2, se_u1, se_lo1, se_st1, se_lg] at h
      split at h
      · next v r =>
        split at h
        · next e1 =>
          obtain ⟨rfl, e2⟩ := e1
          have hq := sx_r2_cons hst; clear hst; obtain ⟨b1, rc, rfl, g1, hst⟩ := hq
          obtain ⟨t, et⟩ := se_kok2 e2
          obtain ⟨x, rfl, -⟩ := se_ref he g1 et
          rw [if_neg (by decide)] at h
          split at h
          · next e3 =>
            obtain ⟨lv2, k1, k2, k3⟩ := se_l1K_ok h he hgl g1
            rw [hlen] at e3
            exact mm_T_step hd rfl (by simp [mm_stp, mm_pure, mm_sta, e3]) (se_go_ok (cb := cb) (sb := sb) k1 hG hρ he hfull htl (k2.trans hlen) k3 hst hX)
          · cases h
        · cases h
      · cases h
    | astore n =>
      unfold se_step at h
      dsimp only [se_b2, se_u1, se_lo1, se_st1, se_lg] at h
      split at h
      · next v r =>
        split at h
        · next e1 =>
          obtain ⟨rfl, e2⟩ := e1
          have hq := sx_r2_cons hst; clear hst; obtain ⟨b1, rc, rfl, g1, hst⟩ := hq
          obtain ⟨t, et⟩ := se_kok2 e2
          obtain ⟨x, rfl, -⟩ := se_ref he g1 et
          rw [if_neg (by decide)] at h
          split at h
          · next e3 =>
            obtain ⟨lv2, k1, k2, k3⟩ := se_l1K_ok h he hgl g1
            rw [hlen] at e3
            exact mm_T_step hd rfl (by simp [mm_stp, mm_pure, mm_sta, e3]) (se_go_ok (cb := cb) (sb := sb) k1 hG hρ he hfull htl (k2.trans hlen) k3 hst hX)
          · cases h
        · cases h
      · cases h
    | lstore_n n =>
      unfold se_step at h
      dsimp only [se_b2, se_u1, se_lo1, se_st1, se_lg] at h
      split at h
      · next v r =>
        split at h
        · next e1 =>
          obtain ⟨rfl, e2⟩ := e1
          have hq := sx_r2_cons hst; clear hst; obtain ⟨b1, rc, rfl, g1, hst⟩ := hq
          obtain ⟨x, rfl⟩ := se_long he g1 (se_kok1 e2)
          rw [if_pos rfl] at h
          split at h
          · next e3 =>
            obtain ⟨lv2, k1, k2, k3⟩ := se_l2K_ok h he hgl g1
            rw [hlen] at e3
            exact mm_T_step hd rfl (by simp [mm_stp, mm_pure, mm_stl, e3]) (se_go_ok (cb := cb) (sb := sb) k1 hG hρ he hfull htl (k2.trans hlen) k3 hst hX)
          · cases h
        · cases h
      · cases h
    | lstore n =>
      unfold se_step at h
      dsimp only [se_b2, se_u1, se_lo1, se_st1, se_lg] at h
      split at h
      · next v r =>
        split at h
        · next e1 =>
          obtain ⟨rfl, e2⟩ := e1
          have hq := sx_r2_cons hst; clear hst; obtain ⟨b1, rc, rfl, g1, hst⟩ := hq
          obtain ⟨x, rfl⟩ := se_long he g1 (se_kok1 e2)
          rw [if_pos rfl] at h
          split at h
          · next e3 =>
            obtain ⟨lv2, k1, k2, k3⟩ := se_l2K_ok h he hgl g1
            rw [hlen] at e3
            exact mm_T_step hd rfl (by simp [mm_stp, mm_pure, mm_stl, e3]) (se_go_ok (cb := cb) (sb := sb) k1 hG hρ he hfull htl (k2.trans hlen) k3 hst hX)
          · cases h
        · cases h
      · cases h
    | lsub =>
      unfold se_step at h
      dsimp only [se_b2, se_u1, se_lo1, se_st1, se_lg] at h
      split at h
      · next w v r =>
        split at h
        · next e1 =>
          obtain ⟨rfl, e2, e3⟩ := e1
          have hq := sx_r2_cons hst; clear hst; obtain ⟨b1, rc, rfl, g1, hst⟩ := hq
          have hq := sx_r2_cons hst; clear hst; obtain ⟨b2, rc, rfl, g2, hst⟩ := hq
          obtain ⟨xb, rfl⟩ := se_long he g1 (se_kok1 e3)
          obtain ⟨xa, rfl⟩ := se_long he g2 (se_kok1 e2)
          rw [se_new_eq] at h
          have hn1 : se_v (ρ ++ [.long (xa - xb)]) (1, ds.length, 0) = some (.long (xa - xb)) := by rw [← he.1]; exact se_v_new ρ _
          exact mm_T_step hd rfl rfl (se_go_ok (cb := cb) (sb := sb) h hG (se_pre hρ _) (se_env_new he (se_dok0 ⟨_, rfl⟩)) hfull htl hlen (se_gl_app hgl _) (se_r2c hn1 (se_sv_app _ hst)) (se_X_app hX _))
        · cases h
      · cases h
    | land =>
      unfold se_step at h
      dsimp only [se_b2, se_u1, se_lo1, se_st1, se_lg] at h
      split at h
      · next w v r =>
        split at h
        · next e1 =>
          obtain ⟨rfl, e2, e3⟩ := e1
          have hq := sx_r2_cons hst; clear hst; obtain ⟨b1, rc, rfl, g1, hst⟩ := hq
          have hq := sx_r2_cons hst; clear hst; obtain ⟨b2, rc, rfl, g2, hst⟩ := hq
          obtain ⟨xb, rfl⟩ := se_long he g1 (se_kok1 e3)
          obtain ⟨xa, rfl⟩ := se_long he g2 (se_kok1 e2)
          rw [se_new_eq] at h
          have hn1 : se_v (ρ ++ [.long (xa &&& xb)]) (1, ds.length, 0) = some (.long (xa &&& xb)) := by rw [← he.1]; exact se_v_new ρ _
          exact mm_T_step hd rfl rfl (se_go_ok (cb := cb) (sb := sb) h hG (se_pre hρ _) (se_env_new he (se_dok0 ⟨_, rfl⟩)) hfull htl hlen (se_gl_app hgl _) (se_r2c hn1 (se_sv_app _ hst)) (se_X_app hX _))
        · cases h
      · cases h
    | lor =>
      unfold se_step at h
      dsimp only [se_b2, se_u1, se_lo1, se_st1, se_lg] at h
      split at h
      · next w v r =>
        split at h
        · next e1 =>
          obtain ⟨rfl, e2, e3⟩ := e1
          have hq := sx_r2_cons hst; clear hst; obtain ⟨b1, rc, rfl, g1, hst⟩ := hq
          have hq := sx_r2_cons hst; clear hst; obtain ⟨b2, rc, rfl, g2, hst⟩ := hq
          obtain ⟨xb, rfl⟩ := se_long he g1 (se_kok1 e3)
          obtain ⟨xa, rfl⟩ := se_long he g2 (se_kok1 e2)
          rw [se_new_eq] at h
          have hn1 : se_v (ρ ++ [.long (xa ||| xb)]) (1, ds.length, 0) = some (.long (xa ||| xb)) := by rw [← he.1]; exact se_v_new ρ _
          exact mm_T_step hd rfl rfl (se_go_ok (cb := cb) (sb := sb) h hG (se_pre hρ _) (se_env_new he (se_dok0 ⟨_, rfl⟩)) hfull htl hlen (se_gl_app hgl _) (se_r2c hn1 (se_sv_app _ hst)) (se_X_app hX _))
        · cases h
      · cases h
    | lshl =>
      unfold se_step at h
      dsimp only [se_b2, se_u1, se_lo1, se_st1, se_lg] at h
      split at h
      · next w v r =>
        split at h
        · next e1 =>
          obtain ⟨rfl, e2, e3⟩ := e1
          have hq := sx_r2_cons hst; clear hst; obtain ⟨b1, rc, rfl, g1, hst⟩ := hq
          have hq := sx_r2_cons hst; clear hst; obtain ⟨b2, rc, rfl, g2, hst⟩ := hq
          obtain ⟨xb, rfl, -⟩ := se_int he g1 (se_kok0 e3)
          obtain ⟨xa, rfl⟩ := se_long he g2 (se_kok1 e2)
          rw [se_new_eq] at h
          have hn1 : se_v (ρ ++ [.long (xa <<< (xb.toInt64 &&& 63))]) (1, ds.length, 0) = some (.long (xa <<< (xb.toInt64 &&& 63))) := by rw [← he.1]; exact se_v_new ρ _
          exact mm_T_step hd rfl rfl (se_go_ok (cb := cb) (sb := sb) h hG (se_pre hρ _) (se_env_new he (se_dok0 ⟨_, rfl⟩)) hfull htl hlen (se_gl_app hgl _) (se_r2c hn1 (se_sv_app _ hst)) (se_X_app hX _))
        · cases h
      · cases h
    | lshr =>
      unfold se_step at h
      dsimp only [se_b2, se_u1, se_lo1, se_st1, se_lg] at h
      split at h
      · next w v r =>
        split at h
        · next e1 =>
          obtain ⟨rfl, e2, e3⟩ := e1
          have hq := sx_r2_cons hst; clear hst; obtain ⟨b1, rc, rfl, g1, hst⟩ := hq
          have hq := sx_r2_cons hst; clear hst; obtain ⟨b2, rc, rfl, g2, hst⟩ := hq
          obtain ⟨xb, rfl, -⟩ := se_int he g1 (se_kok0 e3)
          obtain ⟨xa, rfl⟩ := se_long he g2 (se_kok1 e2)
          rw [se_new_eq] at h
          have hn1 : se_v (ρ ++ [.long (xa >>> (xb.toInt64 &&& 63))]) (1, ds.length, 0) = some (.long (xa >>> (xb.toInt64 &&& 63))) := by rw [← he.1]; exact se_v_new ρ _
          exact mm_T_step hd rfl rfl (se_go_ok (cb := cb) (sb := sb) h hG (se_pre hρ _) (se_env_new he (se_dok0 ⟨_, rfl⟩)) hfull htl hlen (se_gl_app hgl _) (se_r2c hn1 (se_sv_app _ hst)) (se_X_app hX _))
        · cases h
      · cases h
    | lushr =>
      unfold se_step at h
      dsimp only [se_b2, se_u1, se_lo1, se_st1, se_lg] at h
      split at h
      · next w v r =>
        split at h
        · next e1 =>
          obtain ⟨rfl, e2, e3⟩ := e1
          have hq := sx_r2_cons hst; clear hst; obtain ⟨b1, rc, rfl, g1, hst⟩ := hq
          have hq := sx_r2_cons hst; clear hst; obtain ⟨b2, rc, rfl, g2, hst⟩ := hq
          obtain ⟨xb, rfl, -⟩ := se_int he g1 (se_kok0 e3)
          obtain ⟨xa, rfl⟩ := se_long he g2 (se_kok1 e2)
          rw [se_new_eq] at h
          have hn1 : se_v (ρ ++ [.long ((xa.toUInt64 >>> (xb.toInt64.toUInt64 &&& Int64.toUInt64 63)).toInt64)]) (1, ds.length, 0) = some (.long ((xa.toUInt64 >>> (xb.toInt64.toUInt64 &&& Int64.toUInt64 63)).toInt64)) := by rw [← he.1]; exact se_v_new ρ _
          exact mm_T_step hd rfl rfl (se_go_ok (cb := cb) (sb := sb) h hG (se_pre hρ _) (se_env_new he (se_dok0 ⟨_, rfl⟩)) hfull htl hlen (se_gl_app hgl _) (se_r2c hn1 (se_sv_app _ hst)) (se_X_app hX _))
        · cases h
      · cases h
    | ladd =>
      unfold se_step at h
      dsimp only [se_b2, se_u1, se_lo1, se_st1, se_lg] at h
      split at h
      · next w v r =>
        split at h
        · next e1 =>
          obtain ⟨rfl, e2, e3⟩ := e1
          have hq := sx_r2_cons hst; clear hst; obtain ⟨b1, rc, rfl, g1, hst⟩ := hq
          have hq := sx_r2_cons hst; clear hst; obtain ⟨b2, rc, rfl, g2, hst⟩ := hq
          obtain ⟨xb, rfl⟩ := se_long he g1 (se_kok1 e3)
          obtain ⟨xa, rfl⟩ := se_long he g2 (se_kok1 e2)
          rw [se_new_eq] at h
          have hn1 : se_v (ρ ++ [.long (xa + xb)]) (1, ds.length, 0) = some (.long (xa + xb)) := by rw [← he.1]; exact se_v_new ρ _
          exact mm_T_step hd rfl rfl (se_go_ok (cb := cb) (sb := sb) h hG (se_pre hρ _) (se_env_new he ⟨⟨_, rfl⟩, fun _ => ⟨.long xa, .long xb, g2, g1, rfl⟩⟩) hfull htl hlen (se_gl_app hgl _) (se_r2c hn1 (se_sv_app _ hst)) (se_X_app hX _))
        · cases h
      · cases h
    | i2l =>
      unfold se_step at h
      dsimp only [se_b2, se_u1, se_lo1, se_st1, se_lg] at h
      split at h
      · next v r =>
        split at h
        · next e1 =>
          obtain ⟨rfl, e2⟩ := e1
          have hq := sx_r2_cons hst; clear hst; obtain ⟨b1, rc, rfl, g1, hst⟩ := hq
          obtain ⟨xa, rfl, -⟩ := se_int he g1 (se_kok0 e2)
          rw [se_new_eq] at h
          have hn1 : se_v (ρ ++ [.long xa.toInt64]) (1, ds.length, 0) = some (.long xa.toInt64) := by rw [← he.1]; exact se_v_new ρ _
          exact mm_T_step hd rfl rfl (se_go_ok (cb := cb) (sb := sb) h hG (se_pre hρ _) (se_env_new he ⟨⟨_, rfl⟩, fun _ => ⟨.int xa, .int (Int32.ofInt 0), g1, se_v_c ρ 0 0, rfl⟩⟩) hfull htl hlen (se_gl_app hgl _) (se_r2c hn1 (se_sv_app _ hst)) (se_X_app hX _))
        · cases h
      · cases h
    | lcmp =>
      unfold se_step at h
      dsimp only [se_b2, se_u1, se_lo1, se_st1, se_lg] at h
      split at h
      · next w v r =>
        split at h
        · next e1 =>
          obtain ⟨rfl, e2, e3⟩ := e1
          have hq := sx_r2_cons hst; clear hst; obtain ⟨b1, rc, rfl, g1, hst⟩ := hq
          have hq := sx_r2_cons hst; clear hst; obtain ⟨b2, rc, rfl, g2, hst⟩ := hq
          obtain ⟨xb, rfl⟩ := se_long he g1 (se_kok1 e3)
          obtain ⟨xa, rfl⟩ := se_long he g2 (se_kok1 e2)
          obtain ⟨lo, up, r1, r2, h⟩ := se_lcK_ok he hX.2.2.2.1 h g2 g1
          have hn1 : se_v (ρ ++ [.int (lg_cmp xa xb)]) (1, ds.length, 0) = some (.int (lg_cmp xa xb)) := by rw [← he.1]; exact se_v_new ρ _
          exact mm_T_step hd rfl rfl (se_go_ok (cb := cb) (sb := sb) h hG (se_pre hρ _) (se_env_new he ⟨⟨_, rfl, r1, r2⟩, fun _ => ⟨.long xa, .long xb, g2, g1, rfl⟩⟩) hfull htl hlen (se_gl_app hgl _) (se_r2c hn1 (se_sv_app _ hst)) (se_X_app hX _))
        · cases h
      · cases h
    | l2i =>
      unfold se_step at h
      dsimp only [se_b2, se_u1, se_lo1, se_st1, se_lg] at h
      split at h
      · next v r =>
        split at h
        · next e1 =>
          obtain ⟨rfl, e2⟩ := e1
          have hq := sx_r2_cons hst; clear hst; obtain ⟨b1, rc, rfl, g1, hst⟩ := hq
          obtain ⟨xa, rfl⟩ := se_long he g1 (se_kok1 e2)
          rw [se_new_eq] at h
          have hn1 : se_v (ρ ++ [.int xa.toInt32]) (1, ds.length, 0) = some (.int xa.toInt32) := by rw [← he.1]; exact se_v_new ρ _
          exact mm_T_step hd rfl rfl (se_go_ok (cb := cb) (sb := sb) h hG (se_pre hρ _) (se_env_new he (se_dok0 ⟨_, rfl, se_i32 _⟩)) hfull htl hlen (se_gl_app hgl _) (se_r2c hn1 (se_sv_app _ hst)) (se_X_app hX _))
        · cases h
      · cases h
    | iconst n =>
      unfold se_step at h
      dsimp only [se_b2, se_u1, se_lo1, se_st1, se_lg] at h
      split at h
      · next e1 =>
        subst e1
        rw [se_con_eq] at h
        exact mm_T_step hd rfl rfl (se_go_ok (cb := cb) (sb := sb) h hG hρ he hfull htl hlen hgl (se_r2c (se_v_i ρ _) hst) hX)
      · cases h
    | bipush n =>
      unfold se_step at h
      dsimp only [se_b2, se_u1, se_lo1, se_st1, se_lg] at h
      split at h
      · next e1 =>
        subst e1
        rw [se_con_eq] at h
        exact mm_T_step hd rfl rfl (se_go_ok (cb := cb) (sb := sb) h hG hρ he hfull htl hlen hgl (se_r2c (se_v_i ρ _) hst) hX)
      · cases h
    | sipush n =>
      unfold se_step at h
      dsimp only [se_b2, se_u1, se_lo1, se_st1, se_lg] at h
      split at h
      · next e1 =>
        subst e1
        rw [se_con_eq] at h
        exact mm_T_step hd rfl rfl (se_go_ok (cb := cb) (sb := sb) h hG hρ he hfull htl hlen hgl (se_r2c (se_v_i ρ _) hst) hX)
      · cases h
    | ldc idx =>
      unfold se_step at h
      dsimp only [se_b2, se_u1, se_lo1, se_st1, se_lg] at h
      split at h
      · next ek =>
        subst ek
        split at h
        · next t ht =>
          split at h
          · next e1 =>
            obtain ⟨rfl, e2, e3, e4, e5⟩ := e1
            obtain ⟨pl, hlk⟩ := sx_pl_ok (sx_ckp hck rfl) (by decide)
            rw [se_new_eq] at h
            have hn1 : se_v (ρ ++ [.ref a]) (1, ds.length, 0) = some (.ref a) := by rw [← he.1]; exact se_v_new ρ _
            exact mm_T_step hd rfl (by rw [mm_stp_m rfl]; unfold mm_mem; dsimp only; unfold mm_ldcS; simp only [hlk]; exact if_pos ⟨trivial, trivial, trivial, e2, e3, e4, e5⟩) (se_go_ok (cb := cb) (sb := sb) h hG (se_pre hρ _) (se_env_new he (se_dok0 ⟨a, rfl, hzt.2.1 a t (by omega) ht⟩)) hfull htl hlen (se_gl_app hgl _) (se_r2c hn1 (se_sv_app _ hst)) (se_X_app hX _))
          · cases h
        · cases h
      · next ek =>
        clear ek
        split at h
        · next e1 =>
          obtain ⟨rfl, rfl⟩ := e1
          rw [se_con_eq] at h
          obtain ⟨pl, hlk⟩ := sx_pl_ok (sx_ckp hck rfl) (by decide)
          exact mm_T_step hd rfl (by rw [mm_stp_m rfl]; unfold mm_mem; dsimp only; unfold mm_ldcS; simp [hlk]) (se_go_ok (cb := cb) (sb := sb) h hG hρ he hfull htl hlen hgl (se_r2c (se_v_i ρ _) hst) hX)
        · cases h
    | ldc_w idx =>
      unfold se_step at h
      dsimp only [se_b2, se_u1, se_lo1, se_st1, se_lg] at h
      split at h
      · next e1 =>
        obtain ⟨rfl, rfl⟩ := e1
        rw [se_con_eq] at h
        obtain ⟨pl, hlk⟩ := sx_pl_ok (sx_ckp hck rfl) (by decide)
        exact mm_T_step hd rfl (by rw [mm_stp_m rfl]; unfold mm_mem; dsimp only; unfold mm_ldcS; simp [hlk]) (se_go_ok (cb := cb) (sb := sb) h hG hρ he hfull htl hlen hgl (se_r2c (se_v_i ρ _) hst) hX)
      · cases h
    | lconst n =>
      unfold se_step at h
      dsimp only [se_b2, se_u1, se_lo1, se_st1, se_lg] at h
      split at h
      · next e1 =>
        subst e1
        rw [se_new_eq] at h
        have hn1 : se_v (ρ ++ [.long (Int64.ofNat n)]) (1, ds.length, 0) = some (.long (Int64.ofNat n)) := by rw [← he.1]; exact se_v_new ρ _
        exact mm_T_step hd rfl rfl (se_go_ok (cb := cb) (sb := sb) h hG (se_pre hρ _) (se_env_new he (se_dok0 ⟨_, rfl⟩)) hfull htl hlen (se_gl_app hgl _) (se_r2c hn1 (se_sv_app _ hst)) (se_X_app hX _))
      · cases h
    | ldc2_w idx =>
      unfold se_step at h
      dsimp only [se_b2, se_u1, se_lo1, se_st1, se_lg] at h
      split at h
      · next e1 =>
        obtain ⟨rfl, rfl⟩ := e1
        obtain ⟨pl, hlk⟩ := sx_pl_ok (sx_ckp hck rfl) (by decide)
        rw [se_new_eq] at h
        have hn1 : se_v (ρ ++ [.long (Int64.ofInt z)]) (1, ds.length, 0) = some (.long (Int64.ofInt z)) := by rw [← he.1]; exact se_v_new ρ _
        exact mm_T_step hd rfl (by rw [mm_stp_m rfl]; unfold mm_mem; dsimp only; unfold mm_ldc2S; simp [hlk]) (se_go_ok (cb := cb) (sb := sb) h hG (se_pre hρ _) (se_env_new he (se_dok0 ⟨_, rfl⟩)) hfull htl hlen (se_gl_app hgl _) (se_r2c hn1 (se_sv_app _ hst)) (se_X_app hX _))
      · cases h
    | iinc i n =>
      unfold se_step at h
      dsimp only [se_b2, se_u1, se_lo1, se_st1, se_lg] at h
      split at h
      · next v hv =>
        split at h
        · next e1 =>
          obtain ⟨rfl, e2, e3⟩ := e1
          obtain ⟨w, h1, h2⟩ := se_ld_ok hgl hv
          obtain ⟨x, rfl, -⟩ := se_int he h2 e2
          rw [se_con_eq] at h
          obtain ⟨ds2, w2, δ, k1, k2, k3⟩ := se_bin_ok h he h2 (se_v_i ρ (Int32.ofInt n)) (by decide) (by decide)
          obtain ⟨lv2, q1, q2, q3⟩ := se_l1K_ok k1 k2 (se_gl_app hgl δ) k3
          rw [hlen] at e3
          exact mm_T_step hd rfl (by simp [mm_stp, mm_pure, mm_inc, h1, e3]; rfl) (se_go_ok (cb := cb) (sb := sb) q1 hG (se_pre hρ δ) k2 hfull htl (q2.trans hlen) q3 (se_sv_app δ hst) (se_X_app hX δ))
        · cases h
      · cases h
    | goto off =>
      unfold se_step at h
      dsimp only [se_b2, se_u1, se_lo1, se_st1, se_lg] at h
      split at h
      · next t ht =>
        split at h
        · next e1 =>
          subst e1
          exact mm_T_step hd rfl (by simp [mm_stp, mm_pure, mm_go, ht]) (se_go_ok (cb := cb) (sb := sb) h hG hρ he hfull htl hlen hgl hst hX)
        · cases h
      · cases h
    | ifCond cd off =>
      unfold se_step at h
      dsimp only [se_b2, se_u1, se_lo1, se_st1, se_lg] at h
      split at h
      · next t v r ht =>
        split at h
        · next e1 =>
          subst e1
          have hq := sx_r2_cons hst; clear hst; obtain ⟨b1, rc, rfl, g1, hst⟩ := hq
          obtain ⟨x, x0, rfl, hx0, ds2, P2, l2, hk, hsub, k2, p4⟩ := se_cmp_ok h he hX.2.2.2.1 g1 (se_v_c ρ 0 0)
          have hx0 : x0 = 0 := by cases hx0; rfl
          subst hx0
          cases hb : mm_P2 cd x 0 with
          | true =>
            rw [hb] at hk
            exact mm_T_step hd rfl (by simp [mm_stp, mm_pure, mm_if1, ht, sx_P1_P2, hb]) (se_go_ok (cb := cb) (sb := sb) hk (fun S hS => hG S (hsub S hS)) hρ k2 hfull htl hlen hgl hst ⟨hX.1, hX.2.1, hX.2.2.1, p4, hX.2.2.2.2⟩)
          | false =>
            rw [hb] at hk
            exact mm_T_step hd rfl (by simp [mm_stp, mm_pure, mm_if1, ht, sx_P1_P2, hb]) (se_go_ok (cb := cb) (sb := sb) hk (fun S hS => hG S (hsub S hS)) hρ k2 hfull htl hlen hgl hst ⟨hX.1, hX.2.1, hX.2.2.1, p4, hX.2.2.2.2⟩)
        · cases h
      · cases h
    | if_icmp cd off =>
      unfold se_step at h
      dsimp only [se_b2, se_u1, se_lo1, se_st1, se_lg] at h
      split at h
      · next t w v r ht =>
        split at h
        · next e1 =>
          subst e1
          have hq := sx_r2_cons hst; clear hst; obtain ⟨b1, rc, rfl, g1, hst⟩ := hq
          have hq := sx_r2_cons hst; clear hst; obtain ⟨b2, rc, rfl, g2, hst⟩ := hq
          obtain ⟨x, x0, rfl, rfl, ds2, P2, l2, hk, hsub, k2, p4⟩ := se_cmp_ok h he hX.2.2.2.1 g2 g1
          cases hb : mm_P2 cd x x0 with
          | true =>
            rw [hb] at hk
            exact mm_T_step hd rfl (by simp [mm_stp, mm_pure, mm_if2, ht, hb]) (se_go_ok (cb := cb) (sb := sb) hk (fun S hS => hG S (hsub S hS)) hρ k2 hfull htl hlen hgl hst ⟨hX.1, hX.2.1, hX.2.2.1, p4, hX.2.2.2.2⟩)
          | false =>
            rw [hb] at hk
            exact mm_T_step hd rfl (by simp [mm_stp, mm_pure, mm_if2, ht, hb]) (se_go_ok (cb := cb) (sb := sb) hk (fun S hS => hG S (hsub S hS)) hρ k2 hfull htl hlen hgl hst ⟨hX.1, hX.2.1, hX.2.2.1, p4, hX.2.2.2.2⟩)
        · cases h
      · cases h
    | tableswitch dflt lo hi offs =>
      unfold se_step at h
      dsimp only [se_b2, se_u1, se_lo1, se_st1, se_lg] at h
      split at h
      · next v r =>
        split at h
        · next e1 =>
          obtain ⟨e1, e2, e3⟩ := e1
          have hin := se_in_iff e1
          have hq := sx_r2_cons hst; clear hst; obtain ⟨b1, rc, rfl, g1, hst⟩ := hq
          obtain ⟨xx, rfl, -⟩ := se_int he g1 e3
          have hin2 : se_in lo (lo + ((hi - lo + 1).toNat : Int) - 1) = true := by
            rw [show lo + ((hi - lo + 1).toNat : Int) - 1 = hi by omega]
            exact e1
          obtain ⟨x, off, ex, ⟨ds2, P2, l2, hk, hsub, k2, p4⟩, hoff⟩ := se_sw_ok g1 ⟨_, rfl⟩ hin2 h he hX.2.2.2.1
          cases ex
          split at hk
          · next t ht =>
            refine mm_T_step hd rfl ?_ (se_go_ok (cb := cb) (sb := sb) hk (fun S hS => hG S (hsub S hS)) hρ k2 hfull htl hlen hgl hst ⟨hX.1, hX.2.1, hX.2.2.1, p4, hX.2.2.2.2⟩)
            rcases hoff with ⟨j, j1, j2, j3⟩ | ⟨j1, rfl⟩
            · simp only [mm_stp, mm_pure, mm_sw]
              rw [if_neg (by omega), show (xx.toInt - lo).toNat = j by omega, j3]
              simp only [ht]
              rfl
            · simp only [mm_stp, mm_pure, mm_sw]
              rw [if_pos ?_, ht]
              · rfl
              · apply Classical.byContradiction
                intro q
                exact j1 (xx.toInt - lo).toNat (by omega) (by omega)
          · cases hk
        · cases h
      · cases h
    | dup =>
      unfold se_step at h
      dsimp only [se_b2, se_u1, se_lo1, se_st1, se_lg] at h
      split at h
      · next v r =>
        split at h
        · next e1 =>
          obtain ⟨rfl, e2⟩ := e1
          have hq := sx_r2_cons hst; clear hst; obtain ⟨b1, rc, rfl, g1, hst⟩ := hq
          have hc := (se_cat_ok he g1).trans e2
          exact mm_T_step hd rfl (by simp [mm_stp, mm_pure, mm_dup, hc]) (se_go_ok (cb := cb) (sb := sb) h hG hρ he hfull htl hlen hgl (se_r2c g1 (se_r2c g1 hst)) hX)
        · cases h
      · cases h
    | pop =>
      unfold se_step at h
      dsimp only [se_b2, se_u1, se_lo1, se_st1, se_lg] at h
      split at h
      · next v r =>
        split at h
        · next e1 =>
          obtain ⟨rfl, e2⟩ := e1
          have hq := sx_r2_cons hst; clear hst; obtain ⟨b1, rc, rfl, g1, hst⟩ := hq
          have hc := (se_cat_ok he g1).trans e2
          exact mm_T_step hd rfl (by simp [mm_stp, mm_pure, mm_pop, hc]) (se_go_ok (cb := cb) (sb := sb) h hG hρ he hfull htl hlen hgl hst hX)
        · cases h
      · cases h
    | dup2 =>
      unfold se_step at h
      dsimp only [se_b2, se_u1, se_lo1, se_st1, se_lg] at h
      split at h
      · next v w r =>
        split at h
        · next e1 =>
          obtain ⟨rfl, e2, e3⟩ := e1
          have hq := sx_r2_cons hst; clear hst; obtain ⟨b1, rc, rfl, g1, hst⟩ := hq
          have hq := sx_r2_cons hst; clear hst; obtain ⟨b2, rc, rfl, g2, hst⟩ := hq
          have hc := (se_cat_ok he g1).trans e2
          have hc2 := (se_cat_ok he g2).trans e3
          exact mm_T_step hd rfl (by simp [mm_stp, mm_pure, mm_dup2, hc, hc2]) (se_go_ok (cb := cb) (sb := sb) h hG hρ he hfull htl hlen hgl (se_r2c g1 (se_r2c g2 (se_r2c g1 (se_r2c g2 hst)))) hX)
        · cases h
      · cases h
    | getfield idx =>
      unfold se_step at h
      dsimp only [se_b2, se_u1, se_lo1, se_st1, se_lg] at h
      obtain ⟨q, xs, x, rc, rfl, hkd, rfl, x1, x2, δ, ds2, M2, st2, k1, k2, k3, k4⟩ := se_getf_ok h he hX.2.2.2.1 hX.1 hX.2.2.2.2.2.1 hst
      obtain ⟨pl, hlk⟩ := sx_pl_ok (sx_ckp hck rfl) (by rcases hkd with rfl | rfl <;> decide)
      exact mm_T_step hd rfl (by rw [mm_stp_m rfl]; unfold mm_mem; dsimp only; unfold mm_getS; dsimp only; rw [hlk, x1]; dsimp only; rw [if_pos ⟨rfl, rfl, hkd, rfl⟩, x2]; rfl) (se_go_ok (cb := cb) (sb := sb) k1 hG (se_pre hρ δ) k2 hfull htl hlen (se_gl_app hgl δ) k4 ⟨k3, se_gK_app _ hX.2.1, hX.2.2.1, se_pf_app hX.2.2.2.1 _, fun l0 q => se_ap_app _ (hX.2.2.2.2.1 l0 q), hX.2.2.2.2.2⟩)
    | putfield idx =>
      unfold se_step at h
      dsimp only [se_b2, se_u1, se_lo1, se_st1, se_lg] at h
      obtain ⟨x, q, xs, u, rc, rfl, hkd, rfl, x1, x2, x3, x4, x5, x6, M2, L2, st2, k1, k2, k3⟩ := se_putf_ok hJ hkx h he hX hst
      obtain ⟨pl, hlk⟩ := sx_pl_ok (sx_ckp hck rfl) (by rcases hkd with rfl | rfl <;> decide)
      exact mm_T_step hd rfl (by rw [mm_stp_m rfl]; unfold mm_mem; dsimp only; unfold mm_putS; dsimp only; rw [hlk, x1]; dsimp only; rw [x2]; dsimp only; rw [if_pos ⟨rfl, rfl, rfl, x3, x4, x5, Or.inl ⟨hkd, x6⟩⟩]) (se_go_ok (cb := cb) (sb := sb) k1 hG hρ he hfull htl hlen hgl k2 k3)
    | getstatic idx =>
      unfold se_step at h
      dsimp only [se_b2, se_u1, se_lo1, se_st1, se_lg] at h
      split at h
      · next n hn =>
        split at h
        · next e1 =>
          obtain ⟨rfl, e2⟩ := e1
          rw [se_con_eq] at h
          obtain ⟨qz, tz, z1, z2, z3⟩ := hzt.2.2 a n hn
          obtain ⟨pl, hlk⟩ := sx_pl_ok (sx_ckp hck rfl) (by rcases e2 with rfl | rfl <;> decide)
          exact mm_T_step hd rfl (by rw [mm_stp_m rfl]; unfold mm_mem; dsimp only; unfold mm_getstS; dsimp only; rw [hlk]; dsimp only; rw [z1]; dsimp only; rw [z2]; dsimp only; rw [if_pos ⟨rfl, rfl, e2⟩, z3]) (se_go_ok (cb := cb) (sb := sb) h hG hρ he hfull htl hlen hgl (se_r2c (se_v_i ρ _) hst) hX)
        · cases h
      · split at h
        · next t ht =>
          split at h
          · next e1 =>
            obtain ⟨rfl, e2, e3⟩ := e1
            obtain ⟨qz, tz, p, z1, z2, z3, z4⟩ := hzt.1 a t e3 ht
            obtain ⟨pl, hlk⟩ := sx_pl_ok (sx_ckp hck rfl) (by rcases e2 with rfl | rfl <;> decide)
            rw [se_new_eq] at h
            have hn1 : se_v (ρ ++ [.ref p]) (1, ds.length, 0) = some (.ref p) := by rw [← he.1]; exact se_v_new ρ _
            exact mm_T_step hd rfl (by rw [mm_stp_m rfl]; unfold mm_mem; dsimp only; unfold mm_getstS; dsimp only; rw [hlk]; dsimp only; rw [z1]; dsimp only; rw [z2]; dsimp only; rw [if_pos ⟨rfl, rfl, e2⟩, z3]) (se_go_ok (cb := cb) (sb := sb) h hG (se_pre hρ _) (se_env_new he (se_dok0 ⟨p, rfl, z4⟩)) hfull htl hlen (se_gl_app hgl _) (se_r2c hn1 (se_sv_app _ hst)) (se_X_app hX _))
          · cases h
        · cases h
    | iaload =>
      unfold se_step at h
      dsimp only [se_b2, se_u1, se_lo1, se_st1, se_lg] at h
      obtain ⟨j, q, ft, xs, x, rc, rfl, rfl, x1, x2, x3, x4, δ, ds2, M2, st2, k1, k2, k3, k4⟩ := se_ald_ok h he hX.2.2.2.1 hX.1 hX.2.2.2.2.2.1 hst
      exact mm_T_step hd rfl (by rw [mm_stp_m rfl]; unfold mm_mem; dsimp only; unfold mm_aldS; dsimp only; rw [x1]; dsimp only; rw [if_pos ⟨rfl, x2, x3⟩, x4]; rfl) (se_go_ok (cb := cb) (sb := sb) k1 hG (se_pre hρ δ) k2 hfull htl hlen (se_gl_app hgl δ) k4 ⟨k3, se_gK_app _ hX.2.1, hX.2.2.1, se_pf_app hX.2.2.2.1 _, fun l0 q => se_ap_app _ (hX.2.2.2.2.1 l0 q), hX.2.2.2.2.2⟩)
    | baload =>
      unfold se_step at h
      dsimp only [se_b2, se_u1, se_lo1, se_st1, se_lg] at h
      obtain ⟨j, q, ft, xs, x, rc, rfl, rfl, x1, x2, x3, x4, δ, ds2, M2, st2, k1, k2, k3, k4⟩ := se_ald_ok h he hX.2.2.2.1 hX.1 hX.2.2.2.2.2.1 hst
      exact mm_T_step hd rfl (by rw [mm_stp_m rfl]; unfold mm_mem; dsimp only; unfold mm_aldS; dsimp only; rw [x1]; dsimp only; rw [if_pos ⟨rfl, x2, x3⟩, x4]; rfl) (se_go_ok (cb := cb) (sb := sb) k1 hG (se_pre hρ δ) k2 hfull htl hlen (se_gl_app hgl δ) k4 ⟨k3, se_gK_app _ hX.2.1, hX.2.2.1, se_pf_app hX.2.2.2.1 _, fun l0 q => se_ap_app _ (hX.2.2.2.2.1 l0 q), hX.2.2.2.2.2⟩)
    | caload =>
      unfold se_step at h
      dsimp only [se_b2, se_u1, se_lo1, se_st1, se_lg] at h
      obtain ⟨j, q, ft, xs, x, rc, rfl, rfl, x1, x2, x3, x4, δ, ds2, M2, st2, k1, k2, k3, k4⟩ := se_ald_ok h he hX.2.2.2.1 hX.1 hX.2.2.2.2.2.1 hst
      exact mm_T_step hd rfl (by rw [mm_stp_m rfl]; unfold mm_mem; dsimp only; unfold mm_aldS; dsimp only; rw [x1]; dsimp only; rw [if_pos ⟨rfl, x2, x3⟩, x4]; rfl) (se_go_ok (cb := cb) (sb := sb) k1 hG (se_pre hρ δ) k2 hfull htl hlen (se_gl_app hgl δ) k4 ⟨k3, se_gK_app _ hX.2.1, hX.2.2.1, se_pf_app hX.2.2.2.1 _, fun l0 q => se_ap_app _ (hX.2.2.2.2.1 l0 q), hX.2.2.2.2.2⟩)
    | laload =>
      unfold se_step at h
      dsimp only [se_b2, se_u1, se_lo1, se_st1, se_lg] at h
      obtain ⟨j, q, ft, xs, x, rc, rfl, rfl, x1, x2, x3, x4, δ, ds2, M2, st2, k1, k2, k3, k4⟩ := se_ald_ok h he hX.2.2.2.1 hX.1 hX.2.2.2.2.2.1 hst
      exact mm_T_step hd rfl (by rw [mm_stp_m rfl]; unfold mm_mem; dsimp only; unfold mm_aldS; dsimp only; rw [x1]; dsimp only; rw [if_pos ⟨rfl, x2, x3⟩, x4]; rfl) (se_go_ok (cb := cb) (sb := sb) k1 hG (se_pre hρ δ) k2 hfull htl hlen (se_gl_app hgl δ) k4 ⟨k3, se_gK_app _ hX.2.1, hX.2.2.1, se_pf_app hX.2.2.2.1 _, fun l0 q => se_ap_app _ (hX.2.2.2.2.1 l0 q), hX.2.2.2.2.2⟩)
    | aaload =>
      unfold se_step at h
      dsimp only [se_b2, se_u1, se_lo1, se_st1, se_lg] at h
      obtain ⟨wtop, htop⟩ := se_top_ok hst
      obtain ⟨ds1, P1, l1, h1, hs1, he1, hp1⟩ := se_spl_ok htop h he hX.2.2.2.1
      have hX1 : se_X ty tt W J m0 ρ y M K Kc P1 L mc := ⟨hX.1, hX.2.1, hX.2.2.1, hp1, hX.2.2.2.2⟩
      have hG1 := fun S hS => hG S (hs1 S hS)
      obtain ⟨j, q, ft, xs, x, rc, rfl, rfl, x1, x2, x3, x4, δ, ds2, M2, st2, k1, k2, k3, k4⟩ := se_ald_ok h1 he1 hp1 hX1.1 hX1.2.2.2.2.2.1 hst
      exact mm_T_step hd rfl (by rw [mm_stp_m rfl]; unfold mm_mem; dsimp only; unfold mm_aldS; dsimp only; rw [x1]; dsimp only; rw [if_pos ⟨rfl, x2, x3⟩, x4]; rfl) (se_go_ok (cb := cb) (sb := sb) k1 hG1 (se_pre hρ δ) k2 hfull htl (hlen) (se_gl_app hgl δ) k4 ⟨k3, se_gK_app _ hX1.2.1, hX1.2.2.1, se_pf_app hX1.2.2.2.1 _, fun l0 q => se_ap_app _ (hX1.2.2.2.2.1 l0 q), hX1.2.2.2.2.2⟩)
    | iastore =>
      unfold se_step at h
      dsimp only [se_b2, se_u1, se_lo1, se_st1, se_lg] at h
      obtain ⟨x, j, q, ft, xs, rc, rfl, rfl, x1, x2, x3, x4, x5, M2, L2, st2, k1, k2, k3⟩ := se_ast_ok hJ hkx h he hX hst
      have x2 : ft = .int := of_decide_eq_true x2
      subst x2
      exact mm_T_step hd rfl (by rw [mm_stp_m rfl]; unfold mm_mem; dsimp only; unfold mm_astS; dsimp only; rw [x1]; dsimp only; rw [if_pos ⟨rfl, rfl, x3, x4⟩, x5]) (se_go_ok (cb := cb) (sb := sb) k1 hG hρ he hfull htl hlen hgl k2 k3)
    | bastore =>
      unfold se_step at h
      dsimp only [se_b2, se_u1, se_lo1, se_st1, se_lg] at h
      obtain ⟨x, j, q, ft, xs, rc, rfl, rfl, x1, x2, x3, x4, x5, M2, L2, st2, k1, k2, k3⟩ := se_ast_ok hJ hkx h he hX hst
      have x2 : ft = .byte ∨ ft = .boolean := of_decide_eq_true x2
      rcases x2 with rfl | rfl
      · exact mm_T_step hd rfl (by rw [mm_stp_m rfl]; unfold mm_mem; dsimp only; unfold mm_bstS; dsimp only; rw [x1]; dsimp only; unfold mm_astS; dsimp only; rw [x1]; dsimp only; rw [if_pos ⟨rfl, rfl, x3, x4⟩, x5]) (se_go_ok (cb := cb) (sb := sb) k1 hG hρ he hfull htl hlen hgl k2 k3)
      · exact mm_T_step hd rfl (by rw [mm_stp_m rfl]; unfold mm_mem; dsimp only; unfold mm_bstS; dsimp only; rw [x1]; dsimp only; unfold mm_astS; dsimp only; rw [x1]; dsimp only; rw [if_pos ⟨rfl, rfl, x3, x4⟩, x5]) (se_go_ok (cb := cb) (sb := sb) k1 hG hρ he hfull htl hlen hgl k2 k3)
    | lastore =>
      unfold se_step at h
      dsimp only [se_b2, se_u1, se_lo1, se_st1, se_lg] at h
      obtain ⟨x, j, q, xs, rc, rfl, rfl, x1, x3, x4, M2, L2, st2, k1, k2, k3⟩ := se_astl_ok hJ hkx h he hX hst
      exact mm_T_step hd rfl (by rw [mm_stp_m rfl]; unfold mm_mem; dsimp only; unfold mm_astlS; dsimp only; rw [x1]; dsimp only; rw [if_pos ⟨rfl, rfl, x3, x4⟩]) (se_go_ok (cb := cb) (sb := sb) k1 hG hρ he hfull htl hlen hgl k2 k3)
    | arraylength =>
      unfold se_step at h
      dsimp only [se_b2, se_u1, se_lo1, se_st1, se_lg] at h
      split at h
      · next r s =>
        split at h
        · next t et =>
          split at h
          · next ft n segs en =>
            split at h
            · next e1 =>
              obtain ⟨rfl, e2, e3⟩ := e1
              have hq := sx_r2_cons hst; clear hst; obtain ⟨b1, rc, rfl, g1, hst⟩ := hq
              obtain ⟨q, rfl, hq⟩ := se_ref he g1 et
              obtain ⟨xs, x1, x2, x3⟩ := se_tc_arr hX.2.2.2.2.2.1 hq en
              subst x2
              exact mm_T_step hd rfl (by rw [mm_stp_m rfl]; unfold mm_mem; dsimp only; unfold mm_alenS; dsimp only; rw [x1]; rfl) (se_go_ok (cb := cb) (sb := sb) h hG hρ he hfull htl hlen hgl (se_r2c (w := .int (Int32.ofNat xs.length)) (by rw [se_v_c, Int32.ofInt_eq_ofNat]) hst) hX)
            · cases h
          · cases h
        · cases h
      · cases h
    | ireturn =>
      unfold se_step at h
      dsimp only [se_b2, se_u1, se_lo1, se_st1, se_lg] at h
      exact se_ret_ok rfl hd h hG hρ (by omega) he hst hX
    | areturn =>
      unfold se_step at h
      dsimp only [se_b2, se_u1, se_lo1, se_st1, se_lg] at h
      exact se_ret_ok rfl hd h hG hρ (by omega) he hst hX
    | lreturn =>
      unfold se_step at h
      dsimp only [se_b2, se_u1, se_lo1, se_st1, se_lg] at h
      exact se_ret_ok rfl hd h hG hρ (by omega) he hst hX
    | return_ =>
      unfold se_step at h
      dsimp only [se_b2, se_u1, se_lo1, se_st1, se_lg] at h
      exact se_ret_ok rfl hd h hG hρ (by omega) he hst hX
    | invokevirtual idx =>
      unfold se_step at h
      dsimp only [se_b2, se_u1, se_lo1, se_st1, se_lg] at h
      exact se_cal_ok hl1 hC hdl (Or.inl ⟨rfl, rfl⟩) hd (sx_ckp hck rfl) h hG hρ he hfull htl hlen hgl hst hX
    | invokestatic idx =>
      unfold se_step at h
      dsimp only [se_b2, se_u1, se_lo1, se_st1, se_lg] at h
      split at h
      · next e0 =>
        split at h
        · next w v r =>
          split at h
          · next e1 =>
            obtain ⟨rfl, e2, e3, e4⟩ := e1
            have hq := sx_r2_cons hst; clear hst; obtain ⟨b1, rc, rfl, g1, hst⟩ := hq
            have hq := sx_r2_cons hst; clear hst; obtain ⟨b2, rc, rfl, g2, hst⟩ := hq
            obtain ⟨bb, rfl, -⟩ := se_int he g1 e3
            obtain ⟨aa, rfl, -⟩ := se_int he g2 e2
            have e4 := Nat.le_of_ble_eq_true e4
            rw [← se_cats_ok he hst] at e4
            rcases e0 with rfl | rfl
            · obtain ⟨ds2, w2, δ, k1, k2, k3⟩ := se_bin_ok h he g2 g1 (by decide) (by decide)
              obtain ⟨pl, hlk⟩ := sx_pl_ok (sx_ckp hck rfl) (by decide)
              exact mm_T_step hd rfl (mm_sp13 hlk e4) (se_go_ok (cb := cb) (sb := sb) k1 hG (se_pre hρ δ) k2 hfull htl hlen (se_gl_app hgl δ) (se_r2c k3 (se_sv_app δ hst)) (se_X_app hX δ))
            · obtain ⟨ds2, w2, δ, k1, k2, k3⟩ := se_bin_ok h he g2 g1 (by decide) (by decide)
              obtain ⟨pl, hlk⟩ := sx_pl_ok (sx_ckp hck rfl) (by decide)
              exact mm_T_step hd rfl (mm_sp14 hlk e4) (se_go_ok (cb := cb) (sb := sb) k1 hG (se_pre hρ δ) k2 hfull htl hlen (se_gl_app hgl δ) (se_r2c k3 (se_sv_app δ hst)) (se_X_app hX δ))
          · cases h
        · cases h
      · split at h
        · next e0 =>
          subst e0
          obtain ⟨n, dp, dq, sp, sq, xs, ys, rc, rfl, rfl, c1, c2, c3, c4, c5, c6, c7, c8, c9, c10, M2, st2, k1, k2, k3⟩ := se_acp_ok hJ hkx h he hX hst
          obtain ⟨pl, hlk⟩ := sx_pl_ok (sx_ckp hck rfl) (by decide)
          exact mm_T_step hd rfl (by
            rw [mm_stp_m rfl]
            unfold mm_mem
            dsimp only
            rw [mm_sp9 hlk, if_pos ⟨rfl, rfl⟩, c1, c2]
            dsimp only
            rw [if_pos ⟨c3, c4, c5, rfl, rfl, c6, c7, c8, c9, c10.1, c10.2⟩]) (se_go_ok (cb := cb) (sb := sb) k1 hG hρ he hfull htl hlen hgl k2 k3)
        · exact se_cal_ok hl1 hC hdl (Or.inr ⟨rfl, rfl⟩) hd (sx_ckp hck rfl) h hG hρ he hfull htl hlen hgl hst hX
    | _ => cases h
