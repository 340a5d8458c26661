/-! ===== runs from cut to cut: a node found in a state ===== -/
theorem se_ofInt_sc (a z c : Int) : Int32.ofInt (a * (Int32.ofInt z).toInt + c) = Int32.ofInt (a * z + c) := by
  rw [Int32.ofInt_add, Int32.ofInt_mul, Int32.ofInt_toInt, ← Int32.ofInt_mul, ← Int32.ofInt_add]
/-- a times a value, and c -/
def se_mul (a c : Int) : Value → Value
  | .int n => .int (Int32.ofInt (a * n.toInt + c))
  | u => u
theorem se_v_mul {ρ : List Value} {v : se_V} {u : Value} (h : ρ[v.2.1]? = some u) (hv : v.1 ≠ 0) : se_v ρ v = some (se_mul v.1 v.2.2 u) := by
  unfold se_v
  rw [if_neg hv, h]
  cases u <;> rfl
theorem se_v_scale {ρ : List Value} {w : se_V} {u : Value} (hw : se_v ρ w = some u) {a c : Int} (ha : a ≠ 0) : se_v ρ (a * w.1, w.2.1, a * w.2.2 + c) = some (se_mul a c u) := by
  by_cases e : w.1 = 0
  · unfold se_v at hw
    rw [if_pos e] at hw
    cases hw
    rw [e, Int.mul_zero, se_v_c]
    show _ = some (Value.int _)
    rw [se_ofInt_sc]
  · have hne : a * w.1 ≠ 0 := Int.mul_ne_zero ha e
    cases hr : ρ[w.2.1]? with
    | none => unfold se_v at hw; rw [if_neg e, hr] at hw; cases hw
    | some r =>
      rw [se_v_mul hr e] at hw
      cases hw
      rw [se_v_mul (v := (a * w.1, w.2.1, a * w.2.2 + c)) hr hne]
      cases r with
      | int n =>
        show some (Value.int (Int32.ofInt (a * w.1 * n.toInt + (a * w.2.2 + c)))) = some (Value.int (Int32.ofInt (a * (Int32.ofInt (w.1 * n.toInt + w.2.2)).toInt + c)))
        rw [se_ofInt_sc, Int.mul_add, Int.mul_assoc, Int.add_assoc]
      | _ => rfl
section SEK
variable {ty : Nat → Option Nat} {tt : Nat → se_Ty} {W Z : se_W} {tw : Nat} {J : List mm_C → Prop} {m0 : List mm_C} {ρ τ : List Value} {ds : List se_D} {y : Nat} {M : se_M} {P : se_P} {mc : List mm_C} {l : List se_S} {σ : List se_V} {lvs : List (Option se_V)}
theorem se_sb_ok {β : Type} {v : se_V} {z r : β} {k : se_V → β} (h : sx_r2 (se_sv ρ) σ τ) (hr : se_sb σ v z k = r) (hz : z ≠ r) : ∃ w x, k w = r ∧ se_v ρ w = some x ∧ se_v τ v = some x := by
  unfold se_sb at hr
  split at hr
  · next e =>
    exact ⟨v, .int (Int32.ofInt v.2.2), hr, by unfold se_v; rw [if_pos e], by unfold se_v; rw [if_pos e]⟩
  · next e =>
    split at hr
    · next w hw =>
      rw [se_vK_eq] at hr
      obtain ⟨u, u1, u2⟩ := sx_r2_get h hw
      exact ⟨_, _, hr, se_v_scale u2 e, se_v_mul u1 e⟩
    · exact absurd hr hz
theorem se_eqs_ok {v w : se_V} (h : sx_r2 (se_sv ρ) σ τ) (hq : se_eqs σ v w = true) : ∃ x, se_v ρ w = some x ∧ se_v τ v = some x := by
  obtain ⟨w', x, h1, h2, h3⟩ := se_sb_ok h hq (by decide)
  rw [se_eq_ok h1] at h2
  exact ⟨x, h2, h3⟩
theorem se_lvq_ok (h : sx_r2 (se_sv ρ) σ τ) : ∀ {nlv lvs : List (Option se_V)}, se_lvq σ nlv lvs = true → ∀ (i : Nat) (v : se_V), nlv[i]? = some (some v) → ∃ w x, lvs[i]? = some (some w) ∧ se_v ρ w = some x ∧ se_v τ v = some x
  | [], lvs, _, i, v, hi => by simp at hi
  | none :: t, lvs, hq, i, v, hi => by
    cases i with
    | zero => simp at hi
    | succ i =>
      obtain ⟨w, x, h1, h2⟩ := se_lvq_ok h (show se_lvq σ t lvs.tail = true from hq) i v (by simpa using hi)
      refine ⟨w, x, ?_, h2⟩
      cases lvs with
      | nil => simp at h1
      | cons a b => simpa using h1
  | some u :: t, some w :: lvs, hq, i, v, hi => by
    have hq : (se_eqs σ u w && se_lvq σ t lvs) = true := hq
    rw [Bool.and_eq_true] at hq
    cases i with
    | zero =>
      simp at hi
      subst hi
      obtain ⟨x, h1, h2⟩ := se_eqs_ok h hq.1
      exact ⟨w, x, by simp, h1, h2⟩
    | succ i =>
      obtain ⟨w', x, h1, h2⟩ := se_lvq_ok h hq.2 i v (by simpa using hi)
      exact ⟨w', x, by simpa using h1, h2⟩
  | some _ :: _, [], hq, _, _, _ => by cases hq
  | some _ :: _, none :: _, hq, _, _, _ => by cases hq
theorem se_Mq_ok (h : sx_r2 (se_sv ρ) σ τ) (hM : se_mf ρ M mc) : ∀ {N : se_M}, se_Mq σ M N = true → se_mf τ N mc
  | [], _ => fun e he => absurd he List.not_mem_nil
  | e :: t, hq => by
    have hq : (se_sb σ e.1 false (fun r => se_sb σ e.2.1 false (fun i => match se_find M r i with
      | some w => se_eqs σ e.2.2 w
      | none => false)) && se_Mq σ M t) = true := hq
    rw [Bool.and_eq_true] at hq
    intro f hf
    rcases List.mem_cons.mp hf with rfl | hf
    · obtain ⟨r, xr, h1, h2, h3⟩ := se_sb_ok h hq.1 (by decide)
      obtain ⟨i, xi, k1, k2, k3⟩ := se_sb_ok h h1 (by decide)
      split at k1
      · next w ew =>
        obtain ⟨q, j, x, g1, g2, g3, g4, g5⟩ := hM _ (se_find_ok ew)
        dsimp only at g1 g2 g4
        rw [h2] at g1
        cases g1
        rw [k2] at g2
        cases g2
        obtain ⟨x', z1, z2⟩ := se_eqs_ok h k1
        rw [g4] at z1
        cases z1
        exact ⟨q, j, x, h3, k3, g3, z2, g5⟩
      · cases k1
    · exact se_Mq_ok h hM hq.2 f hf
theorem se_ent_ok {c : Jvm.ClassFile.Cond} {x w : se_V} {vx vy : Value} (h : se_ent ds P c x w = true) (he : se_env ty ρ ds) (hp : se_pf ρ P) (hx : se_v ρ x = some vx) (hy : se_v ρ w = some vy) : ∃ a b, vx = .int a ∧ vy = .int b ∧ mm_P2 c a b = true := by
  unfold se_ent at h
  split at h
  · obtain ⟨a, b, rfl, rfl, q⟩ := se_lub_ok he hp h hx hy
    exact ⟨a, b, rfl, rfl, decide_eq_true (Int32.le_iff_toInt_le.mpr (by omega))⟩
  · obtain ⟨a, b, rfl, rfl, q⟩ := se_lub_ok he hp h hx hy
    exact ⟨a, b, rfl, rfl, decide_eq_true (Int32.lt_iff_toInt_lt.mpr (by omega))⟩
  · obtain ⟨a, b, rfl, rfl, q⟩ := se_lub_ok he hp h hy hx
    exact ⟨b, a, rfl, rfl, decide_eq_true (Int32.le_iff_toInt_le.mpr (by omega))⟩
  · obtain ⟨a, b, rfl, rfl, q⟩ := se_lub_ok he hp h hy hx
    exact ⟨b, a, rfl, rfl, decide_eq_true (Int32.lt_iff_toInt_lt.mpr (by omega))⟩
  · rw [Bool.and_eq_true] at h
    obtain ⟨a, b, rfl, rfl, q⟩ := se_lub_ok he hp h.1 hx hy
    obtain ⟨b', a', eb, ea, q'⟩ := se_lub_ok he hp h.2 hy hx
    cases ea
    cases eb
    have : a = b := Int32.toInt_inj.mp (by omega)
    subst this
    exact ⟨a, a, rfl, rfl, by simp [mm_P2]⟩
  · rw [Bool.or_eq_true] at h
    rcases h with h | h
    · obtain ⟨a, b, rfl, rfl, q⟩ := se_lub_ok he hp h hx hy
      have : a ≠ b := fun e => by rw [e] at q; omega
      exact ⟨a, b, rfl, rfl, by simp [mm_P2, this]⟩
    · obtain ⟨a, b, rfl, rfl, q⟩ := se_lub_ok he hp h hy hx
      have : b ≠ a := fun e => by rw [e] at q; omega
      exact ⟨b, a, rfl, rfl, by simp [mm_P2, this]⟩
theorem se_Pq_ok (h : sx_r2 (se_sv ρ) σ τ) (he : se_env ty ρ ds) (hp : se_pf ρ P) : ∀ {N : se_P}, se_Pq ds P σ N = true → se_pf τ N
  | [], _ => fun e he => absurd he List.not_mem_nil
  | e :: t, hq => by
    have hq : (se_sb σ e.2.1 false (fun x => se_sb σ e.2.2 false (fun y => se_ent ds P e.1 x y)) && se_Pq ds P σ t) = true := hq
    rw [Bool.and_eq_true] at hq
    intro f hf
    rcases List.mem_cons.mp hf with rfl | hf
    · obtain ⟨r, xr, h1, h2, h3⟩ := se_sb_ok h hq.1 (by decide)
      obtain ⟨i, xi, k1, k2, k3⟩ := se_sb_ok h h1 (by decide)
      obtain ⟨a, b, rfl, rfl, q⟩ := se_ent_ok k1 he hp h2 k2
      exact ⟨a, b, h3, k3, q⟩
    · exact se_Pq_ok h he hp hq.2 f hf
theorem se_nrK_ok {v : se_V} {κ : se_K} {x : Value} {k : List se_D → se_R} (h : se_nrK ds P v κ k = some l) (he : se_env ty ρ ds) (hp : se_pf ρ P) (hv : se_v ρ v = some x) : ∃ ds', k ds' = some l ∧ se_env ty ρ ds' ∧ se_k ty κ x := by
  unfold se_nrK at h
  split at h
  · next e => exact ⟨ds, h, he, se_is_ok e he hv⟩
  · next e =>
    split at h
    · next e2 =>
      have hk := se_isP_ok e2 he hp hv
      have h0 : κ.1 = 0 := by
        unfold se_isP at e2
        rw [Bool.or_eq_true] at e2
        rcases e2 with e2 | e2
        · exact absurd e2 e
        · rw [Bool.and_eq_true] at e2
          exact Nat.eq_of_beq_eq_true e2.1
      have hk2 := hk
      unfold se_k at hk2
      rw [h0] at hk2
      obtain ⟨n, rfl, a1, a2⟩ := hk2
      obtain ⟨ds', g1, g2⟩ := se_cut_ok h he hv a1 a2
      exact ⟨ds', g1, g2, hk⟩
    · cases h
theorem se_v_plus {v : se_V} {p : Int32} (c : Int) (h : se_v ρ v = some (.int p)) : se_v ρ (v.1, v.2.1, v.2.2 + c) = some (.int (p + Int32.ofInt c)) := by
  unfold se_v at h ⊢
  dsimp only
  split at h
  · next e =>
    rw [if_pos e]
    cases h
    rw [Int32.ofInt_add]
  · next e =>
    rw [if_neg e]
    split at h
    · next x hx =>
      cases h
      rw [← Int32.ofInt_add, Int.add_assoc]
    · next o ho =>
      exact absurd h (ho p)
theorem se_fd2_ok {o : Nat} {u v w : se_V} {a b : Int32} (h : se_fd2 ds o u v = some w) (he : se_env ty ρ ds) (hu : se_v ρ u = some (.int a)) (hv : se_v ρ v = some (.int b)) : se_v ρ w = some (.int (se_op o a b)) := by
  unfold se_fd2 at h
  split at h
  · split at h
    · next e1 =>
      split at h
      · next n en =>
        cases h
        obtain ⟨d, d1, d2, d3, d4, d5⟩ := se_fdd_ok en
        rw [Nat.sub_zero] at d1
        obtain ⟨x, w1, w2⟩ := he.2 _ _ d1
        obtain ⟨va, vb, x1, x2, x3⟩ := w2.2 (by omega)
        rw [d4, hu] at x1
        cases x1
        rw [d5] at x2
        have hvv : v = (1, v.2.1, 0 + v.2.2) := by
          obtain ⟨v1, v2, v3⟩ := v
          have : v1 = 1 := e1
          subst this
          simp
        cases vb with
        | int t =>
          have h2 := se_v_plus v.2.2 x2
          dsimp only at h2
          rw [← hvv, hv] at h2
          cases h2
          rw [d3] at x3
          cases x3
          have h3 := se_v_plus (v := (1, n, 0)) v.2.2 (show se_v ρ (1, n, 0) = some (.int (a + t)) by
            rw [se_v_mul (v := (1, n, 0)) w1 (by decide : (1 : Int) ≠ 0)]
            show some (Value.int _) = _
            simp
            rfl)
          rw [Int.zero_add] at h3
          rw [h3]
          show some (Value.int (a + t + Int32.ofInt v.2.2)) = some (Value.int (a + (t + Int32.ofInt v.2.2)))
          rw [Int32.add_assoc]
        | _ =>
          rw [d3] at x3
          cases x3
      · cases h
    · cases h
  · split at h
    · next e1 =>
      split at h
      · next κ a' b' hd =>
        split at h
        · next e2 =>
          cases h
          have e2 := se_eq_ok e2
          subst e2
          obtain ⟨x, w1, w2⟩ := he.2 _ _ hd
          obtain ⟨va, vb, x1, x2, x3⟩ := w2.2 (fun q => Nat.noConfusion q)
          dsimp only at x1 x2 x3
          rw [hv] at x1
          cases x1
          have huu : u = (1, u.2.1, 0 + u.2.2) := by
            obtain ⟨v1, v2, v3⟩ := u
            have : v1 = 1 := e1
            subst this
            simp
          cases vb with
          | int t =>
            cases x3
            have h3 := se_v_plus (v := (1, u.2.1, 0)) u.2.2 (show se_v ρ (1, u.2.1, 0) = some (.int (b + t)) by
              rw [se_v_mul (v := (1, u.2.1, 0)) w1 (by decide : (1 : Int) ≠ 0)]
              show some (Value.int _) = _
              simp
              rfl)
            dsimp only at h3
            rw [← huu, hu] at h3
            cases h3
            rw [se_v_plus u.2.2 x2]
            show some (Value.int (t + Int32.ofInt u.2.2)) = some (Value.int (b + t + Int32.ofInt u.2.2 - b))
            rw [show b + t + Int32.ofInt u.2.2 = t + Int32.ofInt u.2.2 + b by rw [Int32.add_comm b t, Int32.add_assoc, Int32.add_comm b, ← Int32.add_assoc], Int32.add_sub_cancel]
          | _ => cases x3
        · cases h
      · cases h
    · cases h
  · cases h
theorem se_cse_ok {o : Nat} {u v : se_V} {k : List se_D → se_V → se_R} (h : se_cse ds o u v k = some l) (he : se_env ty ρ ds) {xu xv : Value} (hu : se_v ρ u = some xu) (hv : se_v ρ v = some xv) : ∃ ds' w δ z, k ds' w = some l ∧ se_env ty (ρ ++ δ) ds' ∧ se_v (ρ ++ δ) w = some z ∧ se_opv o xu xv = some z ∧ o ≠ 0 := by
  unfold se_cse at h
  split at h
  · next e =>
    rw [Bool.and_eq_true, Bool.and_eq_true, Bool.and_eq_true] at e
    obtain ⟨⟨e1, e2⟩, e3, e4⟩ := e
    have e3 := Nat.le_of_ble_eq_true e3
    have e4 := Nat.le_of_ble_eq_true e4
    obtain ⟨a, rfl, _⟩ := se_int he hu (Nat.eq_of_beq_eq_true e1)
    obtain ⟨b, rfl, _⟩ := se_int he hv (Nat.eq_of_beq_eq_true e2)
    have hop : se_opv o (.int a) (.int b) = some (.int (se_op o a b)) := if_neg (by omega)
    split at h
    · next n en =>
      rw [sx_nK_eq] at h
      obtain ⟨d, d1, d2, d3, d4, d5⟩ := se_fdd_ok en
      rw [Nat.sub_zero] at d1
      obtain ⟨w, w1, w2⟩ := he.2 _ _ d1
      obtain ⟨va, vb, x1, x2, x3⟩ := w2.2 (by omega)
      rw [d4, hu] at x1
      cases x1
      rw [d5, hv] at x2
      cases x2
      rw [d3, hop] at x3
      cases x3
      refine ⟨ds, (1, n, 0), [], _, h, by rw [List.append_nil]; exact he, ?_, hop, by omega⟩
      rw [List.append_nil, se_v_mul (v := (1, n, 0)) w1 (by decide : (1 : Int) ≠ 0)]
      show some (Value.int _) = _
      simp
    · split at h
      · next w hw =>
        rw [se_vK_eq] at h
        exact ⟨ds, (w.1, w.2.1, w.2.2), [], _, h, by rw [List.append_nil]; exact he, by rw [List.append_nil]; exact se_fd2_ok hw he hu hv, hop, by omega⟩
      · obtain ⟨ds', w, δ, g1, g2, g3⟩ := se_bin_ok h he hu hv (by omega) (by omega)
        exact ⟨ds', w, δ, _, g1, g2, g3, hop, by omega⟩
  · cases h
theorem se_env_snoc {D : List se_D} {d : se_D} {w : Value} (h : se_env ty τ D) (hk : se_k ty d.1 w) (ho : d.2.1 ≠ 0 → ∃ va vb, se_v τ d.2.2.1 = some va ∧ se_v τ d.2.2.2 = some vb ∧ se_opv d.2.1 va vb = some w) : se_env ty (τ ++ [w]) (D ++ [d]) := se_env_new h ⟨hk, ho⟩
theorem se_sv_snoc {v : se_V} {w : Value} (h : sx_r2 (se_sv ρ) σ τ) (hv : se_v ρ v = some w) : sx_r2 (se_sv ρ) (σ ++ [v]) (τ ++ [w]) := sx_r2_cat h ⟨hv, trivial⟩
theorem se_v_one {n : Nat} {w : Value} (h : ρ[n]? = some w) : se_v ρ (1, n, 0) = some w := by
  rw [se_v_mul (v := (1, n, 0)) h (by decide : (1 : Int) ≠ 0)]
  cases w with
  | int x => show some (Value.int _) = _; simp
  | _ => rfl
theorem se_mt_ok (htm : se_tm ty tt mc) : ∀ (T : se_T) {ρ τ : List Value} {ds D0 : List se_D} {M : se_M} {σ : List se_V} {k : List se_D → se_M → List se_V → se_R}, se_mt tt lvs P T ds M σ k = some l → se_env ty ρ ds → se_pf ρ P → se_mf ρ M mc → (∀ i v, se_ld lvs i = some v → ∃ x, se_v ρ v = some x) → sx_r2 (se_sv ρ) σ τ → se_env ty τ D0 → ∃ δ ds' M' σ' τ', k ds' M' σ' = some l ∧ se_env ty (ρ ++ δ) ds' ∧ se_mf (ρ ++ δ) M' mc ∧ sx_r2 (se_sv (ρ ++ δ)) σ' (τ ++ τ') ∧ se_env ty (τ ++ τ') (D0 ++ T.map Prod.fst) := by
  intro T
  induction T with
  | nil =>
    intro ρ τ ds D0 M σ k h he hp hM hl hσ hτ
    exact ⟨[], ds, M, σ, [], h, by rw [List.append_nil]; exact he, by rw [List.append_nil]; exact hM, by rw [List.append_nil, List.append_nil]; exact hσ, by simpa using hτ⟩
  | cons e T ih =>
    obtain ⟨d, s⟩ := e
    intro ρ τ ds D0 M σ k h he hp hM hl hσ hτ
    have fin : ∀ {δ : List Value} {ds1 : List se_D} {M1 : se_M} {v : se_V} {w : Value}, se_mt tt lvs P T ds1 M1 (σ ++ [v]) k = some l → se_env ty (ρ ++ δ) ds1 → se_mf (ρ ++ δ) M1 mc → se_v (ρ ++ δ) v = some w → se_k ty d.1 w → (d.2.1 ≠ 0 → ∃ va vb, se_v τ d.2.2.1 = some va ∧ se_v τ d.2.2.2 = some vb ∧ se_opv d.2.1 va vb = some w) → ∃ δ ds' M' σ' τ', k ds' M' σ' = some l ∧ se_env ty (ρ ++ δ) ds' ∧ se_mf (ρ ++ δ) M' mc ∧ sx_r2 (se_sv (ρ ++ δ)) σ' (τ ++ τ') ∧ se_env ty (τ ++ τ') (D0 ++ ((d, s) :: T).map Prod.fst) := by
      intro δ ds1 M1 v w g1 g2 g3 g4 g5 g6
      obtain ⟨δ2, ds2, M2, σ2, τ2, k1, k2, k3, k4, k5⟩ := ih g1 g2 (se_pf_app hp δ) g3 (fun i v hv => by
        obtain ⟨x, hx⟩ := hl i v hv
        exact ⟨x, se_v_app hx δ⟩) (se_sv_snoc (se_sv_app δ hσ) g4) (se_env_snoc hτ g5 g6)
      refine ⟨δ ++ δ2, ds2, M2, σ2, w :: τ2, k1, by rw [← List.append_assoc]; exact k2, by rw [← List.append_assoc]; exact k3, ?_, ?_⟩
      · rw [← List.append_assoc]
        rw [List.append_assoc τ] at k4
        exact k4
      · rw [List.append_assoc τ, List.append_assoc D0] at k5
        exact k5
    unfold se_mt at h
    dsimp only at h
    split at h
    · split at h
      · next v ev =>
        split at h
        · next e0 =>
          obtain ⟨x, hx⟩ := hl _ _ ev
          obtain ⟨ds1, g1, g2, g3⟩ := se_nrK_ok h he hp hx
          rw [sx_appK_eq] at g1
          exact fin (δ := []) g1 (by rw [List.append_nil]; exact g2) (by rw [List.append_nil]; exact hM) (by rw [List.append_nil]; exact hx) g3 (fun z => absurd (Nat.eq_of_beq_eq_true e0) z)
        · cases h
      · cases h
    · split at h
      · next e0 =>
        obtain ⟨r, xr, h1, h2, h3⟩ := se_sb_ok hσ h (by simp)
        obtain ⟨i, xi, k1, k2, k3⟩ := se_sb_ok hσ h1 (by simp)
        split at k1
        · next u eu =>
          split at k1
          · obtain ⟨q, rfl, hq⟩ := se_ref he h2 eu
            obtain ⟨j, rfl, j1, j2, δ, ds1, M1, v, x, g1, g2, g3, g4, g5, g6⟩ := se_load_ok (tt := tt) (t := u) k1 he hp hM htm h2 hq rfl rfl k2
            obtain ⟨ds2, z1, z2, z3⟩ := se_nrK_ok g1 g2 (se_pf_app hp δ) g4
            rw [sx_appK_eq] at z1
            exact fin z1 z2 g3 g4 z3 (fun z => absurd (Nat.eq_of_beq_eq_true e0) z)
          · cases k1
        · cases k1
      · cases h
    · obtain ⟨r, xr, h1, h2, h3⟩ := se_sb_ok hσ h (by simp)
      obtain ⟨i, xi, k1, k2, k3⟩ := se_sb_ok hσ h1 (by simp)
      obtain ⟨ds1, w, δ, z, g1, g2, g3, g4, g5⟩ := se_cse_ok k1 he h2 k2
      obtain ⟨ds2, z1, z2, z3⟩ := se_nrK_ok g1 g2 (se_pf_app hp δ) g3
      rw [sx_appK_eq] at z1
      exact fin z1 z2 (se_mf_app hM δ) g3 z3 (fun _ => ⟨xr, xi, h3, k3, g4⟩)
    · split at h
      · next e0 =>
        rw [Bool.and_eq_true] at e0
        rw [sx_nK_eq] at h
        have hlt : s.2.1.2.1 < ρ.length := by
          rw [he.1]
          exact Nat.le_of_ble_eq_true e0.2
        have hx := se_v_one (List.getElem?_eq_getElem hlt)
        obtain ⟨ds1, g1, g2, g3⟩ := se_nrK_ok h he hp hx
        rw [sx_appK_eq] at g1
        exact fin (δ := []) g1 (by rw [List.append_nil]; exact g2) (by rw [List.append_nil]; exact hM) (by rw [List.append_nil]; exact hx) g3 (fun z => absurd (Nat.eq_of_beq_eq_true e0.1) z)
      · cases h
theorem se_match_ok (htm : se_tm ty tt mc) {N : se_N} {k : List se_D → se_M → List se_V → se_R} (h : se_match tt lvs P N ds M k = some l) (he : se_env ty ρ ds) (hp : se_pf ρ P) (hM : se_mf ρ M mc) (hl : ∀ i v, se_ld lvs i = some v → ∃ x, se_v ρ v = some x) : ∃ δ ds' M' σ τ, k ds' M' σ = some l ∧ se_env ty (ρ ++ δ) ds' ∧ se_mf (ρ ++ δ) M' mc ∧ sx_r2 (se_sv (ρ ++ δ)) σ τ ∧ se_env ty τ (N.1.map Prod.fst) ∧ (∀ (i : Nat) (v : se_V), N.2.1[i]? = some (some v) → ∃ w x, lvs[i]? = some (some w) ∧ se_v (ρ ++ δ) w = some x ∧ se_v τ v = some x) ∧ se_mf τ N.2.2.1 mc ∧ se_pf τ N.2.2.2 := by
  obtain ⟨δ, ds', M', σ, τ, g1, g2, g3, g4, g5⟩ := se_mt_ok (τ := []) (D0 := []) htm N.1 h he hp hM hl trivial ⟨rfl, fun k d hk => by simp at hk⟩
  rw [List.nil_append] at g4 g5
  rw [List.nil_append] at g5
  split at g1
  · next e =>
    rw [Bool.and_eq_true, Bool.and_eq_true] at e
    exact ⟨δ, ds', M', σ, τ, g1, g2, g3, g4, g5, fun i v hv => se_lvq_ok g4 e.1 i v hv, se_Mq_ok g4 g3 e.2.1, se_Pq_ok g4 g2 (se_pf_app hp δ) e.2.2⟩
  · cases g1
theorem se_addM_ok (h : sx_r2 (se_sv ρ) σ τ) (hM : se_mf ρ M mc) : ∀ {N : se_M} {k : se_M → se_R}, se_addM σ M N k = some l → se_mf τ N mc → ∃ M', k M' = some l ∧ se_mf ρ M' mc
  | [], k, hk, _ => ⟨M, hk, hM⟩
  | e :: t, k, hk, hN => by
    obtain ⟨M1, g1, g2⟩ := se_addM_ok h hM (N := t) hk (fun f hf => hN f (List.mem_cons_of_mem _ hf))
    obtain ⟨r, xr, h1, h2, h3⟩ := se_sb_ok h g1 (by simp)
    obtain ⟨i, xi, k1, k2, k3⟩ := se_sb_ok h h1 (by simp)
    obtain ⟨v, xv, z1, z2, z3⟩ := se_sb_ok h k1 (by simp)
    refine ⟨_, z1, fun f hf => ?_⟩
    rcases List.mem_cons.mp hf with rfl | hf
    · obtain ⟨q, j, x, q1, q2, q3, q4, q5⟩ := hN e List.mem_cons_self
      rw [h3] at q1
      rw [k3] at q2
      rw [z3] at q4
      cases q1
      cases q2
      cases q4
      exact ⟨q, j, _, h2, k2, q3, z2, q5⟩
    · exact g2 f hf
theorem se_addP_ok (h : sx_r2 (se_sv ρ) σ τ) (hp : se_pf ρ P) : ∀ {N : se_P} {k : se_P → se_R}, se_addP σ P N k = some l → se_pf τ N → ∃ P', k P' = some l ∧ se_pf ρ P'
  | [], k, hk, _ => ⟨P, hk, hp⟩
  | e :: t, k, hk, hN => by
    obtain ⟨P1, g1, g2⟩ := se_addP_ok h hp (N := t) hk (fun f hf => hN f (List.mem_cons_of_mem _ hf))
    obtain ⟨r, xr, h1, h2, h3⟩ := se_sb_ok h g1 (by simp)
    obtain ⟨i, xi, k1, k2, k3⟩ := se_sb_ok h h1 (by simp)
    refine ⟨_, k1, fun f hf => ?_⟩
    rcases List.mem_cons.mp hf with rfl | hf
    · obtain ⟨a, b, q1, q2, q3⟩ := hN e List.mem_cons_self
      rw [h3] at q1
      rw [k3] at q2
      cases q1
      cases q2
      exact ⟨a, b, h2, k2, q3⟩
    · exact g2 f hf
theorem se_exd_ok : ∀ (T : se_T) {ρ τ δ : List Value} {ds : List se_D} {σ : List se_V} {k : List se_D → List se_V → se_R}, se_exd T ds σ k = some l → se_env ty ρ ds → sx_r2 (se_sv ρ) σ τ → δ.length = T.length → (∀ (i : Nat) (e : se_D × se_Sr) (w : Value), T[i]? = some e → δ[i]? = some w → se_dok ty (τ ++ δ) e.1 w) → ∃ ds' σ', k ds' σ' = some l ∧ se_env ty (ρ ++ δ) ds' ∧ sx_r2 (se_sv (ρ ++ δ)) σ' (τ ++ δ) := by
  intro T
  induction T with
  | nil =>
    intro ρ τ δ ds σ k h he hσ hl _
    have : δ = [] := List.length_eq_zero_iff.mp hl
    subst this
    exact ⟨ds, σ, h, by rw [List.append_nil]; exact he, by rw [List.append_nil, List.append_nil]; exact hσ⟩
  | cons e T ih =>
    obtain ⟨d, s⟩ := e
    intro ρ τ δ ds σ k h he hσ hl hd
    cases δ with
    | nil => cases hl
    | cons w δ =>
      have hw := hd 0 (d, s) w rfl rfl
      have fin : ∀ {o : Nat} {x y : se_V}, sx_appK σ (1, ds.length, 0) (fun σ => se_exd T (ds ++ [((d.1.1, d.1.2.1, d.1.2.2), o, x, y)]) σ k) = some l → se_dok ty ρ (d.1, o, x, y) w → ∃ ds' σ', k ds' σ' = some l ∧ se_env ty (ρ ++ w :: δ) ds' ∧ sx_r2 (se_sv (ρ ++ w :: δ)) σ' (τ ++ w :: δ) := by
        intro o x y g1 g2
        rw [sx_appK_eq] at g1
        have hn : se_v (ρ ++ [w]) (1, ds.length, 0) = some w := by rw [← he.1]; exact se_v_new ρ w
        obtain ⟨ds', σ', z1, z2, z3⟩ := ih (δ := δ) g1 (se_env_new he g2) (se_sv_snoc (se_sv_app [w] hσ) hn) (by simpa using hl) (fun i e u h1 h2 => by
          have := hd (i + 1) e u (by simpa using h1) (by simpa using h2)
          rw [List.append_assoc]
          exact this)
        refine ⟨ds', σ', z1, ?_, ?_⟩
        · rw [List.append_assoc] at z2
          exact z2
        · rw [List.append_assoc, List.append_assoc] at z3
          exact z3
      unfold se_exd at h
      split at h
      · rw [se_new_eq] at h
        exact fin h (se_dok0 hw.1)
      · next e0 =>
        obtain ⟨r, xr, h1, h2, h3⟩ := se_sb_ok hσ h (by simp)
        obtain ⟨i, xi, k1, k2, k3⟩ := se_sb_ok hσ h1 (by simp)
        rw [se_new_eq] at k1
        refine fin k1 ⟨hw.1, fun z => ?_⟩
        obtain ⟨va, vb, x1, x2, x3⟩ := hw.2 z
        rw [se_v_app h3] at x1
        rw [se_v_app k3] at x2
        cases x1
        cases x2
        exact ⟨xr, xi, h2, k2, x3⟩
theorem se_exs_ok {kk : List se_D → se_M → se_P → Option se_V → se_R} (he : se_env ty ρ ds) (hp : se_pf ρ P) (hM : se_mf ρ M mc) (hσ : sx_r2 (se_sv ρ) σ τ) {e : se_E} {δ : List Value} (hδ : δ.length = e.1.length) (hd : ∀ (i : Nat) (f : se_D × se_Sr) (w : Value), e.1[i]? = some f → δ[i]? = some w → se_dok ty (τ ++ δ) f.1 w) (hm : se_mf (τ ++ δ) e.2.2.1 mc) (hpf : se_pf (τ ++ δ) e.2.2.2) : ∀ {es : List se_E} {l : List se_S}, se_exs ds M P σ kk es = some l → e ∈ es → ∃ l' ds' M' P' v', kk ds' M' P' v' = some l' ∧ (∀ S ∈ l', S ∈ l) ∧ se_env ty (ρ ++ δ) ds' ∧ se_mf (ρ ++ δ) M' mc ∧ se_pf (ρ ++ δ) P' ∧ (e.2.1 = none → v' = none) ∧ ∀ rv, e.2.1 = some rv → ∃ w x, v' = some w ∧ se_v (ρ ++ δ) w = some x ∧ se_v (τ ++ δ) rv = some x
  | [], l, _, hin => absurd hin List.not_mem_nil
  | f :: t, l, h, hin => by
    unfold se_exs at h
    obtain ⟨a, b, g1, g2, rfl⟩ := se_both_inv h
    rcases List.mem_cons.mp hin with rfl | hin
    · obtain ⟨ds1, σ1, k1, k2, k3⟩ := se_exd_ok _ g1 he hσ hδ hd
      obtain ⟨M1, z1, z2⟩ := se_addM_ok k3 (se_mf_app hM δ) k1 hm
      obtain ⟨P1, q1, q2⟩ := se_addP_ok k3 (se_pf_app hp δ) z1 hpf
      split at q1
      · next rv erv =>
        obtain ⟨w, x, w1, w2, w3⟩ := se_sb_ok k3 q1 (by simp)
        refine ⟨a, ds1, M1, P1, some w, w1, fun S hS => List.mem_append_left _ hS, k2, z2, q2, fun z => (by rw [z] at erv; cases erv), fun rv' z => ?_⟩
        rw [z] at erv
        cases erv
        exact ⟨w, x, rfl, w2, w3⟩
      · next erv =>
        exact ⟨a, ds1, M1, P1, none, q1, fun S hS => List.mem_append_left _ hS, k2, z2, q2, fun _ => rfl, fun rv' z => (by rw [z] at erv; cases erv)⟩
    · obtain ⟨l', ds1, M1, P1, v1, z1, z2, z3⟩ := se_exs_ok he hp hM hσ hδ hd hm hpf g2 hin
      exact ⟨l', ds1, M1, P1, v1, z1, fun S hS => List.mem_append_right _ (z2 S hS), z3⟩
end SEK
