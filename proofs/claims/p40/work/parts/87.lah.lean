/-! ===== the law's loop ===== -/
theorem la_alk {ty : Nat → Option Nat} : ∀ {r : List se_K} {y : Nat → Int32}, la_al r y → ∀ (c : Nat) (k : se_K), r[c]? = some k → se_k ty k (.int (y c))
  | [], y, _, c, k, hk => by simp at hk
  | a :: r, y, hy, c, k, hk => by
    cases c with
    | zero =>
      simp at hk
      subst hk
      obtain ⟨k1, k2, k3⟩ := hy.1
      unfold se_k
      rw [k1]
      exact ⟨_, rfl, k2, k3⟩
    | succ c =>
      simp only [List.getElem?_cons_succ] at hk
      exact la_alk hy.2 c k hk
theorem la_alof : ∀ {r : List se_K} {y : Nat → Int32}, (∀ (c : Nat) (k : se_K), r[c]? = some k → la_in k (y c)) → la_al r y
  | [], _, _ => trivial
  | a :: r, y, h => ⟨h 0 a rfl, la_alof (fun c k hk => h (c + 1) k (by simpa using hk))⟩
def la_xv (x : Nat → Int32) : List Value := [.int (x 0), .int (x 1), .int (x 2), .int (x 3), .int (x 4)]
theorem la_xv_at (x : Nat → Int32) {c : Nat} (h : c < 5) : (la_xv x)[c]? = some (.int (x c)) := by
  match c, h with
  | 0, _ => rfl
  | 1, _ => rfl
  | 2, _ => rfl
  | 3, _ => rfl
  | 4, _ => rfl
  | c + 5, h => omega
theorem la_pkl : la_pk.length = la_np := rfl
theorem la_vkl : la_vk.length = la_nR := rfl
theorem la_R0l : la_R0.2.map Prod.fst = la_vk := rfl
theorem la_vk0 : ∀ k : Nat, ∀ κ, la_vk[k]? = some κ → κ.1 = 0 := fun k κ h => by
  have := List.all_eq_true.mp (show la_vk.all (fun κ => Nat.beq κ.1 0) = true by decide +kernel) κ (List.mem_of_getElem? h)
  exact Nat.eq_of_beq_eq_true this
/-- the relation's values -/
def la_v (τ : List Value) (k : Nat) : Int32 := match τ[la_np + k]? with
  | some (.int n) => n
  | _ => 0
theorem la_v_ok {ty : Nat → Option Nat} {τ : List Value} {m : List mm_C} (h : la_T ty la_pk la_R0 τ m) : la_al la_vk (la_v τ) ∧ ∀ k, k < la_nR → τ[la_np + k]? = some (.int (la_v τ k)) := by
  obtain ⟨h1, -⟩ := h
  unfold la_ds0 at h1
  rw [la_R0l, la_env_k] at h1
  have key : ∀ k κ, la_vk[k]? = some κ → ∃ n : Int32, τ[la_np + k]? = some (.int n) ∧ la_in κ n := by
    intro k κ hk
    obtain ⟨w, w1, w2⟩ := h1.2 (la_np + k) κ (by rw [← la_pkl, List.getElem?_append_right (by omega), Nat.add_sub_cancel_left]; exact hk)
    have k0 := la_vk0 k κ hk
    unfold se_k at w2
    rw [k0] at w2
    obtain ⟨n, rfl, n1, n2⟩ := w2
    exact ⟨n, w1, k0, n1, n2⟩
  refine ⟨la_alof (fun k κ hk => ?_), fun k hk => ?_⟩
  · obtain ⟨n, n1, n2⟩ := key k κ hk
    unfold la_v
    rw [n1]
    exact n2
  · obtain ⟨n, n1, n2⟩ := key k _ (List.getElem?_eq_getElem (show k < la_vk.length by rw [la_vkl]; exact hk))
    unfold la_v
    rw [n1]
theorem la_g_eq : la_g = la_np + la_nR := rfl
/-- the values that a context makes of the relation's and the script's -/
def la_dv (D : List (Nat × Nat)) (x v : Nat → Int32) : List Value := D.map (fun e => .int (v e.1 - x e.2))
theorem la_cx_ok {ty : Nat → Option Nat} {τ : List Value} {m : List mm_C} {x : Nat → Int32} {c : la_cx} (h : la_T ty la_pk la_R0 τ m) (hl : c.1.length = la_nR ∧ c.2.1.length = 5) (h1 : la_al c.1 (la_v τ)) (h2 : la_al c.2.1 x) (h3 : la_pfx c x (la_v τ)) (hb : la_cxw c = true) : se_env ty (τ ++ la_xv x ++ la_dv c.2.2.1 x (la_v τ)) (la_cds c) ∧ se_pf (τ ++ la_xv x ++ la_dv c.2.2.1 x (la_v τ)) (la_cP c) := by
  obtain ⟨-, hv⟩ := la_v_ok h
  obtain ⟨g1, -⟩ := h
  unfold la_ds0 at g1
  rw [la_R0l, la_env_k] at g1
  obtain ⟨g1, g2⟩ := g1
  rw [List.length_append, la_pkl, la_vkl] at g1
  unfold la_cxw at hb
  rw [Bool.and_eq_true] at hb
  obtain ⟨hbD, hbP⟩ := hb
  have hxl : (la_xv x).length = 5 := rfl
  have hx : ∀ k, k < 5 → (τ ++ la_xv x)[la_g + k]? = some (.int (x k)) := fun k hk => by
    rw [List.getElem?_append_right (by rw [g1, la_g_eq]; omega), g1, ← la_g_eq, Nat.add_sub_cancel_left]
    exact la_xv_at x hk
  have hτ : ∀ k, k < la_g → (τ ++ la_xv x)[k]? = τ[k]? := fun k hk => List.getElem?_append_left (by rw [g1, ← la_g_eq]; exact hk)
  have hl0 : (τ ++ la_xv x).length = la_g + 5 := by rw [List.length_append, g1, hxl, la_g_eq]
  have up : ∀ {k : Nat} {w : Value}, (τ ++ la_xv x)[k]? = some w → (τ ++ la_xv x ++ la_dv c.2.2.1 x (la_v τ))[k]? = some w := fun {k w} hk => by
    rw [List.getElem?_append_left (List.getElem?_eq_some_iff.mp hk).1]
    exact hk
  have hvv : ∀ k, k < la_nR → (τ ++ la_xv x)[la_np + k]? = some (.int (la_v τ k)) := fun k hk => by
    rw [hτ _ (by rw [la_g_eq]; omega)]
    exact hv k hk
  have e0 : se_env ty (τ ++ la_xv x) ((la_pk ++ (c.1 ++ c.2.1)).map la_dk) := by
    rw [la_env_k]
    refine ⟨by rw [hl0]; simp only [List.length_append, la_pkl, hl.1, hl.2, la_g_eq]; omega, fun k κ hk => ?_⟩
    by_cases a : k < la_np
    · obtain ⟨w, w1, w2⟩ := g2 k κ (by rw [List.getElem?_append_left (by rw [la_pkl]; exact a)] at hk ⊢; exact hk)
      exact ⟨w, by rw [hτ k (by rw [la_g_eq]; omega)]; exact w1, w2⟩
    · rw [List.getElem?_append_right (by rw [la_pkl]; omega), la_pkl] at hk
      by_cases b : k < la_g
      · rw [la_g_eq] at b
        rw [List.getElem?_append_left (by rw [hl.1]; omega)] at hk
        refine ⟨_, ?_, la_alk h1 _ κ hk⟩
        have := hvv (k - la_np) (by omega)
        rw [show la_np + (k - la_np) = k by omega] at this
        exact this
      · rw [la_g_eq] at b
        rw [List.getElem?_append_right (by rw [hl.1]; omega), hl.1] at hk
        have hk5 := (List.getElem?_eq_some_iff.mp hk).1
        rw [hl.2] at hk5
        refine ⟨_, ?_, la_alk h2 _ κ hk⟩
        have := hx (k - la_np - la_nR) hk5
        rw [show la_g + (k - la_np - la_nR) = k by rw [la_g_eq]; omega] at this
        exact this
  have hlen0 : ((la_pk ++ (c.1 ++ c.2.1)).map la_dk).length = la_g + 5 := by
    have := e0.1
    rw [← this, hl0]
  constructor
  · have key : ∀ (D : List (Nat × Nat)), (∀ e ∈ D, e.1 < la_nR ∧ e.2 < 5) → se_env ty (τ ++ la_xv x ++ la_dv D x (la_v τ)) ((la_pk ++ (c.1 ++ c.2.1)).map la_dk ++ D.map la_dd) := by
      intro D hD
      refine ⟨by simp only [List.length_append, List.length_map, la_dv]; have := e0.1; simp only [List.length_append, List.length_map] at this; omega, fun k d hd => ?_⟩
      by_cases hk : k < la_g + 5
      · rw [List.getElem?_append_left (by rw [hlen0]; exact hk)] at hd
        obtain ⟨w, w1, w2⟩ := e0.2 k d hd
        refine ⟨w, ?_, se_dok_app w2 _⟩
        rw [List.getElem?_append_left (List.getElem?_eq_some_iff.mp w1).1]
        exact w1
      · rw [List.getElem?_append_right (by rw [hlen0]; omega), hlen0, List.getElem?_map] at hd
        cases hq : D[k - (la_g + 5)]? with
        | none => rw [hq] at hd; cases hd
        | some e =>
          rw [hq] at hd
          cases hd
          obtain ⟨d1, d2⟩ := hD e (List.mem_of_getElem? hq)
          refine ⟨.int (la_v τ e.1 - x e.2), ?_, ⟨⟨_, rfl, se_i32 _⟩, fun _ => ⟨.int (la_v τ e.1), .int (x e.2), ?_, ?_, rfl⟩⟩⟩
          · rw [List.getElem?_append_right (by rw [hl0]; omega), hl0]
            unfold la_dv
            rw [List.getElem?_map, hq]
            rfl
          · refine se_v_one ?_
            exact (List.getElem?_append_left (List.getElem?_eq_some_iff.mp (hvv _ d1)).1).trans (hvv _ d1)
          · refine se_v_one ?_
            exact (List.getElem?_append_left (List.getElem?_eq_some_iff.mp (hx _ d2)).1).trans (hx _ d2)
    exact key c.2.2.1 (fun e he => by
      have := List.all_eq_true.mp hbD e he
      rw [Bool.and_eq_true] at this
      exact ⟨Nat.blt_eq.mp this.1, Nat.blt_eq.mp this.2⟩)
  · have tv : ∀ t : Nat × Nat, la_tw c t = true → se_v (τ ++ la_xv x ++ la_dv c.2.2.1 x (la_v τ)) (la_ti t) = some (.int (la_tv c.2.2.1 x (la_v τ) t)) := by
      intro t ht
      obtain ⟨t1, t2⟩ := t
      match t1 with
      | 0 => exact se_v_one (up (hx t2 (Nat.blt_eq.mp ht)))
      | 1 => exact se_v_one (up (hvv t2 (Nat.blt_eq.mp ht)))
      | n + 2 =>
        have ht := Nat.blt_eq.mp ht
        refine se_v_one (n := la_g + 5 + t2) ?_
        rw [List.getElem?_append_right (by rw [hl0]; omega), hl0, Nat.add_sub_cancel_left]
        unfold la_dv la_tv
        dsimp only
        rw [List.getElem?_map, List.getElem?_eq_getElem ht]
        rfl
    have key : ∀ (l : List (Jvm.ClassFile.Cond × (Nat × Nat) × (Nat × Nat))), la_pfl c.2.2.1 l x (la_v τ) → (∀ e ∈ l, la_tw c e.2.1 = true ∧ la_tw c e.2.2 = true) → se_pf (τ ++ la_xv x ++ la_dv c.2.2.1 x (la_v τ)) (l.map (fun e => (e.1, la_ti e.2.1, la_ti e.2.2))) := by
      intro l
      induction l with
      | nil => intro _ _ e he; exact absurd he List.not_mem_nil
      | cons a l ih =>
        intro hp hb e he
        rcases List.mem_cons.mp he with rfl | he
        · obtain ⟨b1, b2⟩ := hb a List.mem_cons_self
          exact ⟨_, _, tv _ b1, tv _ b2, hp.1⟩
        · exact ih hp.2 (fun e he => hb e (List.mem_cons_of_mem _ he)) e he
    exact key c.2.2.2 h3 (fun e he => by
      have := List.all_eq_true.mp hbP e he
      rw [Bool.and_eq_true] at this
      exact this)
theorem la_offs : ∀ k, k < 40 → ∃ off, la_off[k]? = some off ∧ ∃ p, mm_tgt 33 off = some p ∧ ∃ L, (p, L) ∈ la_arms := by
  have h : ∀ k, k < 40 → (match la_off[k]? with | some off => (match mm_tgt 33 off with | some p => la_arms.any (fun a => Nat.beq a.1 p) | none => false) | none => false) = true := by decide +kernel
  intro k hk
  have h := h k hk
  split at h
  · next off eo =>
    refine ⟨off, eo, ?_⟩
    split at h
    · next p ep =>
      refine ⟨p, ep, ?_⟩
      obtain ⟨⟨p', L⟩, h1, h2⟩ := List.any_eq_true.mp h
      have h2 : p' = p := Nat.eq_of_beq_eq_true h2
      subst h2
      exact ⟨L, h1⟩
    · cases h
  · cases h
theorem la_sw (x : Int32) (lc : List (Nat × Value)) : ∃ p, mm_sw 1603 0 39 la_off 33 lc [.int x] = some (p, lc, []) ∧ (p = 1636 ∨ ∃ L, (p, L) ∈ la_arms) := by
  unfold mm_sw
  dsimp only
  by_cases h : x.toInt < 0 ∨ 39 < x.toInt
  · rw [if_pos h]
    exact ⟨1636, rfl, Or.inl rfl⟩
  · rw [if_neg h]
    obtain ⟨off, h1, p, h2, h3⟩ := la_offs (x.toInt - 0).toNat (by omega)
    rw [h1]
    dsimp only
    rw [h2]
    exact ⟨p, rfl, Or.inr h3⟩
theorem la_cxb {p : Nat} {L : List la_cx} (h : (p, L) ∈ la_arms) {c : la_cx} (hc : c ∈ L) : (c.1.length = la_nR ∧ c.2.1.length = 5) ∧ la_cxw c = true ∧ ∃ r, la_go la_C la_R0 la_g 200 (sx_c330.dropWhile (fun e => !(Nat.beq e.1 p))) (la_cds c) (la_M0 la_np la_R0) (la_cP c) [] = some r := by
  have h1 := List.all_eq_true.mp (List.all_eq_true.mp la_armc _ h) c hc
  rw [Bool.and_eq_true, Bool.and_eq_true] at h1
  obtain ⟨⟨a1, a2⟩, a3⟩ := h1
  have h2 := List.all_eq_true.mp (List.all_eq_true.mp (show la_arms.all (fun p => p.2.all la_cxw) = true by decide +kernel) _ h) c hc
  refine ⟨⟨Nat.eq_of_beq_eq_true a1, Nat.eq_of_beq_eq_true a2⟩, h2, ?_⟩
  unfold la_some at a3
  split at a3
  · next r hr => exact ⟨r, hr⟩
  · cases a3
section LAH
variable {ty : Nat → Option Nat} {kx : Nat} {zs : List mm_Zt} {d L : Nat} {xs : Nat → Int32}
theorem la_scr {j : Nat} (hj : j < L) : (mm_scr L xs)[j]? = some (.int (xs j)) := by
  unfold mm_scr
  rw [List.getElem?_map, List.getElem?_range hj]
  rfl
theorem la_scrl : (mm_scr L xs).length = L := by
  unfold mm_scr
  simp
def la_L (ty : Nat → Option Nat) (i : Nat) (lc : List (Nat × Value)) (m : List mm_C) : Prop := mm_lget lc 0 = some (.ref 0) ∧ (∃ τ q1 q2, la_T ty la_pk la_R0 τ m ∧ τ[0]? = some (.ref q1) ∧ τ[1]? = some (.ref q2) ∧ mm_lget lc 1 = some (.ref q1) ∧ mm_lget lc 2 = some (.ref q2)) ∧ mm_lget lc 3 = some (hb_z (i : Int))
def la_Q (τ : mm_S) : Prop := τ.2.2.1 = [.int 1] ∧ decode code τ.1 = .ok (.ireturn, 1)
theorem la_fi : sx_fi 330 = (13, code, 4, false) := rfl
theorem la_np2 : 2 ≤ la_np := by decide
theorem la_arm (hO : se_Ok ty (rw_J ty) kx zs) (hz : ∃ tz, zs.find? (fun t => decide (t.1 = "jdk/internal/util/Preconditions" ∧ t.2.1 = "SIOOBE_FORMATTER" ∧ t.2.2.1 = "Ljava/util/function/BiFunction;")) = some tz ∧ tz.2.2.2.category = 1) (hd : 520 ≤ d) (h0 : ty 0 = none) {Q : mm_S → Prop} {i p : Nat} {lc : List (Nat × Value)} {m : List mm_C} {cb sb : Nat} (hi : i ≤ 5000) (hL : i + 6 ≤ L) (hl : la_L ty i lc m) (hm : la_I ty (rw_J ty) (mm_scr L xs) m) (hend : ∀ (m : List mm_C) (cb sb : Nat), la_L ty i lc m → la_I ty (rw_J ty) (mm_scr L xs) m → mm_T kx zs Q [] (d + 1) (sx_fi 330) (1636, lc, [], m, cb, sb)) (hp : p = 1636 ∨ ∃ L, (p, L) ∈ la_arms) : mm_T kx zs Q [] (d + 1) (sx_fi 330) (p, lc, [], m, cb, sb) := by
  obtain ⟨l0, ⟨τ, q1, q2, hT, t1, t2, l1, l2⟩, l3⟩ := id hl
  rcases hp with rfl | ⟨A, hp⟩
  · exact hend m cb sb hl hm
  · obtain ⟨hal, hvv⟩ := la_v_ok hT
    obtain ⟨c, hc, c1, c2, c3⟩ := la_cov hp (fun j => xs (i + (j + 1))) (la_v τ) hal
    obtain ⟨b1, b2, r, b3⟩ := la_cxb hp hc
    obtain ⟨he, hP⟩ := la_cx_ok hT b1 c1 c2 c3 b2
    have hlen : τ.length = la_g := by
      have h1 := hT.1
      unfold la_ds0 at h1
      rw [la_env_k, List.length_append, la_pkl, la_R0l, la_vkl] at h1
      exact h1.1
    have hτ0 : ∀ {k : Nat} {w : Value}, τ[k]? = some w → (τ ++ la_xv (fun j => xs (i + (j + 1))) ++ la_dv c.2.2.1 (fun j => xs (i + (j + 1))) (la_v τ))[k]? = some w := fun {k w} h => by
      rw [List.append_assoc, List.getElem?_append_left (List.getElem?_eq_some_iff.mp h).1]
      exact h
    refine la_go_ok (RT := la_R0) (g := la_g) (ρ0 := τ ++ la_xv (fun j => xs (i + (j + 1))) ++ la_dv c.2.2.1 (fun j => xs (i + (j + 1))) (la_v τ)) (la_all hO hz) hd h0 hi (fun k h1 h2 => ⟨xs (i + k), la_scr (by omega), ?_⟩) l0 l1 (hτ0 t1) l2 (hτ0 t2) l3 (fun ρ ds M m' cb sb hρ he' hM hrel hm' => ?_) 200 _ _ _ _ [] r b3 (fun e he => la_dw.1 e he) p la_dw.2 _ _ m cb sb (List.prefix_refl _) he (by rw [List.append_assoc]; exact se_mf_app hT.2 _) hP trivial hm
    · have hc5 : (la_xv (fun j => xs (i + (j + 1)))).length = 5 := rfl
      rw [List.getElem?_append_left (by rw [List.length_append, hlen, hc5]; omega), List.getElem?_append_right (by omega), hlen, Nat.add_sub_cancel_left, la_xv_at _ (show k - 1 < 5 by omega)]
      show some (Value.int (xs (i + (k - 1 + 1)))) = _
      rw [Nat.sub_add_cancel h1]
    · obtain ⟨τ', k1, k2⟩ := la_rel_ok (show la_wf la_pk.length la_R0 = true from la_wf0) hT (List.IsPrefix.trans (by rw [List.append_assoc]; exact List.prefix_append τ _) hρ) he' hM hrel
      exact hend m' cb sb ⟨l0, ⟨τ', q1, q2, k1, by rw [k2 0 (by rw [la_pkl]; have := la_np2; omega)]; exact t1, by rw [k2 1 (by rw [la_pkl]; have := la_np2; omega)]; exact t2, l1, l2⟩, l3⟩ hm'
theorem la_loop (hO : se_Ok ty (rw_J ty) kx zs) (hz : ∃ tz, zs.find? (fun t => decide (t.1 = "jdk/internal/util/Preconditions" ∧ t.2.1 = "SIOOBE_FORMATTER" ∧ t.2.2.1 = "Ljava/util/function/BiFunction;")) = some tz ∧ tz.2.2.2.category = 1) (hd : 520 ≤ d) (h0 : ty 0 = none) (hL : L ≤ 3072) : ∀ (n i : Nat) (lc : List (Nat × Value)) (m : List mm_C) (cb sb : Nat), L ≤ n + i → i ≤ 3078 → la_L ty i lc m → la_I ty (rw_J ty) (mm_scr L xs) m → mm_T kx zs la_Q [] (d + 1) (sx_fi 330) (18, lc, [], m, cb, sb) := by
  have hfin : ∀ (lc : List (Nat × Value)) (m : List mm_C) (cb sb : Nat), mm_T kx zs la_Q [] (d + 1) (sx_fi 330) (1642, lc, [], m, cb, sb) := by
    intro lc m cb sb
    refine mm_T_step (σ' := (1643, lc, [.int 1], m, cb, sb)) hd_330_1642 rfl (by simp [mm_stp, mm_pure, mm_push]) ?_
    exact mm_T_fin hd_330_1643 rfl ⟨rfl, hd_330_1643⟩
  have head : ∀ (i : Nat) (lc : List (Nat × Value)) (m : List mm_C) (cb sb : Nat), i ≤ 3078 → la_L ty i lc m → la_I ty (rw_J ty) (mm_scr L xs) m → (i + 6 ≤ L → mm_T kx zs la_Q [] (d + 1) (sx_fi 330) (27, lc, [], m, cb, sb)) → mm_T kx zs la_Q [] (d + 1) (sx_fi 330) (18, lc, [], m, cb, sb) := by
    intro i lc m cb sb hi hl hm hgo
    have l3 : mm_lget lc 3 = some (.int (Int32.ofInt (i : Int))) := hl.2.2
    have l0 := hl.1
    refine mm_T_step (σ' := (19, lc, [.int (Int32.ofInt (i : Int))], m, cb, sb)) hd_330_18 rfl (by have l3' : mm_lget lc ((3 : Fin 4).val) = some (.int (Int32.ofInt (i : Int))) := l3; simp [mm_stp, mm_pure, mm_ldi, l3']) ?_
    refine mm_T_step (σ' := (20, lc, [.ref 0, .int (Int32.ofInt (i : Int))], m, cb, sb)) hd_330_19 rfl (by simp [mm_stp, mm_pure, mm_lda, l0]) ?_
    refine mm_T_step (σ' := (21, lc, [.int (Int32.ofNat L), .int (Int32.ofInt (i : Int))], m, cb, sb)) hd_330_20 rfl ?_ ?_
    · show mm_alenS 1 (20, lc, [.ref 0, .int (Int32.ofInt (i : Int))], m, cb, sb) = _
      unfold mm_alenS
      dsimp only
      rw [hm.2.2]
      dsimp only
      rw [if_pos rfl, la_scrl]
    refine mm_T_step (σ' := (23, lc, [.int 6, .int (Int32.ofNat L), .int (Int32.ofInt (i : Int))], m, cb, sb)) hd_330_21 rfl (by simp [mm_stp, mm_pure, mm_push]) ?_
    refine mm_T_step (σ' := (24, lc, [.int (Int32.ofNat L - 6), .int (Int32.ofInt (i : Int))], m, cb, sb)) hd_330_23 rfl (by simp [mm_stp, mm_pure, mm_bii]) ?_
    have e1 : (Int32.ofNat L - 6).toInt = (L : Int) - 6 := by
      rw [show Int32.ofNat L - 6 = Int32.ofInt ((L : Int) - 6) by rw [Int32.ofInt_sub]; rfl]
      exact se_ofInt (by unfold se_lo; omega) (by unfold se_hi; omega)
    have e2 : (Int32.ofInt (i : Int)).toInt = (i : Int) := se_ofInt (by unfold se_lo; omega) (by unfold se_hi; omega)
    by_cases h : i + 6 ≤ L
    · refine mm_T_step (σ' := (27, lc, [], m, cb, sb)) hd_330_24 rfl ?_ (hgo h)
      have : ¬ (Int32.ofNat L - 6 < Int32.ofInt (i : Int)) := fun q => by
        rw [Int32.lt_iff_toInt_lt, e1, e2] at q
        omega
      simp [mm_stp, mm_pure, mm_if2, mm_tgt, mm_P2, this]
    · refine mm_T_step (σ' := (1642, lc, [], m, cb, sb)) hd_330_24 rfl ?_ (hfin lc m cb sb)
      have : Int32.ofNat L - 6 < Int32.ofInt (i : Int) := by
        rw [Int32.lt_iff_toInt_lt, e1, e2]
        omega
      simp [mm_stp, mm_pure, mm_if2, mm_tgt, mm_P2, this]
  intro n
  induction n with
  | zero =>
    intro i lc m cb sb hn hi hl hm
    exact head i lc m cb sb hi hl hm (fun h => by omega)
  | succ n ih =>
    intro i lc m cb sb hn hi hl hm
    refine head i lc m cb sb hi hl hm (fun h => ?_)
    have l3 : mm_lget lc 3 = some (.int (Int32.ofInt (i : Int))) := hl.2.2
    have l0 := hl.1
    have e2 : (Int32.ofInt (i : Int)).toInt = (i : Int) := se_ofInt (by unfold se_lo; omega) (by unfold se_hi; omega)
    have e3 : (Int32.ofInt (i : Int)).toNatClampNeg = i := by
      show (Int32.ofInt (i : Int)).toInt.toNat = i
      rw [e2]
      rfl
    have hneg : ¬ Int32.ofInt (i : Int) < 0 := fun q => by
      rw [Int32.lt_iff_toInt_lt, e2] at q
      have : (0 : Int32).toInt = 0 := by decide
      omega
    refine mm_T_step (σ' := (28, lc, [.ref 0], m, cb, sb)) hd_330_27 rfl (by simp [mm_stp, mm_pure, mm_lda, l0]) ?_
    refine mm_T_step (σ' := (29, lc, [.int (Int32.ofInt (i : Int)), .ref 0], m, cb, sb)) hd_330_28 rfl (by have l3' : mm_lget lc ((3 : Fin 4).val) = some (.int (Int32.ofInt (i : Int))) := l3; simp [mm_stp, mm_pure, mm_ldi, l3']) ?_
    refine mm_T_step (σ' := (30, lc, [.int (xs i)], m, cb, sb)) hd_330_29 rfl ?_ ?_
    · show mm_aldS (fun ty => decide (ty = .int)) 1 (29, lc, [.int (Int32.ofInt (i : Int)), .ref 0], m, cb, sb) = _
      unfold mm_aldS
      dsimp only
      rw [hm.2.2]
      dsimp only
      rw [if_pos ⟨rfl, decide_eq_true rfl, fun q => q.elim hneg (fun q => by rw [e3, la_scrl] at q; omega)⟩, e3, la_scr (by omega)]
      rfl
    refine mm_T_step (σ' := (32, lc, [.int 63, .int (xs i)], m, cb, sb)) hd_330_30 rfl (by simp [mm_stp, mm_pure, mm_push]) ?_
    refine mm_T_step (σ' := (33, lc, [.int (xs i &&& 63)], m, cb, sb)) hd_330_32 rfl (by simp [mm_stp, mm_pure, mm_bii]) ?_
    obtain ⟨p, hp1, hp2⟩ := la_sw (xs i &&& 63) lc
    refine mm_T_step (σ' := (p, lc, [], m, cb, sb)) hd_330_33 rfl ?_ ?_
    · unfold mm_stp
      rw [show mm_pure (sx_fi 330).2.2.1 (.tableswitch 1603 0 39 #[175, 218, 271, 304, 337, 396, 465, 518, 551, 584, 617, 680, 703, 736, 769, 782, 805, 838, 871, 904, 927, 990, 1013, 1046, 1069, 1102, 1135, 1158, 1181, 1214, 1247, 1296, 1339, 1372, 1405, 1448, 1491, 1554, 1567, 1580]) 175 33 lc [.int (xs i &&& 63)] = some (p, lc, []) from hp1]
    · refine la_arm hO hz hd h0 (by omega) h hl hm (fun m cb sb hl hm => ?_) hp2
      have e4 : Int32.ofInt (i : Int) + Int32.ofInt 6 = Int32.ofInt ((i + 6 : Nat) : Int) := by
        rw [← Int32.ofInt_add]
        rfl
      refine mm_T_step (σ' := (1639, mm_l1 lc 3 (.int (Int32.ofInt ((i + 6 : Nat) : Int))), [], m, cb, sb)) hd_330_1636 rfl (by rw [← e4]; simp [mm_stp, mm_pure, mm_inc, l3, la_fi]) ?_
      refine mm_T_step (σ' := (18, mm_l1 lc 3 (.int (Int32.ofInt ((i + 6 : Nat) : Int))), [], m, cb, sb)) hd_330_1639 rfl (by simp [mm_stp, mm_pure, mm_go, mm_tgt]) ?_
      obtain ⟨-, ⟨τ, q1, q2, hT, t1, t2, l1, l2⟩, -⟩ := hl
      exact ih (i + 6) _ m cb sb (by omega) (by omega) ⟨mm_lget_l1 l0 (by decide) (fun q => by have := q.2; simp [Value.category] at this), ⟨τ, q1, q2, hT, t1, t2, mm_lget_l1 l1 (by decide) (fun q => by have := q.2; simp [Value.category] at this), mm_lget_l1 l2 (by decide) (fun q => by have := q.2; simp [Value.category] at this)⟩, mm_lget_l1s⟩ hm
end LAH
