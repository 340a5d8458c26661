/-! ===== the law's start: what its run says of the small machine ===== -/
section LSU
variable {kx : Nat} {zs : List mm_Zt} {P : mm_S → Prop}
theorem st_to_ok (hP : ∀ τ : mm_S, τ.2.2.1 = [.int 1] → decode code τ.1 = .ok (.ireturn, 1) → P τ) : ∀ (k : Nat) (S S' : sx_S), st_to kx zs k S = some S' → sx_Good kx zs P S' → sx_Good kx zs P S := by
  intro k
  induction k with
  | zero =>
    intro S S' h hG
    unfold st_to at h
    split at h
    · cases h
      exact hG
    · split at h
      · next S2 e =>
        cases h
        rw [sx_stepF_eq] at e
        exact sx_step_ok hP e (fun S hS => by
          rcases List.mem_cons.mp hS with rfl | hS
          · exact hG
          · exact absurd hS List.not_mem_nil)
      · cases h
  | succ k ih =>
    intro S S' h hG
    unfold st_to at h
    split at h
    · next S2 e => exact ih _ _ e (ih _ _ h hG)
    · cases h
set_option maxRecDepth 100000 in
theorem st_cod330 : sx_cods[330]? = some sx_c330 := rfl
set_option maxRecDepth 100000 in
theorem st_con {k y p nL : Nat} {cy : List sx_I} {mem : List sx_C} {S' : sx_S} {t : mm_Mt} (ht : mm_mths[y]? = some t) (hc : sx_cods[y]? = some cy) (hnL : t.2.2.2.1 = nL) (hlen : 1 ≤ nL) (h : st_to kx zs k (st_S y p cy nL mem) = some S') (hh : st_h S' = true) {env0 : Nat → Int32} (henv : env0 6 = env0 0 &&& 63) {mc : List mm_C} (hm : sx_r2 (sx_gc env0) mem mc) : ∃ (n : Nat) (τ : mm_S) (v : Option Value), mm_run kx zs n 99 (mm_fi t) (mm_ent y [.ref p] mc) = some τ ∧ mm_ret t τ = some v ∧ ∃ env, env 6 = env 0 &&& 63 ∧ sx_r2 (sx_gc env) S'.2.1 τ.2.2.2.1 := by
  have hG' : sx_Good kx zs (fun τ => ((∃ env, env 6 = env 0 &&& 63 ∧ sx_r2 (sx_gc env) S'.2.1 τ.2.2.2.1) ∧ ∃ r, τ.2.2.1 = .int 0 :: r) ∨ (τ.2.2.1 = [.int 1] ∧ decode code τ.1 = .ok (.ireturn, 1))) S' := by
    obtain ⟨iv, mem', ⟨y', full, cs, lv, st, cb, sb⟩, K⟩ := S'
    intro env hiv pc lc sc mc Kc hf hm' hK hKl
    unfold st_h at hh
    dsimp only at hh
    rw [Bool.and_eq_true, Bool.and_eq_true, Bool.and_eq_true] at hh
    obtain ⟨⟨h1, h2⟩, h3, h4⟩ := hh
    have h1 := List.isEmpty_iff.mp h1
    have h2 := Nat.eq_of_beq_eq_true h2
    have h3 := List.isEmpty_iff.mp h3
    subst h1
    subst h2
    subst h3
    obtain ⟨-, -, hat, -, -, hst⟩ := hf
    dsimp only at hat hst hm' hK hKl ⊢
    cases Kc with
    | cons _ _ => exact hK.elim
    | nil =>
      cases sx_r2_nil hst
      cases cs with
      | nil => cases h4
      | cons e cs =>
        have hpc := hat e cs rfl
        have h4 := Nat.eq_of_beq_eq_true h4
        rw [h4] at hpc
        subst hpc
        refine mm_T_step (σ' := (1045, lc, [.int 0], mc, cb, sb)) hd_330_1044 rfl (by simp [mm_stp, mm_pure, mm_push]) ?_
        exact mm_T_fin hd_330_1045 rfl (Or.inl ⟨⟨env, hiv.2, hm'⟩, [], rfl⟩)
  have hG := st_to_ok (fun τ a b => Or.inr ⟨a, b⟩) k _ _ h hG'
  have hsx : sx_r2 (sx_g env0) [.inl (.ref p)] [Value.ref p] := ⟨rfl, trivial⟩
  obtain ⟨g1, g2⟩ := sx_pad_ok (n := nL) hsx hlen
  have hT := hG env0 ⟨fun k lo hi hk => by simp [st_S] at hk, henv⟩ 0 (lv_args 0 [.ref p]) [] mc [(sx_fi 330, t, 1044, [], [], 0, 0)] ⟨hc, fun _ h => h, sx_ent y cy hc, by rw [show (st_S y p cy nL mem).2.2.1.1 = y from rfl, sx_cods_mths ht]; exact g1.trans hnL.symm, g2, trivial⟩ hm ⟨ht, rfl, ⟨st_cod330, fun e he => (la_dw (l := sx_c330) (tg := 1044)).1 e he, (la_dw (l := sx_c330) (tg := 1044)).2, rfl, fun i v hi => by
    match i, hi with
    | 0, hi => cases hi
    | 1, hi => cases hi
    | 2, hi => cases hi
    | 3, hi => cases hi
    | i + 4, hi => simp at hi, trivial⟩, rfl, trivial⟩ (by show 1 ≤ 60; decide)
  obtain ⟨n, τ, v, r1, r2, n2, τ2, r3, r4⟩ := hT
  refine ⟨n, τ, v, ?_, r2, ?_⟩
  · rw [← sx_cods_mths ht]
    exact r1
  · cases n2 with
    | zero => cases r3
    | succ n2 =>
      unfold mm_run at r3
      dsimp only at r3
      rw [hd_330_1044] at r3
      dsimp only at r3
      rw [if_neg (by decide)] at r3
      rw [show mm_stp (sx_fi 330).1 (sx_fi 330).2.2.1 kx (sx_fi 330).2.2.2 zs (.iconst 0) 1 (1044, [], v.toList ++ [], τ.2.2.2.1, 0, 0) = some (1045, [], .int 0 :: (v.toList ++ []), τ.2.2.2.1, 0, 0) by simp [mm_stp, mm_pure, mm_push]] at r3
      dsimp only at r3
      cases n2 with
      | zero => cases r3
      | succ n2 =>
        unfold mm_run at r3
        dsimp only at r3
        rw [hd_330_1045] at r3
        dsimp only at r3
        rw [show mm_isR Instr.ireturn = true from rfl, if_pos rfl] at r3
        cases r3
        rcases r4 with ⟨r4, -⟩ | ⟨r4, -⟩
        · exact r4
        · cases r4
end LSU
theorem st_ret {t : mm_Mt} {τ : mm_S} {v : Option Value} (ht : t.2.2.2.2.1 = none) (h : mm_ret t τ = some v) : v = none := by
  unfold mm_ret at h
  rw [ht] at h
  split at h
  · split at h
    · next e _ => cases e
    · cases h
  · split at h
    · next e _ => cases e
    · cases h
  · split at h
    · next e _ => cases e
    · cases h
  · split at h
    · cases h
      rfl
    · cases h
  · cases h
theorem st_val_ok {env : Nat → Int32} {k : se_K} {v : sx_V} {x : Value} (h : st_val k v = true) (hx : sx_g env v x) : se_k st_ty k x := by
  unfold st_val at h
  split at h
  · next n =>
    rw [Bool.and_eq_true, Bool.and_eq_true] at h
    have h1 := Nat.eq_of_beq_eq_true h.1
    have hx : x = .int n := hx
    unfold se_k
    rw [h1]
    exact ⟨n, hx, of_decide_eq_true h.2.1, of_decide_eq_true h.2.2⟩
  · next n =>
    have h1 := Nat.eq_of_beq_eq_true h
    have hx : x = .long n := hx
    unfold se_k
    rw [h1]
    exact ⟨n, hx⟩
  · next q =>
    have hx : x = .ref q := hx
    split at h
    · next u eu =>
      split at h
      · next u' eu' =>
        have h1 := Nat.eq_of_beq_eq_true h
        unfold se_k
        rw [eu]
        exact ⟨q, hx, by rw [eu', h1]⟩
      · cases h
    · cases h
  · cases h
theorem st_cell_ok {env : Nat → Int32} {t : se_Ty} {c : sx_C} {c' : mm_C} (h : st_cell t c = true) (hc : sx_gc env c c') : se_tc st_ty t (some c') := by
  unfold st_cell at h
  unfold se_tc
  split at h
  · next el n df up et =>
    rw [et]
    rw [Bool.and_eq_true, Bool.and_eq_true] at h
    obtain ⟨⟨h1, h2⟩, h3⟩ := h
    have h1 := of_decide_eq_true h1
    have h2 := Nat.eq_of_beq_eq_true h2
    cases c' with
    | inr _ => exact hc.elim
    | inl a =>
      obtain ⟨el', xs⟩ := a
      obtain ⟨g1, g2, g3⟩ := hc
      refine ⟨xs, by rw [← h1, g1], by rw [g2, h2], fun i hi => ?_⟩
      obtain ⟨x, k1, k2⟩ := g3 i (by omega)
      exact ⟨x, k1, st_val_ok (List.all_eq_true.mp h3 i (List.mem_range.mpr (by omega))) k2⟩
  · next ci fs ci' et =>
    rw [et]
    rw [Bool.and_eq_true, Bool.and_eq_true] at h
    obtain ⟨⟨h1, h2⟩, h3⟩ := h
    have h1 := Nat.eq_of_beq_eq_true h1
    have h2 := Nat.eq_of_beq_eq_true h2
    cases c' with
    | inl _ => exact hc.elim
    | inr a =>
      obtain ⟨ci2, ws⟩ := a
      obtain ⟨g1, g2⟩ := hc
      have gl := sx_r2_len g2
      refine ⟨ws, by rw [← h1, g1], by omega, fun i hi => ?_⟩
      have h4 := List.all_eq_true.mp h3 i (List.mem_range.mpr (by omega))
      split at h4
      · next v ev =>
        obtain ⟨x, k1, k2⟩ := sx_r2_get g2 ev
        exact ⟨x, k1, st_val_ok h4 k2⟩
      · cases h4
  · cases h
theorem st_tyl {p t : Nat} (h : st_ty p = some t) : p < 213 := by
  unfold st_ty at h
  split at h
  · next o e =>
    have := (List.getElem?_eq_some_iff.mp e).1
    exact this
  · cases h
theorem st_typed {env : Nat → Int32} {mem : List sx_C} {m : List mm_C} (h : st_chk mem = true) (hm : sx_r2 (sx_gc env) mem m) : se_tm st_ty se_tt m ∧ rw_J st_ty m := by
  have key : ∀ p t, st_ty p = some t → ∃ c c', m[p]? = some c' ∧ sx_gc env c c' ∧ st_cell (se_tt t) c = true ∧ (t = 56 ∨ t = 103 → st_row c = true) := by
    intro p t hp
    have h1 := List.all_eq_true.mp h p (List.mem_range.mpr (st_tyl hp))
    rw [hp] at h1
    dsimp only at h1
    split at h1
    · next c ec =>
      rw [Bool.and_eq_true] at h1
      obtain ⟨c', g1, g2⟩ := sx_r2_get hm ec
      refine ⟨c, c', g1, g2, h1.1, fun e => ?_⟩
      have h2 := h1.2
      rcases e with rfl | rfl
      · exact h2
      · exact h2
    · cases h1
  refine ⟨fun p t hp => ?_, fun p hp t k ht hk => ?_⟩
  · obtain ⟨c, c', g1, g2, g3, -⟩ := key p t hp
    rw [g1]
    exact st_cell_ok g3 g2
  · obtain ⟨c, c', g1, g2, g4⟩ : ∃ c c', m[p]? = some c' ∧ sx_gc env c c' ∧ st_row c = true := by
      rcases hp with hp | hp
      · obtain ⟨c, c', g1, g2, -, g4⟩ := key p 56 hp
        exact ⟨c, c', g1, g2, g4 (Or.inl rfl)⟩
      · obtain ⟨c, c', g1, g2, -, g4⟩ := key p 103 hp
        exact ⟨c, c', g1, g2, g4 (Or.inr rfl)⟩
    unfold st_row at g4
    split at g4
    · next el n df up =>
      have g5 := List.all_eq_true.mp g4 (3 * t + k) (List.mem_range.mpr (by omega))
      rw [Bool.and_eq_true] at g5
      obtain ⟨g5, g6⟩ := g5
      have g5 := Nat.blt_eq.mp g5
      cases c' with
      | inr _ => exact g2.elim
      | inl a =>
        obtain ⟨el', xs⟩ := a
        obtain ⟨k1, k2, k3⟩ := g2
        obtain ⟨x, x1, x2⟩ := k3 _ g5
        split at g6
        · next z ez =>
          have g6 := of_decide_eq_true g6
          subst g6
          rw [ez] at x2
          have x2 : x = .int 0 := x2
          subst x2
          have hz : rw_v m p (528 + 489 * t + 163 * k) = 0 := by
            unfold rw_v se_get
            rw [g1]
            dsimp only
            rw [show 528 + 489 * t + 163 * k = 528 + 163 * (3 * t + k) by omega, x1]
            rfl
          unfold rw_row
          rw [hz]
          intro j hj
          exact absurd hj (Nat.not_lt_zero j)
        · cases g6
    · cases g4
theorem st_veq_ok {env : Nat → Int32} {v : sx_V} {x y : Value} (h : st_veq v x = true) (hg : sx_g env v y) : y = x := by
  unfold st_veq at h
  split at h
  · next a b =>
    have e := of_decide_eq_true h
    subst e
    exact hg
  · next a b =>
    have e := Nat.eq_of_beq_eq_true h
    subst e
    exact hg
  · cases h
theorem st_mfc_ok {env : Nat → Int32} {mem : List sx_C} {F B : mm_C} {m : List mm_C} {τ : List Value} {M : se_M} (h : st_mfc mem τ M = true) (hm : sx_r2 (sx_gc env) mem (F :: m)) : se_mf τ M (B :: m) := by
  intro e he
  have h1 := List.all_eq_true.mp h e he
  split at h1
  · next q j x e1 e2 e3 =>
    rw [Bool.and_eq_true, Bool.and_eq_true] at h1
    obtain ⟨⟨a1, a2⟩, a3⟩ := h1
    refine ⟨q, j, x, e1, e2, of_decide_eq_true a1, e3, ?_⟩
    have a2 := Nat.blt_eq.mp a2
    obtain ⟨q', rfl⟩ : ∃ q' : Nat, q = q' + 1 := by
      cases q with
      | zero => exact absurd a2 (Nat.lt_irrefl 0)
      | succ n => exact ⟨n, rfl⟩
    unfold st_slot at a3
    split at a3
    · next el n df up em =>
      rw [Bool.and_eq_true] at a3
      obtain ⟨c', c1, c2⟩ := sx_r2_get hm em
      cases c' with
      | inr _ => exact c2.elim
      | inl a =>
        obtain ⟨el', ws⟩ := a
        obtain ⟨k1, k2, k3⟩ := c2
        obtain ⟨y, y1, y2⟩ := k3 _ (Nat.blt_eq.mp a3.1)
        have := st_veq_ok a3.2 y2
        subst this
        unfold se_get
        rw [List.getElem?_cons_succ] at c1 ⊢
        rw [c1]
        exact y1
    · next ci fs em =>
      obtain ⟨c', c1, c2⟩ := sx_r2_get hm em
      split at a3
      · next v ev =>
        cases c' with
        | inl _ => exact c2.elim
        | inr a =>
          obtain ⟨ci', ws⟩ := a
          obtain ⟨k1, k2⟩ := c2
          obtain ⟨y, y1, y2⟩ := sx_r2_get k2 ev
          have := st_veq_ok a3 y2
          subst this
          unfold se_get
          rw [List.getElem?_cons_succ] at c1 ⊢
          rw [c1]
          exact y1
      · cases a3
    · cases a3
  · cases h1
theorem st_tauc_ok : ∀ {ks : List se_K} {τ : List Value}, st_tauc ks τ = true → τ.length = ks.length ∧ ∀ (k : Nat) (κ : se_K), ks[k]? = some κ → ∃ w, τ[k]? = some w ∧ se_k st_ty κ w
  | [], [], _ => ⟨rfl, fun k κ h => by simp at h⟩
  | a :: ks, x :: τ, h => by
    have h : (st_val a (.inl x) && st_tauc ks τ) = true := h
    rw [Bool.and_eq_true] at h
    obtain ⟨g1, g2⟩ := st_tauc_ok h.2
    refine ⟨by simp [g1], fun k κ hk => ?_⟩
    cases k with
    | zero =>
      simp at hk
      subst hk
      exact ⟨x, rfl, st_val_ok (env := fun _ => 0) h.1 (rfl : x = x)⟩
    | succ k =>
      simp at hk
      simpa using g2 k κ hk
  | [], _ :: _, h => by cases h
  | _ :: _, [], h => by cases h
theorem st_typed0 {B B' : mm_C} {m : List mm_C} (h : se_tm st_ty se_tt (B :: m) ∧ rw_J st_ty (B :: m)) : se_tm st_ty se_tt (B' :: m) ∧ rw_J st_ty (B' :: m) := by
  refine ⟨fun p t hp => ?_, fun p hp => ?_⟩
  · cases p with
    | zero => cases hp
    | succ p => exact h.1 (p + 1) t hp
  · cases p with
    | zero => exact hp.elim (fun q => by cases q) (fun q => by cases q)
    | succ p => exact h.2 (p + 1) hp
theorem st_Ok (v : Value) : se_Ok st_ty (rw_J st_ty) 38 (mm_zs v) := by
  refine ⟨rw_Jz st_ty, fun p t hp ht => ?_, fun a t ha h => ?_, fun a t ha h => ?_, fun a n h => ?_⟩
  · have h := List.all_eq_true.mp (show (List.range 213).all (fun p => match st_ty p with | some t => Nat.ble t 36 || Nat.ble 38 p | none => true) = true by decide +kernel) p (List.mem_range.mpr (st_tyl hp))
    rw [hp] at h
    dsimp only at h
    rw [Bool.or_eq_true] at h
    rcases h with h | h
    · have := Nat.le_of_ble_eq_true h
      omega
    · exact Nat.le_of_ble_eq_true h
  · unfold se_zt at h
    split at h
    · cases h; exact ⟨_, _, _, rfl, rfl, rfl, rfl⟩
    · cases h; exact ⟨_, _, _, rfl, rfl, rfl, rfl⟩
    · cases h; exact ⟨_, _, _, rfl, rfl, rfl, rfl⟩
    · cases h; exact ⟨_, _, _, rfl, rfl, rfl, rfl⟩
    all_goals first | omega | cases h
  · generalize hb : 1000 + a = b at h
    unfold se_zt at h
    split at h
    · omega
    · omega
    · omega
    · omega
    · cases h
      rw [show a = 5 by omega]
      rfl
    · cases h
      rw [show a = 6 by omega]
      rfl
    · cases h
      rw [show a = 7 by omega]
      rfl
    · cases h
      rw [show a = 8 by omega]
      rfl
    · cases h
      rw [show a = 9 by omega]
      rfl
    · cases h
      rw [show a = 10 by omega]
      rfl
    · cases h
      rw [show a = 11 by omega]
      rfl
    · cases h
      rw [show a = 12 by omega]
      rfl
    · cases h
      rw [show a = 13 by omega]
      rfl
    · cases h
      rw [show a = 14 by omega]
      rfl
    · cases h
      rw [show a = 15 by omega]
      rfl
    · cases h
      rw [show a = 16 by omega]
      rfl
    · cases h
      rw [show a = 17 by omega]
      rfl
    · cases h
      rw [show a = 18 by omega]
      rfl
    · cases h
      rw [show a = 19 by omega]
      rfl
    · cases h
      rw [show a = 20 by omega]
      rfl
    · omega
    · cases h
  · generalize hb : 2000 + a = b at h
    unfold se_zt at h
    split at h
    · omega
    · omega
    · omega
    · omega
    · omega
    · omega
    · omega
    · omega
    · omega
    · omega
    · omega
    · omega
    · omega
    · omega
    · omega
    · omega
    · omega
    · omega
    · omega
    · omega
    · cases h
      rw [show a = 2 by omega]
      exact ⟨_, _, rfl, rfl, rfl⟩
    · cases h
theorem st_zsz (v : Value) : ∀ p t, st_zs.find? p = some t → (mm_zs v).find? p = some t := by
  intro p t h
  rw [show mm_zs v = st_zs ++ [("jdk/internal/util/Preconditions", "SIOOBE_FORMATTER", "Ljava/util/function/BiFunction;", v)] from rfl, List.find?_append, h]
  rfl
theorem st_hz {v : Value} (hv : v.category = 1) : ∃ tz, (mm_zs v).find? (fun t => decide (t.1 = "jdk/internal/util/Preconditions" ∧ t.2.1 = "SIOOBE_FORMATTER" ∧ t.2.2.1 = "Ljava/util/function/BiFunction;")) = some tz ∧ tz.2.2.2.category = 1 := ⟨_, rfl, hv⟩
