/-! ===== the law's arms, with what is known of the memory: what the checker says ===== -/
def la_I (ty : Nat → Option Nat) (J : List mm_C → Prop) (scr : List Value) (m : List mm_C) : Prop := se_tm ty se_tt m ∧ J m ∧ m[0]? = some (.inl (.int, scr))
section LAG
variable {ty : Nat → Option Nat} {kx : Nat} {zs : List mm_Zt} {J : List mm_C → Prop} {Q : mm_S → Prop} {d i : Nat} {C : List se_C} {scr : List Value} {lc : List (Nat × Value)} {ρ0 : List Value} {RT : la_R} {g : Nat}
theorem la_dw {l : List sx_I} {tg : Nat} : (∀ e ∈ l.dropWhile (fun e => !(Nat.beq e.1 tg)), e ∈ l) ∧ ∀ e t, l.dropWhile (fun e => !(Nat.beq e.1 tg)) = e :: t → e.1 = tg := by
  induction l with
  | nil => exact ⟨fun e h => h, fun e t h => by cases h⟩
  | cons a l ih =>
    by_cases ha : Nat.beq a.1 tg = true
    · rw [List.dropWhile_cons_of_neg (by simp [ha])]
      exact ⟨fun e h => h, fun e t h => by cases h; exact Nat.eq_of_beq_eq_true ha⟩
    · rw [List.dropWhile_cons_of_pos (by simp [ha])]
      exact ⟨fun e h => List.mem_cons_of_mem _ (ih.1 e h), ih.2⟩
theorem la_at_ok {tl : List sx_I} {pc : Nat} (h : la_at tl pc = true) : ∀ e t, tl = e :: t → e.1 = pc := by
  intro e t het
  rw [het] at h
  exact Nat.eq_of_beq_eq_true h
theorem la_pushK_ok {ds : List se_D} {k : Nat} {kk : se_V → se_R} {r : List se_S} (h : la_pushK ds k kk = some r) : ∃ v, (∀ (ty : Nat → Option Nat) (ρ : List Value) (x : Int32), se_env ty ρ ds → ρ[k]? = some (.int x) → se_v ρ v = some (.int x)) ∧ kk v = some r := by
  unfold la_pushK at h
  split at h
  · next l h' e0 ek =>
    split at h
    · next hd =>
      have hd := of_decide_eq_true hd
      subst hd
      refine ⟨_, fun ty ρ x he hx => ?_, h⟩
      obtain ⟨w, h1, h2⟩ := he.2 k _ ek
      rw [hx] at h1
      cases h1
      obtain ⟨n, hn, g1, g2⟩ := h2.1
      have hn : Value.int x = .int n := hn
      cases hn
      have e : l = x.toInt := by
        have g1 : l ≤ x.toInt := g1
        have g2 : x.toInt ≤ l := g2
        omega
      show some (Value.int (Int32.ofInt l)) = some (.int x)
      rw [e, Int32.ofInt_toInt]
    · exact ⟨_, fun ty ρ x he hx => se_v_one hx, h⟩
  · cases h
/-- what is left to show behind an instruction -/
def la_Go (ty : Nat → Option Nat) (kx : Nat) (zs : List mm_Zt) (J : List mm_C → Prop) (Q : mm_S → Prop) (d : Nat) (scr : List Value) (lc : List (Nat × Value)) (ρ0 : List Value) (pc : Nat) (ds : List se_D) (M : se_M) (P : se_P) (st : List se_V) : Prop := ∀ (ρ : List Value) (sc : List Value) (m : List mm_C) (cb sb : Nat), ρ0 <+: ρ → se_env ty ρ ds → se_mf ρ M m → se_pf ρ P → sx_r2 (se_sv ρ) st sc → la_I ty J scr m → mm_T kx zs Q [] (d + 1) (sx_fi 330) (pc, lc, sc, m, cb, sb)
theorem la_call_ok (hC : ∀ c ∈ C, se_Met ty se_tt J kx zs c ∧ c.1.2 ≤ 40) (hd : 520 ≤ d) (h0 : ty 0 = none) {y idx kd b pl pc : Nat} {z : Int} {ds : List se_D} {M : se_M} {P : se_P} {st : List se_V} {l : List se_S} {kk : List se_D → se_M → se_P → List se_V → se_R} (hdec : decode (sx_fi 330).2.1 pc = .ok (.invokevirtual idx, 3)) (hlk : mm_look (sx_fi 330).1 idx = some (idx, kd, y, b, z, pl)) (hkd : kd = 2 ∨ kd = 3) (h : la_call C y ds M P st kk = some l) (hk : ∀ ds M P st l, kk ds M P st = some l → la_Go ty kx zs J Q d scr lc ρ0 (pc + 3) ds M P st) : la_Go ty kx zs J Q d scr lc ρ0 pc ds M P st := by
  intro ρ sc m cb sb hρ he hM hP hst hm
  unfold la_call at h
  split at h
  · next t ht =>
    split at h
    · next h1 =>
      have h1 := Nat.eq_of_beq_eq_true h1
      split at h
      · next r rest hdr =>
        split at h
        · next u eu =>
          split at h
          · next ci ft nn segs eci =>
            split at h
            · next hb =>
              rw [Bool.and_eq_true, Bool.and_eq_true, Bool.and_eq_true] at hb
              obtain ⟨⟨b1, b2⟩, b3, b4⟩ := hb
              have b1 := Nat.eq_of_beq_eq_true b1
              have b3 := Nat.le_of_ble_eq_true b3
              obtain ⟨m1, m2, m3⟩ := se_mok_ok b4
              have hvd := sx_r2_drop hst t.2.2.2.2.2.1
              rw [hdr] at hvd
              obtain ⟨x, rs, hsd, hx, hrs⟩ := sx_r2_cons hvd
              obtain ⟨q, rfl, hq⟩ := se_ref he hx eu
              obtain ⟨fs, x1, -⟩ := se_tc_obj hm.1 hq eci
              have hAs : sx_r2 (se_sv ρ) (r :: (st.take t.2.2.2.2.2.1).reverse) (.ref q :: (sc.take t.2.2.2.2.2.1).reverse) := ⟨hx, sx_r2_rev (sx_r2_take hst _)⟩
              have hsum := se_cats_ok he hrs
              have hargs : ∀ (i : Nat) (v : se_V), (se_args ds (r :: (st.take t.2.2.2.2.2.1).reverse))[i]? = some (some v) → ∃ x, mm_lget (lv_args 0 (.ref q :: (sc.take t.2.2.2.2.2.1).reverse)) i = some x ∧ se_v ρ v = some x := fun i v hv => by
                obtain ⟨x, g1, g2⟩ := se_args_gl he hAs 0 i v hv
                exact ⟨x, by simpa using g1, g2⟩
              have hl : ∀ i v, se_ld (se_args ds (r :: (st.take t.2.2.2.2.2.1).reverse)) i = some v → ∃ x, se_v ρ v = some x := fun i v hv => by
                unfold se_ld at hv
                split at hv
                · next e => cases hv; obtain ⟨x, _, g⟩ := hargs i _ e; exact ⟨x, g⟩
                · cases hv
              obtain ⟨c, c1, c2, c3, δ, ds1, M1, σ, τ, g1, g2, g3, g4, g5, g6, g7, g8⟩ := se_callC_ok hm.1 he hP hM hl h
              obtain ⟨hmet, hlv⟩ := hC c c1
              subst c2
              obtain ⟨n, τs, v, r1, r2, e, e2, δe, p1, p2, p3, p4, p5, p6, p7, p8⟩ := hmet d t τ _ m (by omega) ht g5 (fun i v hv => by
                obtain ⟨w, x, w1, w2, w3⟩ := g6 i v hv
                obtain ⟨x', x1, x2⟩ := hargs i w w1
                rw [se_v_app x2] at w2
                cases w2
                exact ⟨_, x1, w3⟩) g7 g8 hm.1 hm.2.1
              have hlen1 : τ.length = c.2.1.1.length := by have := g5.1; simpa using this
              have hlen2 : δe.length = e.1.length := by
                have := p1.1
                simp only [List.length_append, List.length_map] at this
                omega
              refine mm_T_call (As := .ref q :: (sc.take t.2.2.2.2.2.1).reverse) (rest := rs) (t := t) hdec rfl (mm_stp_call (Or.inl rfl) hlk hkd) ?_ ht ⟨by rw [se_args_len he hAs]; exact m1, by omega, by omega⟩ ⟨n, τs, v, r1, r2, ?_⟩
              · unfold mm_cal
                dsimp only
                rw [hlk]
                dsimp only
                rw [ht]
                dsimp only
                rw [hsd]
                dsimp only
                rw [x1]
                dsimp only
                rw [if_pos ⟨rfl, rfl, hkd, h1, b1, by rw [hsum]; exact b3⟩]
              · obtain ⟨l', ds2, M2, P2, v2, q1, q2, q3, q4, q5, q6, q7⟩ := se_exs_ok g2 (se_pf_app hP δ) (se_left_ok g2 g3 p8) g4 hlen2 (fun i f w h1 h2 => by
                  have hi := (List.getElem?_eq_some_iff.mp h2).1
                  obtain ⟨w', w1, w2⟩ := p1.2 (c.2.1.1.length + i) f.1 (by
                    rw [List.getElem?_append_right (by simp)]
                    simp [h1])
                  rw [List.getElem?_append_right (by omega), hlen1, Nat.add_sub_cancel_left, h2] at w1
                  cases w1
                  exact w2) p2 p3 g1 e2
                have hI : la_I ty J scr τs.2.2.2.1 := ⟨p6, p7, (p8.1 0 h0).trans hm.2.2⟩
                have hrest' := se_sv_app δe (se_sv_app δ hrs)
                have hρ' := se_pre (se_pre hρ δ) δe
                cases hret : e.2.1 with
                | none =>
                  rw [q6 hret] at q1
                  cases q1
                | some rv =>
                  obtain ⟨x, rfl, x2⟩ := p5 rv hret
                  obtain ⟨w, x', rfl, w2, w3⟩ := q7 rv hret
                  rw [x2] at w3
                  cases w3
                  exact hk _ _ _ _ _ q1 _ _ _ _ _ hρ' q3 q4 q5 ⟨w2, hrest'⟩ hI
            · cases h
          · cases h
        · cases h
      · cases h
    · cases h
  · cases h
theorem la_arg_ok {tl tl' : List sx_I} {pc c : Nat} (h : la_arg tl pc = some (c, tl')) : 1 ≤ c ∧ c ≤ 5 ∧ ∃ k1 k2 k3 k4 : Nat × Nat × Nat × Int, ∃ j : Fin 4, j.val = 3 ∧ tl = (pc + 1, .iload_n j, 1, k1) :: (pc + 2, .iconst (c : Int), 1, k2) :: (pc + 3, .iadd, 1, k3) :: (pc + 4, .iaload, 1, k4) :: tl' := by
  unfold la_arg at h
  split at h
  · next p1 i1 l1 k1 p2 i2 l2 k2 p3 i3 l3 k3 p4 i4 l4 k4 tl2 =>
    split at h
    · next j cc =>
      split at h
      · next hb =>
        cases h
        simp only [Bool.and_eq_true, decide_eq_true_eq] at hb
        obtain ⟨⟨b1, b2, b3⟩, ⟨⟨b4, b5⟩, b6, b7⟩, ⟨b8, b9⟩, b10, b11⟩ := hb
        have b1 := Nat.eq_of_beq_eq_true b1
        have b4 := Nat.eq_of_beq_eq_true b4
        have b5 := Nat.eq_of_beq_eq_true b5
        have b6 := Nat.eq_of_beq_eq_true b6
        have b7 := Nat.eq_of_beq_eq_true b7
        have b8 := Nat.eq_of_beq_eq_true b8
        have b9 := Nat.eq_of_beq_eq_true b9
        have b10 := Nat.eq_of_beq_eq_true b10
        have b11 := Nat.eq_of_beq_eq_true b11
        subst b4 b5 b6 b7 b8 b9 b10 b11
        exact ⟨by omega, by omega, k1, k2, k3, k4, j, b1, by rw [show ((cc.toNat : Nat) : Int) = cc by omega]⟩
      · cases h
    · cases h
  · cases h
/-- the arms: hx: the two objects are the first unknowns, the script's ints stand from g on -/
theorem la_go_ok (hC : ∀ c ∈ C, se_Met ty se_tt J kx zs c ∧ c.1.2 ≤ 40) (hd : 520 ≤ d) (h0 : ty 0 = none) (hi : i ≤ 5000) (hx : ∀ c, 1 ≤ c → c ≤ 5 → ∃ x : Int32, scr[i + c]? = some (.int x) ∧ ρ0[g + (c - 1)]? = some (.int x)) (hl0 : mm_lget lc 0 = some (.ref 0)) {q1 q2 : Nat} (hl1 : mm_lget lc 1 = some (.ref q1)) (hq1 : ρ0[0]? = some (.ref q1)) (hl2 : mm_lget lc 2 = some (.ref q2)) (hq2 : ρ0[1]? = some (.ref q2)) (hl3 : mm_lget lc 3 = some (hb_z (i : Int))) (hend : ∀ (ρ : List Value) (ds : List se_D) (M : se_M) (m : List mm_C) (cb sb : Nat), ρ0 <+: ρ → se_env ty ρ ds → se_mf ρ M m → (∃ P, se_pf ρ P ∧ la_rel RT ds P M = true) → la_I ty J scr m → mm_T kx zs Q [] (d + 1) (sx_fi 330) (1636, lc, [], m, cb, sb)) : ∀ (n : Nat) (l : List sx_I) (ds : List se_D) (M : se_M) (P : se_P) (st : List se_V) (r : List se_S), la_go C RT g n l ds M P st = some r → (∀ e ∈ l, e ∈ sx_c330) → ∀ (pc : Nat), (∀ e t, l = e :: t → e.1 = pc) → la_Go ty kx zs J Q d scr lc ρ0 pc ds M P st := by
  intro n
  induction n with
  | zero => intro l ds M P st r h; cases h
  | succ n ih =>
    intro l ds M P st r h hl pc hpc
    cases l with
    | nil => cases h
    | cons e tl =>
      obtain ⟨pc', ins, len, kd, a, b, z⟩ := e
      have hpc : pc' = pc := hpc _ _ rfl
      subst hpc
      obtain ⟨hdec, hck⟩ := sx_dec (y := 330) (full := sx_c330) rfl (hl _ List.mem_cons_self)
      dsimp only at hdec
      have htl : ∀ e ∈ tl, e ∈ sx_c330 := fun e he => hl e (List.mem_cons_of_mem _ he)
      have nx : ∀ {k : Nat} {ds : List se_D} {M : se_M} {P : se_P} {st : List se_V} {r : List se_S}, la_nx (la_go C RT g n) tl pc' len k ds M P st = some r → len = k ∧ la_Go ty kx zs J Q d scr lc ρ0 (pc' + k) ds M P st := by
        intro k ds M P st r h
        unfold la_nx at h
        split at h
        · next hb =>
          rw [Bool.and_eq_true] at hb
          exact ⟨Nat.eq_of_beq_eq_true hb.1, ih tl ds M P st r h htl _ (la_at_ok hb.2)⟩
        · cases h
      have to : ∀ {off : Int} {ds : List se_D} {M : se_M} {P : se_P} {st : List se_V} {r : List se_S}, la_to RT (la_go C RT g n) tl pc' len off ds M P st = some r → len = 3 ∧ ∃ tg, mm_tgt pc' off = some tg ∧ la_Go ty kx zs J Q d scr lc ρ0 tg ds M P st := by
        intro off ds M P st r h
        unfold la_to at h
        split at h
        · next h1 =>
          refine ⟨Nat.eq_of_beq_eq_true h1, ?_⟩
          split at h
          · next tg etg =>
            refine ⟨tg, etg, ?_⟩
            split at h
            · next et =>
              have et := Nat.eq_of_beq_eq_true et
              subst et
              split at h
              · next hb =>
                rw [Bool.and_eq_true] at hb
                have hs := List.isEmpty_iff.mp hb.1
                subst hs
                intro ρ sc m cb sb hρ he hM hP hst hm
                cases sx_r2_nil hst
                exact hend ρ ds M m cb sb hρ he hM ⟨P, hP, hb.2⟩ hm
              · cases h
            · exact ih _ ds M P st r h (fun e he => htl e (la_dw.1 e he)) tg la_dw.2
          · cases h
        · cases h
      have hl3' : mm_lget lc 3 = some (.int (Int32.ofInt (i : Int))) := hl3
      unfold la_go at h
      split at h
      · next j =>
        split at h
        · next ej =>
          split at h
          · next c tl' ea =>
            obtain ⟨c1, c2, k1, k2, k3, k4, j3, ej3, rfl⟩ := la_arg_ok ea
            split at h
            · next hb =>
              rw [Bool.and_eq_true] at hb
              have hlen := Nat.eq_of_beq_eq_true hb.1
              subst hlen
              rw [sx_nK_eq] at h
              obtain ⟨v, hpv, h⟩ := la_pushK_ok h
              have hG := ih tl' ds M P _ r h (fun e he => htl e (List.mem_cons_of_mem _ (List.mem_cons_of_mem _ (List.mem_cons_of_mem _ (List.mem_cons_of_mem _ he))))) (pc' + 5) (la_at_ok hb.2)
              intro ρ sc m cb sb hρ he hM hP hst hm
              obtain ⟨x, x1, x2⟩ := hx c c1 c2
              have d1 := (sx_dec (y := 330) (full := sx_c330) rfl (htl _ List.mem_cons_self)).1
              have d2 := (sx_dec (y := 330) (full := sx_c330) rfl (htl _ (List.mem_cons_of_mem _ List.mem_cons_self))).1
              have d3 := (sx_dec (y := 330) (full := sx_c330) rfl (htl _ (List.mem_cons_of_mem _ (List.mem_cons_of_mem _ List.mem_cons_self)))).1
              have d4 := (sx_dec (y := 330) (full := sx_c330) rfl (htl _ (List.mem_cons_of_mem _ (List.mem_cons_of_mem _ (List.mem_cons_of_mem _ List.mem_cons_self))))).1
              dsimp only at d1 d2 d3 d4
              have hj : (Int32.ofInt ((i + c : Nat) : Int)).toInt = ((i + c : Nat) : Int) := se_ofInt (by unfold se_lo; omega) (by unfold se_hi; omega)
              have hjn : (Int32.ofInt ((i + c : Nat) : Int)).toNatClampNeg = i + c := by
                show (Int32.ofInt ((i + c : Nat) : Int)).toInt.toNat = i + c
                rw [hj]
                rfl
              have hneg : ¬ Int32.ofInt ((i + c : Nat) : Int) < 0 := fun q => by
                rw [Int32.lt_iff_toInt_lt, hj] at q
                have : (0 : Int32).toInt = 0 := by decide
                omega
              have hlt := (List.getElem?_eq_some_iff.mp x1).1
              refine mm_T_step hdec rfl (σ' := (pc' + 1, lc, .ref 0 :: sc, m, cb, sb)) (by simp [mm_stp, mm_pure, mm_lda, ej, hl0]) ?_
              refine mm_T_step d1 rfl (σ' := (pc' + 2, lc, .int (Int32.ofInt (i : Int)) :: .ref 0 :: sc, m, cb, sb)) (by simp [mm_stp, mm_pure, mm_ldi, ej3, hl3']) ?_
              refine mm_T_step d2 rfl (σ' := (pc' + 3, lc, .int (Int32.ofInt (c : Int)) :: .int (Int32.ofInt (i : Int)) :: .ref 0 :: sc, m, cb, sb)) (by simp [mm_stp, mm_pure, mm_push]) ?_
              refine mm_T_step d3 rfl (σ' := (pc' + 4, lc, .int (Int32.ofInt ((i + c : Nat) : Int)) :: .ref 0 :: sc, m, cb, sb)) ?_ ?_
              · rw [show ((i + c : Nat) : Int) = (i : Int) + (c : Int) by omega, Int32.ofInt_add]
                simp [mm_stp, mm_pure, mm_bii]
              refine mm_T_step d4 rfl (σ' := (pc' + 5, lc, .int x :: sc, m, cb, sb)) ?_ (hG ρ _ m cb sb hρ he hM hP (se_r2c (hpv ty ρ x he (hb_at hρ x2)) hst) hm)
              show mm_aldS (fun ty => decide (ty = .int)) 1 (pc' + 4, lc, .int (Int32.ofInt ((i + c : Nat) : Int)) :: .ref 0 :: sc, m, cb, sb) = _
              unfold mm_aldS
              dsimp only
              rw [hm.2.2]
              dsimp only
              rw [if_pos ⟨rfl, decide_eq_true rfl, fun q => q.elim hneg (fun q => by rw [hjn] at q; omega)⟩, hjn, x1]
              rfl
            · cases h
          · cases h
        · next ej =>
          obtain ⟨rfl, hG⟩ := nx h
          intro ρ sc m cb sb hρ he hM hP hst hm
          exact mm_T_step hdec rfl (σ' := (pc' + 1, lc, .ref q1 :: sc, m, cb, sb)) (by simp [mm_stp, mm_pure, mm_lda, ej, hl1]) (hG ρ _ m cb sb hρ he hM hP (se_r2c (se_v_one (hb_at hρ hq1)) hst) hm)
        · next ej =>
          obtain ⟨rfl, hG⟩ := nx h
          intro ρ sc m cb sb hρ he hM hP hst hm
          exact mm_T_step hdec rfl (σ' := (pc' + 1, lc, .ref q2 :: sc, m, cb, sb)) (by simp [mm_stp, mm_pure, mm_lda, ej, hl2]) (hG ρ _ m cb sb hρ he hM hP (se_r2c (se_v_one (hb_at hρ hq2)) hst) hm)
        · cases h
      · next c =>
        rw [se_con_eq] at h
        obtain ⟨rfl, hG⟩ := nx h
        intro ρ sc m cb sb hρ he hM hP hst hm
        exact mm_T_step hdec rfl (σ' := (pc' + 1, lc, .int (Int32.ofInt c) :: sc, m, cb, sb)) (by simp [mm_stp, mm_pure, mm_push]) (hG ρ _ m cb sb hρ he hM hP (se_r2c (se_v_i ρ _) hst) hm)
      · next c =>
        rw [se_con_eq] at h
        obtain ⟨rfl, hG⟩ := nx h
        intro ρ sc m cb sb hρ he hM hP hst hm
        exact mm_T_step hdec rfl (σ' := (pc' + 2, lc, .int (Int8.ofInt c).toInt32 :: sc, m, cb, sb)) (by simp [mm_stp, mm_pure, mm_push]) (hG ρ _ m cb sb hρ he hM hP (se_r2c (se_v_i ρ _) hst) hm)
      · split at h
        · next v r =>
          split at h
          · next hb =>
            have hb1 := Nat.eq_of_beq_eq_true hb
            unfold la_long at h
            rw [se_new_eq] at h
            obtain ⟨rfl, hG⟩ := nx h
            intro ρ sc m cb sb hρ he hM hP hst hm
            obtain ⟨b1, rc, rfl, g1, hst1⟩ := sx_r2_cons hst
            obtain ⟨xa, rfl, -⟩ := se_int he g1 hb1
            have hn1 : se_v (ρ ++ [.long xa.toInt64]) (1, ds.length, 0) = some (.long xa.toInt64) := by rw [← he.1]; exact se_v_new ρ _
            exact mm_T_step hdec rfl (σ' := (pc' + 1, lc, .long xa.toInt64 :: rc, m, cb, sb)) (by simp [mm_stp, mm_pure, mm_ui_l]) (hG _ _ m cb sb (se_pre hρ _) (se_env_new he (se_dok0 ⟨_, rfl⟩)) (se_mf_app hM _) (se_pf_app hP _) (se_r2c hn1 (se_sv_app _ hst1)) hm)
          · cases h
        · cases h
      · split at h
        · next v w r =>
          split at h
          · next hb =>
            rw [Bool.and_eq_true] at hb
            have hb1 := Nat.eq_of_beq_eq_true hb.1
            have hb2 := Nat.eq_of_beq_eq_true hb.2
            unfold la_long at h
            rw [se_new_eq] at h
            obtain ⟨rfl, hG⟩ := nx h
            intro ρ sc m cb sb hρ he hM hP hst hm
            obtain ⟨b1, rc, rfl, g1, hst1⟩ := sx_r2_cons hst
            obtain ⟨b2, rc, rfl, g2, hst2⟩ := sx_r2_cons hst1
            obtain ⟨xa, rfl, -⟩ := se_int he g1 hb1
            obtain ⟨xb, rfl⟩ := se_long he g2 hb2
            have hn1 : se_v (ρ ++ [.long (xb <<< (xa.toInt64 &&& 63))]) (1, ds.length, 0) = some (.long (xb <<< (xa.toInt64 &&& 63))) := by rw [← he.1]; exact se_v_new ρ _
            exact mm_T_step hdec rfl (σ' := (pc' + 1, lc, .long (xb <<< (xa.toInt64 &&& 63)) :: rc, m, cb, sb)) (by simp [mm_stp, mm_pure, mm_bli]) (hG _ _ m cb sb (se_pre hρ _) (se_env_new he (se_dok0 ⟨_, rfl⟩)) (se_mf_app hM _) (se_pf_app hP _) (se_r2c hn1 (se_sv_app _ hst2)) hm)
          · cases h
        · cases h
      · split at h
        · next v w r =>
          split at h
          · next hb =>
            rw [Bool.and_eq_true] at hb
            have hb1 := Nat.eq_of_beq_eq_true hb.1
            have hb2 := Nat.eq_of_beq_eq_true hb.2
            unfold la_long at h
            rw [se_new_eq] at h
            obtain ⟨rfl, hG⟩ := nx h
            intro ρ sc m cb sb hρ he hM hP hst hm
            obtain ⟨b1, rc, rfl, g1, hst1⟩ := sx_r2_cons hst
            obtain ⟨b2, rc, rfl, g2, hst2⟩ := sx_r2_cons hst1
            obtain ⟨xa, rfl⟩ := se_long he g1 hb1
            obtain ⟨xb, rfl⟩ := se_long he g2 hb2
            have hn1 : se_v (ρ ++ [.long (xb &&& xa)]) (1, ds.length, 0) = some (.long (xb &&& xa)) := by rw [← he.1]; exact se_v_new ρ _
            exact mm_T_step hdec rfl (σ' := (pc' + 1, lc, .long (xb &&& xa) :: rc, m, cb, sb)) (by simp [mm_stp, mm_pure, mm_bll]) (hG _ _ m cb sb (se_pre hρ _) (se_env_new he (se_dok0 ⟨_, rfl⟩)) (se_mf_app hM _) (se_pf_app hP _) (se_r2c hn1 (se_sv_app _ hst2)) hm)
          · cases h
        · cases h
      · split at h
        · next v w r =>
          split at h
          · next hb =>
            rw [Bool.and_eq_true] at hb
            have hb1 := Nat.eq_of_beq_eq_true hb.1
            have hb2 := Nat.eq_of_beq_eq_true hb.2
            unfold la_long at h
            rw [se_new_eq] at h
            obtain ⟨rfl, hG⟩ := nx h
            intro ρ sc m cb sb hρ he hM hP hst hm
            obtain ⟨b1, rc, rfl, g1, hst1⟩ := sx_r2_cons hst
            obtain ⟨b2, rc, rfl, g2, hst2⟩ := sx_r2_cons hst1
            obtain ⟨xa, rfl⟩ := se_long he g1 hb1
            obtain ⟨xb, rfl⟩ := se_long he g2 hb2
            have hn1 : se_v (ρ ++ [.long (xb ||| xa)]) (1, ds.length, 0) = some (.long (xb ||| xa)) := by rw [← he.1]; exact se_v_new ρ _
            exact mm_T_step hdec rfl (σ' := (pc' + 1, lc, .long (xb ||| xa) :: rc, m, cb, sb)) (by simp [mm_stp, mm_pure, mm_bll]) (hG _ _ m cb sb (se_pre hρ _) (se_env_new he (se_dok0 ⟨_, rfl⟩)) (se_mf_app hM _) (se_pf_app hP _) (se_r2c hn1 (se_sv_app _ hst2)) hm)
          · cases h
        · cases h
      · next idx =>
        split at h
        · next hb =>
          have h1 := Nat.eq_of_beq_eq_true hb
          subst h1
          unfold la_long at h
          rw [se_new_eq] at h
          obtain ⟨rfl, hG⟩ := nx h
          have hpl : sx_pl (sx_fi 330).1 idx (pc', .ldc2_w idx, 3, 7, a, b, z) = true := by
            unfold sx_chk at hck
            rw [Bool.and_eq_true] at hck
            exact hck.2
          obtain ⟨pl, hlk⟩ := sx_pl_ok hpl (by decide)
          intro ρ sc m cb sb hρ he hM hP hst hm
          have hn1 : se_v (ρ ++ [.long (Int64.ofInt z)]) (1, ds.length, 0) = some (.long (Int64.ofInt z)) := by rw [← he.1]; exact se_v_new ρ _
          refine mm_T_step hdec rfl (σ' := (pc' + 3, lc, .long (Int64.ofInt z) :: sc, m, cb, sb)) ?_ (hG _ _ m cb sb (se_pre hρ _) (se_env_new he (se_dok0 ⟨_, rfl⟩)) (se_mf_app hM _) (se_pf_app hP _) (se_r2c hn1 (se_sv_app _ hst)) hm)
          show mm_ldc2S (sx_fi 330).1 3 idx (pc', lc, sc, m, cb, sb) = _
          unfold mm_ldc2S
          rw [hlk]
          exact if_pos (⟨rfl, rfl⟩ : 3 = 3 ∧ idx = idx)
        · cases h
      · split at h
        · next v r =>
          split at h
          · next hb =>
            have hb1 := Nat.eq_of_beq_eq_true hb
            obtain ⟨rfl, hG⟩ := nx h
            intro ρ sc m cb sb hρ he hM hP hst hm
            obtain ⟨b1, rc, rfl, g1, hst1⟩ := sx_r2_cons hst
            obtain ⟨xa, rfl, -⟩ := se_int he g1 hb1
            exact mm_T_step hdec rfl (σ' := (pc' + 1, lc, rc, m, cb, sb)) (by simp [mm_stp, mm_pure, mm_pop, Value.category]) (hG ρ _ m cb sb hρ he hM hP hst1 hm)
          · cases h
        · cases h
      · next cd off =>
        split at h
        · next v r =>
          split at h
          · next tg0 etg0 =>
            intro ρ sc m cb sb hρ he hM hP hst hm
            obtain ⟨b1, rc, rfl, g1, hst1⟩ := sx_r2_cons hst
            obtain ⟨x, z0, rfl, ez, ds', P', l', k1, -, k3, k4⟩ := se_cmp_ok h he hP g1 (se_v_c ρ 0 0)
            cases ez
            cases hc : mm_P2 cd x (Int32.ofInt 0) with
            | true =>
              rw [hc] at k1
              obtain ⟨hl3, tg, et, hG⟩ := to (show la_to RT (la_go C RT g n) tl pc' len off ds' M P' r = some l' from k1)
              subst hl3
              have hc1 : mm_P1 cd x = true := by rw [sx_P1_P2]; exact hc
              exact mm_T_step hdec rfl (σ' := (tg, lc, rc, m, cb, sb)) (by simp [mm_stp, mm_pure, mm_if1, et, hc1]) (hG ρ _ m cb sb hρ k3 hM k4 hst1 hm)
            | false =>
              rw [hc] at k1
              obtain ⟨hl3, hG⟩ := nx (show la_nx (la_go C RT g n) tl pc' len 3 ds' M P' r = some l' from k1)
              subst hl3
              have hc1 : mm_P1 cd x = false := by rw [sx_P1_P2]; exact hc
              exact mm_T_step hdec rfl (σ' := (pc' + 3, lc, rc, m, cb, sb)) (by simp [mm_stp, mm_pure, mm_if1, etg0, hc1]) (hG ρ _ m cb sb hρ k3 hM k4 hst1 hm)
          · cases h
        · cases h
      · next off =>
        split at h
        · next w v r =>
          split at h
          · next hb =>
            rw [Bool.and_eq_true] at hb
            have hvw := se_eq_ok hb.1
            have hb1 := Nat.eq_of_beq_eq_true hb.2
            subst hvw
            obtain ⟨hl3, tg, et, hG⟩ := to h
            subst hl3
            intro ρ sc m cb sb hρ he hM hP hst hm
            obtain ⟨b1, rc, rfl, g1, hst1⟩ := sx_r2_cons hst
            obtain ⟨b2, rc, rfl, g2, hst2⟩ := sx_r2_cons hst1
            rw [show se_sv ρ v b2 ↔ se_v ρ v = some b2 from Iff.rfl, show se_v ρ v = some b1 from g1] at g2
            cases g2
            obtain ⟨xa, rfl, -⟩ := se_int he g1 hb1
            exact mm_T_step hdec rfl (σ' := (tg, lc, rc, m, cb, sb)) (by simp [mm_stp, mm_pure, mm_if2, et, mm_P2]) (hG ρ _ m cb sb hρ he hM hP hst2 hm)
          · intro ρ sc m cb sb hρ he hM hP hst hm
            obtain ⟨b1, rc, rfl, g1, hst1⟩ := sx_r2_cons hst
            obtain ⟨b2, rc, rfl, g2, hst2⟩ := sx_r2_cons hst1
            obtain ⟨x, y, rfl, rfl, ds', P', l', k1, -, k3, k4⟩ := se_cmp_ok h he hP g2 g1
            cases hc : mm_P2 .eq x y with
            | true =>
              rw [hc] at k1
              obtain ⟨hl3, tg, et, hG⟩ := to (show la_to RT (la_go C RT g n) tl pc' len off ds' M P' r = some l' from k1)
              subst hl3
              exact mm_T_step hdec rfl (σ' := (tg, lc, rc, m, cb, sb)) (by simp [mm_stp, mm_pure, mm_if2, et, hc]) (hG ρ _ m cb sb hρ k3 hM k4 hst2 hm)
            | false =>
              rw [hc] at k1
              cases k1
        · cases h
      · next off =>
        obtain ⟨hl3, tg, et, hG⟩ := to h
        subst hl3
        intro ρ sc m cb sb hρ he hM hP hst hm
        exact mm_T_step hdec rfl (σ' := (tg, lc, sc, m, cb, sb)) (by simp [mm_stp, mm_pure, mm_go, et]) (hG ρ _ m cb sb hρ he hM hP hst hm)
      · next idx =>
        split at h
        · next hb =>
          rw [Bool.and_eq_true, Bool.or_eq_true] at hb
          have h1 := Nat.eq_of_beq_eq_true hb.1
          subst h1
          have hkd : kd = 2 ∨ kd = 3 := hb.2.elim (fun q => Or.inl (Nat.eq_of_beq_eq_true q)) (fun q => Or.inr (Nat.eq_of_beq_eq_true q))
          have hpl : sx_pl (sx_fi 330).1 idx (pc', .invokevirtual idx, 3, kd, a, b, z) = true := by
            unfold sx_chk at hck
            rw [Bool.and_eq_true] at hck
            exact hck.2
          obtain ⟨pl, hlk⟩ := sx_pl_ok hpl (by rcases hkd with rfl | rfl <;> decide)
          exact la_call_ok hC hd h0 hdec hlk hkd h (fun ds M P st l h => (nx h).2)
        · cases h
      · cases h
end LAG
/-! what the loop keeps -/
def la_dk (κ : se_K) : se_D := (κ, 0, (0, 0, 0), (0, 0, 0))
def la_ds0 (pk : List se_K) (R : la_R) : List se_D := (pk ++ R.2.map Prod.fst).map la_dk
def la_T (ty : Nat → Option Nat) (pk : List se_K) (R : la_R) (τ : List Value) (m : List mm_C) : Prop := se_env ty τ (la_ds0 pk R) ∧ se_mf τ (la_M0 pk.length R) m
def la_bv (np : Nat) (v : se_V) : Bool := decide (v.1 = 0) || Nat.blt v.2.1 np
/-- the way's own unknowns are the first np -/
def la_wf (np : Nat) (R : la_R) : Bool := R.1.all (fun e => la_bv np e.1 && (la_bv np e.2.1 && la_bv np e.2.2)) && R.2.all (fun e => (la_bv np e.2.1.1 && la_bv np e.2.1.2) && (la_bv np e.2.2.1 && la_bv np e.2.2.2))
theorem la_bv_ok {np : Nat} {v : se_V} {τ ρ : List Value} (h : la_bv np v = true) (e : ∀ k, k < np → τ[k]? = ρ[k]?) : se_v τ v = se_v ρ v := by
  unfold la_bv at h
  rw [Bool.or_eq_true] at h
  unfold se_v
  split
  · rfl
  · next hv =>
    rcases h with h | h
    · exact absurd (of_decide_eq_true h) hv
    · rw [e _ (Nat.blt_eq.mp h)]
theorem la_env_k {ty : Nat → Option Nat} {ks : List se_K} {τ : List Value} : se_env ty τ (ks.map la_dk) ↔ τ.length = ks.length ∧ ∀ (k : Nat) (κ : se_K), ks[k]? = some κ → ∃ w, τ[k]? = some w ∧ se_k ty κ w := by
  constructor
  · intro h
    refine ⟨by have := h.1; rwa [List.length_map] at this, fun k κ hk => ?_⟩
    obtain ⟨w, h1, h2⟩ := h.2 k (la_dk κ) (by rw [List.getElem?_map, hk]; rfl)
    exact ⟨w, h1, h2.1⟩
  · intro h
    refine ⟨by rw [List.length_map]; exact h.1, fun k d hd => ?_⟩
    rw [List.getElem?_map] at hd
    cases hk : ks[k]? with
    | none => rw [hk] at hd; cases hd
    | some κ =>
      rw [hk] at hd
      cases hd
      obtain ⟨w, h1, h2⟩ := h.2 k κ hk
      exact ⟨w, h1, se_dok0 h2⟩
theorem la_ent_eq {ty : Nat → Option Nat} {ρ : List Value} {ds : List se_D} {P : se_P} (he : se_env ty ρ ds) (hp : se_pf ρ P) {x y : se_V} {a b : Int32} (h : se_ent ds P .eq x y = true) (hx : se_v ρ x = some (.int a)) (hy : se_v ρ y = some (.int b)) : a = b := by
  have h : (se_lub ds P x y 0 && se_lub ds P y x 0) = true := h
  rw [Bool.and_eq_true] at h
  obtain ⟨a1, b1, e1, e2, h1⟩ := se_lub_ok he hp h.1 hx hy
  obtain ⟨b2, a2, e3, e4, h2⟩ := se_lub_ok he hp h.2 hy hx
  cases e1
  cases e2
  cases e3
  cases e4
  exact Int32.toInt_inj.mp (by omega)
theorem la_cg_ok {ty : Nat → Option Nat} {ρ : List Value} {ds : List se_D} {P : se_P} (he : se_env ty ρ ds) (hp : se_pf ρ P) {v w : se_V} (h : la_cg ds P v w = true) : ∃ x, se_v ρ v = some x ∧ se_v ρ w = some x := by
  obtain ⟨i, -, h1⟩ := List.any_eq_true.mp h
  split at h1
  · next κ a p hi =>
    rw [Bool.and_eq_true] at h1
    obtain ⟨j, -, h2⟩ := List.any_eq_true.mp h1.2
    split at h2
    · next κ' b q hj =>
      rw [Bool.and_eq_true, Bool.and_eq_true] at h2
      have e1 := se_eq_ok h1.1
      have e2 := se_eq_ok h2.1
      have e3 := se_eq_ok h2.2.1
      subst e1 e2 e3
      obtain ⟨x, x1, x2⟩ := he.2 _ _ hi
      obtain ⟨va, vp, a1, a2, a3⟩ := x2.2 (show (2 : Nat) ≠ 0 by decide)
      obtain ⟨y, y1, y2⟩ := he.2 _ _ hj
      obtain ⟨vb, vq, b1, b2, b3⟩ := y2.2 (show (2 : Nat) ≠ 0 by decide)
      dsimp only at a1 a2 a3 b1 b2 b3
      rw [a2] at b2
      cases b2
      cases va with
      | int na =>
        cases vp with
        | int np =>
          replace a3 : some (Value.int (na - np)) = some x := a3
          cases a3
          cases vb with
          | int nb =>
            replace b3 : some (Value.int (nb - np)) = some y := b3
            cases b3
            have := la_ent_eq he hp h2.2.2 (se_v_one x1) (se_v_one y1)
            have e : na = nb := by
              have h3 := congrArg (fun z => z + np) this
              have h3 : na - np + np = nb - np + np := h3
              rw [Int32.sub_add_cancel, Int32.sub_add_cancel] at h3
              exact h3
            subst e
            exact ⟨_, a1, b1⟩
          | _ => cases b3
        | _ => cases a3
      | _ =>
        cases vp <;> first | cases a3 | (exfalso; revert a3; simp [se_opv])
    · cases h2
  · cases h1
theorem la_newv {ty : Nat → Option Nat} {ρ : List Value} {ds : List se_D} {P : se_P} {M : se_M} (he : se_env ty ρ ds) (hp : se_pf ρ P) {m : List mm_C} (hM : se_mf ρ M m) : ∀ {l : List (se_K × (se_V × se_V) × (se_V × se_V))}, l.all (fun e => match se_find M e.2.1.1 e.2.1.2, se_find M e.2.2.1 e.2.2.2 with
  | some v, some w => (se_eq v w || la_cg ds P v w) && se_is ds v e.1
  | _, _ => false) = true → ∃ vs : List Value, vs.length = l.length ∧ ∀ (k : Nat) (e : se_K × (se_V × se_V) × (se_V × se_V)), l[k]? = some e → ∃ x v w, vs[k]? = some x ∧ se_k ty e.1 x ∧ se_v ρ v = some x ∧ se_v ρ w = some x ∧ (e.2.1.1, e.2.1.2, v) ∈ M ∧ (e.2.2.1, e.2.2.2, w) ∈ M
  | [], _ => ⟨[], rfl, fun k e h => by simp at h⟩
  | a :: l, h => by
    rw [List.all_cons, Bool.and_eq_true] at h
    obtain ⟨vs, h1, h2⟩ := la_newv he hp hM h.2
    have ha := h.1
    split at ha
    · next v w ev ew =>
      rw [Bool.and_eq_true] at ha
      obtain ⟨q, j, x, -, -, -, g4, -⟩ := hM _ (se_find_ok ev)
      have gw : se_v ρ w = some x := by
        have h3 := ha.1
        rw [Bool.or_eq_true] at h3
        rcases h3 with e | e
        · have evw := se_eq_ok e
          subst evw
          exact g4
        · obtain ⟨x', e1, e2⟩ := la_cg_ok he hp e
          rw [show se_v ρ v = some x from g4] at e1
          cases e1
          exact e2
      refine ⟨x :: vs, by simp [h1], fun k e hk => ?_⟩
      cases k with
      | zero =>
        simp at hk
        subst hk
        exact ⟨x, v, w, rfl, se_is_ok ha.2 he g4, g4, gw, se_find_ok ev, se_find_ok ew⟩
      | succ k =>
        simp at hk
        obtain ⟨x', v', w', k1, k2⟩ := h2 k e hk
        exact ⟨x', v', w', by simpa using k1, k2⟩
    · cases ha
theorem la_vals_mem {e : se_V × se_V × se_V} : ∀ {l : List (se_K × (se_V × se_V) × (se_V × se_V))} {n : Nat}, e ∈ la_vals n l → ∃ k a, l[k]? = some a ∧ (e = (a.2.1.1, a.2.1.2, (1, n + k, 0)) ∨ e = (a.2.2.1, a.2.2.2, (1, n + k, 0)))
  | [], n, h => absurd h List.not_mem_nil
  | a :: l, n, h => by
    rcases List.mem_cons.mp h with h | h
    · exact ⟨0, a, rfl, Or.inl h⟩
    · rcases List.mem_cons.mp h with h | h
      · exact ⟨0, a, rfl, Or.inr h⟩
      · obtain ⟨k, b, h1, h2⟩ := la_vals_mem h
        refine ⟨k + 1, b, by simpa using h1, ?_⟩
        rw [show n + (k + 1) = n + 1 + k by omega]
        exact h2
theorem la_rel_ok {ty : Nat → Option Nat} {pk : List se_K} {R : la_R} {τ ρ : List Value} {ds : List se_D} {M : se_M} {m0 m : List mm_C} (hw : la_wf pk.length R = true) (hT : la_T ty pk R τ m0) (hρ : τ <+: ρ) (he : se_env ty ρ ds) (hM : se_mf ρ M m) (h : ∃ P, se_pf ρ P ∧ la_rel R ds P M = true) : ∃ τ', la_T ty pk R τ' m ∧ ∀ k, k < pk.length → τ'[k]? = τ[k]? := by
  obtain ⟨P, hp, h⟩ := h
  unfold la_rel at h
  rw [Bool.and_eq_true] at h
  unfold la_wf at hw
  rw [Bool.and_eq_true] at hw
  obtain ⟨hw1, hw2⟩ := hw
  obtain ⟨vs, v1, v2⟩ := la_newv he hp hM h.2
  obtain ⟨t1, t2⟩ := hT
  unfold la_ds0 at t1
  rw [la_env_k] at t1
  obtain ⟨t1, t3⟩ := t1
  rw [List.length_append, List.length_map] at t1
  have hl : (τ.take pk.length).length = pk.length := by rw [List.length_take]; omega
  have hk0 : ∀ k, k < pk.length → (τ.take pk.length ++ vs)[k]? = τ[k]? := fun k hk => by
    rw [List.getElem?_append_left (by rw [hl]; exact hk), List.getElem?_take, if_pos hk]
  have hk1 : ∀ k, k < pk.length → (τ.take pk.length ++ vs)[k]? = ρ[k]? := fun k hk => by
    rw [hk0 k hk]
    obtain ⟨δ, rfl⟩ := hρ
    rw [List.getElem?_append_left (by omega)]
  have hkv : ∀ k, (τ.take pk.length ++ vs)[pk.length + k]? = vs[k]? := fun k => by
    rw [List.getElem?_append_right (by rw [hl]; omega), hl]
    congr 1
    omega
  refine ⟨τ.take pk.length ++ vs, ⟨?_, fun e hE => ?_⟩, hk0⟩
  · unfold la_ds0
    rw [la_env_k]
    refine ⟨by simp only [List.length_append, List.length_map, hl, v1], fun k κ hk => ?_⟩
    by_cases hkl : k < pk.length
    · obtain ⟨w, w1, w2⟩ := t3 k κ hk
      exact ⟨w, by rw [hk0 k hkl]; exact w1, w2⟩
    · rw [List.getElem?_append_right (by omega), List.getElem?_map] at hk
      cases hq : R.2[k - pk.length]? with
      | none => rw [hq] at hk; cases hk
      | some a =>
        rw [hq] at hk
        cases hk
        obtain ⟨x, v, w, x1, x2, -⟩ := v2 _ _ hq
        refine ⟨x, ?_, x2⟩
        have := hkv (k - pk.length)
        rw [show pk.length + (k - pk.length) = k by omega] at this
        rw [this]
        exact x1
  · unfold la_M0 at hE
    rcases List.mem_append.mp hE with hE | hE
    · have g1 := List.all_eq_true.mp h.1 e hE
      have g2 := List.all_eq_true.mp hw1 e hE
      rw [Bool.and_eq_true, Bool.and_eq_true] at g2
      split at g1
      · next v ev =>
        have e1 := se_eq_ok g1
        subst e1
        obtain ⟨q, j, x, a1, a2, a3, a4, a5⟩ := hM _ (se_find_ok ev)
        exact ⟨q, j, x, by rw [la_bv_ok g2.1 hk1]; exact a1, by rw [la_bv_ok g2.2.1 hk1]; exact a2, a3, by rw [la_bv_ok g2.2.2 hk1]; exact a4, a5⟩
      · cases g1
    · obtain ⟨k, a, ha, hE⟩ := la_vals_mem hE
      obtain ⟨x, v, w, x1, x2, x3, x3w, x4, x5⟩ := v2 k a ha
      have g2 := List.all_eq_true.mp hw2 a (List.mem_of_getElem? ha)
      rw [Bool.and_eq_true, Bool.and_eq_true, Bool.and_eq_true] at g2
      have hv : se_v (τ.take pk.length ++ vs) (1, pk.length + k, 0) = some x := se_v_one (by rw [hkv]; exact x1)
      rcases hE with rfl | rfl
      · obtain ⟨q, j, x', a1, a2, a3, a4, a5⟩ := hM _ x4
        rw [show se_v ρ v = some x from x3] at a4
        cases a4
        exact ⟨q, j, x, by rw [la_bv_ok g2.1.1 hk1]; exact a1, by rw [la_bv_ok g2.1.2 hk1]; exact a2, a3, hv, a5⟩
      · obtain ⟨q, j, x', a1, a2, a3, a4, a5⟩ := hM _ x5
        rw [show se_v ρ w = some x from x3w] at a4
        cases a4
        exact ⟨q, j, x, by rw [la_bv_ok g2.2.1 hk1]; exact a1, by rw [la_bv_ok g2.2.2 hk1]; exact a2, a3, hv, a5⟩
