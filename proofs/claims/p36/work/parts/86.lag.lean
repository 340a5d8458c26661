/-! ===== the law's arms: what the checker says ===== -/
def la_I (ty : Nat → Option Nat) (J : List mm_C → Prop) (scr : List Value) (m : List mm_C) : Prop := se_tm ty se_tt m ∧ J m ∧ m[0]? = some (.inl (.int, scr))
section LAG
variable {ty : Nat → Option Nat} {kx : Nat} {zs : List mm_Zt} {J : List mm_C → Prop} {Q : mm_S → Prop} {d i : Nat} {C : List se_C} {scr : List Value} {lc : List (Nat × Value)}
theorem la_vs_cons {v : la_V} {t : List la_V} {l : List Value} (h : la_vs ty i scr (v :: t) l) : ∃ x l', l = x :: l' ∧ la_v ty i scr v x ∧ la_vs ty i scr t l' := by
  cases l with
  | nil => exact h.elim
  | cons x l' => exact ⟨x, l', rfl, h.1, h.2⟩
theorem la_vi {l h : Int} {o : Option Nat} {x : Value} (q : la_v ty i scr (.inr ((0, l, h), o)) x) : ∃ n : Int32, x = .int n ∧ l ≤ n.toInt ∧ n.toInt ≤ h := q.1
theorem la_vl {l h : Int} {o : Option Nat} {x : Value} (q : la_v ty i scr (.inr ((1, l, h), o)) x) : ∃ n : Int64, x = .long n := q.1
theorem la_vr {t : Nat} {l h : Int} {o : Option Nat} {x : Value} (q : la_v ty i scr (.inr ((t + 2, l, h), o)) x) : ∃ p : Nat, x = .ref p ∧ ty p = some t := q.1
theorem la_ct_ok (hC : ∀ c ∈ C, se_Met ty se_tt J kx zs c) (hd : 520 ≤ d) (h0 : ty 0 = none) {y : Nat} {as r : List la_V} {kk : List la_V → Bool} {t : mm_Mt} (ht : mm_mths[y]? = some t) (h : la_ct C y as r kk = true) {As : List Value} (hv : la_vs ty i scr as As) {m : List mm_C} (hm : la_I ty J scr m) : ∃ (n : Nat) (τ : mm_S) (x : Value) (k : se_K × Option Nat), mm_run kx zs n d (mm_fi t) (mm_ent y As m) = some τ ∧ mm_ret t τ = some (some x) ∧ la_I ty J scr τ.2.2.2.1 ∧ la_v ty i scr (.inr k) x ∧ kk (.inr k :: r) = true := by
  obtain ⟨c, hc, q⟩ := List.any_eq_true.mp h
  simp only [Bool.and_eq_true] at q
  obtain ⟨q1, ⟨q2, q3⟩, ⟨q4, q5, q6⟩, q7⟩ := q
  have q1 := Nat.eq_of_beq_eq_true q1
  have q2 := Nat.le_of_ble_eq_true q2
  have q5 := List.isEmpty_iff.mp q5
  have q6 := List.isEmpty_iff.mp q6
  obtain ⟨f1, f2, f3⟩ := la_fit_ok q3 hv
  have hlen := la_vs_len hv
  obtain ⟨n, τ, v, r1, r2, e, he, δ, p1, p2, p3, p4, p5, p6, p7, p8⟩ := hC c hc d t As As m (by omega) (by rw [q1]; exact ht) ⟨by simp [f1], fun j e hj => by
    obtain ⟨a, w, w1, w2⟩ := f2 j e hj
    exact ⟨w, w1, w2, fun ne => absurd a ne⟩⟩ (fun j u hj => by
    obtain ⟨rfl, hlt⟩ := la_lvs_ok q4 j u hj
    have hlt : 0 + j < As.length := by omega
    obtain ⟨w, hw⟩ : ∃ w, As[0 + j]? = some w := ⟨_, List.getElem?_eq_getElem hlt⟩
    refine ⟨w, ?_, se_v_one hw⟩
    rw [Nat.zero_add] at hw
    have := f3 0 j w hw
    rw [Nat.zero_add] at this
    exact this) (by rw [q5]; exact hb_mf0 _ _) (by rw [q6]; exact hb_pf0 _) hm.1 hm.2.1
  rw [q1] at r1
  have q8 := List.all_eq_true.mp q7 e he
  split at q8
  · next k hk =>
    obtain ⟨x, rfl, hx⟩ := la_res_ok hk hv p1 p5
    exact ⟨n, τ, x, k, r1, r2, ⟨p6, p7, (p8.1 0 h0).trans hm.2.2⟩, hx, q8⟩
  · cases q8
theorem la_call_ok (hC : ∀ c ∈ C, se_Met ty se_tt J kx zs c) (hd : 520 ≤ d) (h0 : ty 0 = none) {y idx kd b pl pc cb sb : Nat} {z : Int} {st : List la_V} {sc : List Value} {m : List mm_C} {kk : List la_V → Bool} (hdec : decode (sx_fi 330).2.1 pc = .ok (.invokevirtual idx, 3)) (hlk : mm_look (sx_fi 330).1 idx = some (idx, kd, y, b, z, pl)) (hkd : kd = 2 ∨ kd = 3) (h : la_call C y st kk = true) (hk : ∀ st', kk st' = true → ∀ (sc : List Value) (m : List mm_C) (cb sb : Nat), la_vs ty i scr st' sc → la_I ty J scr m → mm_T kx zs Q [] (d + 1) (sx_fi 330) (pc + 3, lc, sc, m, cb, sb)) (hv : la_vs ty i scr st sc) (hm : la_I ty J scr m) : mm_T kx zs Q [] (d + 1) (sx_fi 330) (pc, lc, sc, m, cb, sb) := by
  unfold la_call at h
  split at h
  · next t ht =>
    rw [Bool.and_eq_true, Bool.and_eq_true, Bool.and_eq_true] at h
    obtain ⟨h1, ⟨h2, h3⟩, h⟩ := h
    have h1 := Nat.eq_of_beq_eq_true h1
    have h2 := Nat.eq_of_beq_eq_true h2
    have h3 := Nat.eq_of_beq_eq_true h3
    split at h
    · next k r hdr =>
      split at h
      · next u eu =>
        split at h
        · next ci eci =>
          rw [Bool.and_eq_true, Bool.and_eq_true, Bool.and_eq_true] at h
          obtain ⟨⟨h4, h5⟩, h6, h7⟩ := h
          have h4 := Nat.eq_of_beq_eq_true h4
          have h5 := Nat.le_of_ble_eq_true h5
          have h6 := Nat.le_of_ble_eq_true h6
          have hvd := la_vs_drop t.2.2.2.2.2.1 hv
          rw [hdr] at hvd
          obtain ⟨x, rs, hsd, hx, hrs⟩ := la_vs_cons hvd
          obtain ⟨⟨k1, k2, k3⟩, ko⟩ := k
          dsimp only at eu
          subst eu
          obtain ⟨q, rfl, hq⟩ := la_vr hx
          have htc := hm.1 q u hq
          unfold se_tc at htc
          rw [eci] at htc
          obtain ⟨fs, x1, -⟩ := htc
          have hvA : la_vs ty i scr (.inr ((u + 2, k2, k3), ko) :: (st.take t.2.2.2.2.2.1).reverse) (.ref q :: (sc.take t.2.2.2.2.2.1).reverse) := ⟨hx, la_vs_rev (la_vs_take _ hv)⟩
          obtain ⟨n, τ, x, k', r1, r2, r3, r4, r5⟩ := la_ct_ok hC hd h0 ht h7 hvA hm
          have hsum := la_cats hrs
          refine mm_T_call (As := .ref q :: (sc.take t.2.2.2.2.2.1).reverse) (rest := rs) (t := t) hdec rfl (mm_stp_call (Or.inl rfl) hlk hkd) ?_ ht ⟨Nat.le_trans (la_slok hvA) h6, by rw [h2]; exact Nat.zero_le _, by rw [h3]; exact Nat.zero_le _⟩ ⟨n, τ, some x, r1, r2, ?_⟩
          · unfold mm_cal
            dsimp only
            rw [hlk]
            dsimp only
            rw [ht]
            dsimp only
            rw [hsd]
            dsimp only
            rw [x1]
            dsimp only
            rw [if_pos ⟨rfl, rfl, hkd, h1, h4, by omega⟩]
          · exact hk _ r5 (x :: rs) _ _ _ ⟨r4, hrs⟩ r3
        · cases h
      · cases h
    · cases h
  · cases h
theorem la_dw {l : List sx_I} {tg : Nat} : (∀ e ∈ l.dropWhile (fun e => !(Nat.beq e.1 tg)), e ∈ l) ∧ ∀ e t, l.dropWhile (fun e => !(Nat.beq e.1 tg)) = e :: t → e.1 = tg := by
  induction l with
  | nil => exact ⟨fun e h => h, fun e t h => by cases h⟩
  | cons a l ih =>
    by_cases ha : Nat.beq a.1 tg = true
    · rw [List.dropWhile_cons_of_neg (by simp [ha])]
      exact ⟨fun e h => h, fun e t h => by cases h; exact Nat.eq_of_beq_eq_true ha⟩
    · rw [List.dropWhile_cons_of_pos (by simp [ha])]
      exact ⟨fun e h => List.mem_cons_of_mem _ (ih.1 e h), ih.2⟩
theorem la_go_ok {A : Nat → se_K} (hC : ∀ c ∈ C, se_Met ty se_tt J kx zs c) (hd : 520 ≤ d) (h0 : ty 0 = none) (hi : i ≤ 5000) (hA : ∀ c, c ≤ 5 → ∃ x : Int32, scr[i + c]? = some (.int x) ∧ se_k ty (A c) (.int x)) (hl0 : mm_lget lc 0 = some (.ref 0)) {q1 q2 : Nat} (hl1 : mm_lget lc 1 = some (.ref q1)) (hq1 : ty q1 = some 88) (hl2 : mm_lget lc 2 = some (.ref q2)) (hq2 : ty q2 = some 89) (hl3 : mm_lget lc 3 = some (hb_z (i : Int))) (hend : ∀ (m : List mm_C) (cb sb : Nat), la_I ty J scr m → mm_T kx zs Q [] (d + 1) (sx_fi 330) (1636, lc, [], m, cb, sb)) : ∀ (n : Nat) (l : List sx_I) (st : List la_V), la_go C A n l st = true → (∀ e ∈ l, e ∈ sx_c330) → ∀ (pc : Nat) (sc : List Value) (m : List mm_C) (cb sb : Nat), (∀ e t, l = e :: t → e.1 = pc) → la_vs ty i scr st sc → la_I ty J scr m → mm_T kx zs Q [] (d + 1) (sx_fi 330) (pc, lc, sc, m, cb, sb) := by
  intro n
  induction n with
  | zero => intro l st h; cases h
  | succ n ih =>
    intro l st h hl pc sc m cb sb hpc hv hm
    have hl3' : mm_lget lc 3 = some (.int (Int32.ofInt (i : Int))) := hl3
    cases l with
    | nil => cases h
    | cons e tl =>
      obtain ⟨pc', ins, len, kd, a, b, z⟩ := e
      have hpc : pc' = pc := hpc _ _ rfl
      subst hpc
      obtain ⟨hdec, hck⟩ := sx_dec (y := 330) (full := sx_c330) rfl (hl _ List.mem_cons_self)
      dsimp only at hdec
      have htl : ∀ e ∈ tl, e ∈ sx_c330 := fun e he => hl e (List.mem_cons_of_mem _ he)
      have nx : ∀ {k : Nat} {st' : List la_V}, la_nx (la_go C A n) tl pc' len k st' = true → len = k ∧ ∀ (sc : List Value) (m : List mm_C) (cb sb : Nat), la_vs ty i scr st' sc → la_I ty J scr m → mm_T kx zs Q [] (d + 1) (sx_fi 330) (pc' + k, lc, sc, m, cb, sb) := by
        intro k st' h
        unfold la_nx at h
        rw [Bool.and_eq_true, Bool.and_eq_true] at h
        obtain ⟨h1, h2, h3⟩ := h
        refine ⟨Nat.eq_of_beq_eq_true h1, fun sc m cb sb hv hm => ih tl st' h3 htl (pc' + k) sc m cb sb (fun e t het => ?_) hv hm⟩
        rw [het] at h2
        exact Nat.eq_of_beq_eq_true h2
      have to : ∀ {off : Int} {st' : List la_V}, la_to (la_go C A n) tl pc' len off st' = true → len = 3 ∧ ∃ tg, mm_tgt pc' off = some tg ∧ ∀ (sc : List Value) (m : List mm_C) (cb sb : Nat), la_vs ty i scr st' sc → la_I ty J scr m → mm_T kx zs Q [] (d + 1) (sx_fi 330) (tg, lc, sc, m, cb, sb) := by
        intro off st' h
        unfold la_to at h
        rw [Bool.and_eq_true] at h
        obtain ⟨h1, h⟩ := h
        refine ⟨Nat.eq_of_beq_eq_true h1, ?_⟩
        split at h
        · next tg etg =>
          refine ⟨tg, etg, fun sc m cb sb hv hm => ?_⟩
          split at h
          · next et =>
            have et := Nat.eq_of_beq_eq_true et
            subst et
            have h := List.isEmpty_iff.mp h
            subst h
            cases sc with
            | nil => exact hend m cb sb hm
            | cons _ _ => exact hv.elim
          · exact ih _ st' h (fun e he => htl e (la_dw.1 e he)) tg sc m cb sb la_dw.2 hv hm
        · cases h
      unfold la_go at h
      split at h
      · next j =>
        split at h
        · next ej =>
          obtain ⟨rfl, h'⟩ := nx h
          exact mm_T_step hdec rfl (σ' := (pc' + 1, lc, .ref 0 :: sc, m, cb, sb)) (by simp [mm_stp, mm_pure, mm_lda, ej, hl0]) (h' _ m cb sb ⟨rfl, hv⟩ hm)
        · next ej =>
          obtain ⟨rfl, h'⟩ := nx h
          exact mm_T_step hdec rfl (σ' := (pc' + 1, lc, .ref q1 :: sc, m, cb, sb)) (by simp [mm_stp, mm_pure, mm_lda, ej, hl1]) (h' _ m cb sb ⟨⟨⟨q1, rfl, hq1⟩, fun c hc => by cases hc⟩, hv⟩ hm)
        · next ej =>
          obtain ⟨rfl, h'⟩ := nx h
          exact mm_T_step hdec rfl (σ' := (pc' + 1, lc, .ref q2 :: sc, m, cb, sb)) (by simp [mm_stp, mm_pure, mm_lda, ej, hl2]) (h' _ m cb sb ⟨⟨⟨q2, rfl, hq2⟩, fun c hc => by cases hc⟩, hv⟩ hm)
        · cases h
      · next j =>
        split at h
        · next ej =>
          obtain ⟨rfl, h'⟩ := nx h
          exact mm_T_step hdec rfl (σ' := (pc' + 1, lc, .int (Int32.ofInt (i : Int)) :: sc, m, cb, sb)) (by simp [mm_stp, mm_pure, mm_ldi, ej, hl3']) (h' _ m cb sb ⟨rfl, hv⟩ hm)
        · cases h
      · next c =>
        rw [Bool.and_eq_true] at h
        obtain ⟨rfl, h2⟩ := nx h.2
        exact mm_T_step hdec rfl (σ' := (pc' + 1, lc, .int (Int32.ofInt c) :: sc, m, cb, sb)) (by simp [mm_stp, mm_pure, mm_push]) (h2 _ m cb sb ⟨⟨hb_kz (ty := ty) (la_ci h.1) (Int.le_refl _) (Int.le_refl _), fun c hc => by cases hc⟩, hv⟩ hm)
      · next c =>
        obtain ⟨rfl, h2⟩ := nx h
        exact mm_T_step hdec rfl (σ' := (pc' + 2, lc, .int (Int8.ofInt c).toInt32 :: sc, m, cb, sb)) (by simp [mm_stp, mm_pure, mm_push]) (h2 _ m cb sb ⟨⟨⟨_, rfl, se_i32 _⟩, fun c hc => by cases hc⟩, hv⟩ hm)
      · split at h
        · next l hh oo r =>
          rw [Bool.and_eq_true, Bool.and_eq_true, Bool.and_eq_true] at h
          obtain ⟨⟨h1, h2, h3⟩, h⟩ := h
          have h1 := of_decide_eq_true h1
          have h2 := of_decide_eq_true h2
          have h3 := of_decide_eq_true h3
          obtain ⟨rfl, h'⟩ := nx h
          obtain ⟨x, sc, rfl, g1, hv1⟩ := la_vs_cons hv
          obtain ⟨y, sc, rfl, g2, hv2⟩ := la_vs_cons hv1
          obtain ⟨nn, rfl, g3, g4⟩ := la_vi g1
          have g2 : y = .int (Int32.ofInt (i : Int)) := g2
          subst g2
          have e1 : nn = Int32.ofInt l := by rw [← Int32.ofInt_toInt nn, show nn.toInt = l by omega]
          subst e1
          refine mm_T_step hdec rfl (σ' := (pc' + 1, lc, .int (Int32.ofInt (i : Int) + Int32.ofInt l) :: sc, m, cb, sb)) (by simp [mm_stp, mm_pure, mm_bii]) (h' _ m cb sb ⟨?_, hv2⟩ hm)
          show Value.int (Int32.ofInt (i : Int) + Int32.ofInt l) = hb_z ((i + l.toNat : Nat) : Int)
          rw [← Int32.ofInt_add, show ((i + l.toNat : Nat) : Int) = (i : Int) + l by omega]
          rfl
        · cases h
      · split at h
        · next c r =>
          rw [Bool.and_eq_true] at h
          obtain ⟨h1, h⟩ := h
          have h1 := Nat.le_of_ble_eq_true h1
          obtain ⟨rfl, h'⟩ := nx h
          obtain ⟨x, sc, rfl, g1, hv1⟩ := la_vs_cons hv
          obtain ⟨y, sc, rfl, g2, hv2⟩ := la_vs_cons hv1
          have g1 : x = .int (Int32.ofInt ((i + c : Nat) : Int)) := g1
          have g2 : y = .ref 0 := g2
          subst g1
          subst g2
          obtain ⟨w, w1, w2⟩ := hA c h1
          have hj : (Int32.ofInt ((i + c : Nat) : Int)).toInt = ((i + c : Nat) : Int) := se_ofInt (by unfold se_lo; omega) (by unfold se_hi; omega)
          have hjn : (Int32.ofInt ((i + c : Nat) : Int)).toNatClampNeg = i + c := by
            show (Int32.ofInt ((i + c : Nat) : Int)).toInt.toNat = i + c
            rw [hj]
            rfl
          have hneg : ¬ Int32.ofInt ((i + c : Nat) : Int) < 0 := fun q => by
            rw [Int32.lt_iff_toInt_lt, hj] at q
            have : (0 : Int32).toInt = 0 := by decide
            omega
          have hlt := (List.getElem?_eq_some_iff.mp w1).1
          refine mm_T_step hdec rfl (σ' := (pc' + 1, lc, .int w :: sc, m, cb, sb)) ?_ (h' _ m cb sb ⟨⟨w2, fun c hc => by cases hc; exact w1⟩, hv2⟩ hm)
          show mm_aldS (fun ty => decide (ty = .int)) 1 (pc', lc, .int (Int32.ofInt ((i + c : Nat) : Int)) :: .ref 0 :: sc, m, cb, sb) = _
          unfold mm_aldS
          dsimp only
          rw [hm.2.2]
          dsimp only
          rw [if_pos ⟨rfl, decide_eq_true rfl, fun q => q.elim hneg (fun q => by rw [hjn] at q; omega)⟩, hjn, w1]
          rfl
        · cases h
      · split at h
        · next r =>
          obtain ⟨rfl, h'⟩ := nx h
          obtain ⟨x, sc, rfl, g1, hv1⟩ := la_vs_cons hv
          obtain ⟨nn, rfl, -⟩ := la_vi g1
          exact mm_T_step hdec rfl (σ' := (pc' + 1, lc, .long nn.toInt64 :: sc, m, cb, sb)) (by simp [mm_stp, mm_pure, mm_ui_l]) (h' _ m cb sb ⟨⟨⟨_, rfl⟩, fun c hc => by cases hc⟩, hv1⟩ hm)
        · cases h
      · split at h
        · next r =>
          obtain ⟨rfl, h'⟩ := nx h
          obtain ⟨x, sc, rfl, g1, hv1⟩ := la_vs_cons hv
          obtain ⟨y, sc, rfl, g2, hv2⟩ := la_vs_cons hv1
          obtain ⟨nn, rfl, -⟩ := la_vi g1
          obtain ⟨mm, rfl⟩ := la_vl g2
          exact mm_T_step hdec rfl (σ' := (pc' + 1, lc, .long (mm <<< (nn.toInt64 &&& 63)) :: sc, m, cb, sb)) (by simp [mm_stp, mm_pure, mm_bli]) (h' _ m cb sb ⟨⟨⟨_, rfl⟩, fun c hc => by cases hc⟩, hv2⟩ hm)
        · cases h
      · split at h
        · next r =>
          obtain ⟨rfl, h'⟩ := nx h
          obtain ⟨x, sc, rfl, g1, hv1⟩ := la_vs_cons hv
          obtain ⟨y, sc, rfl, g2, hv2⟩ := la_vs_cons hv1
          obtain ⟨nn, rfl⟩ := la_vl g1
          obtain ⟨mm, rfl⟩ := la_vl g2
          exact mm_T_step hdec rfl (σ' := (pc' + 1, lc, .long (mm &&& nn) :: sc, m, cb, sb)) (by simp [mm_stp, mm_pure, mm_bll]) (h' _ m cb sb ⟨⟨⟨_, rfl⟩, fun c hc => by cases hc⟩, hv2⟩ hm)
        · cases h
      · split at h
        · next r =>
          obtain ⟨rfl, h'⟩ := nx h
          obtain ⟨x, sc, rfl, g1, hv1⟩ := la_vs_cons hv
          obtain ⟨y, sc, rfl, g2, hv2⟩ := la_vs_cons hv1
          obtain ⟨nn, rfl⟩ := la_vl g1
          obtain ⟨mm, rfl⟩ := la_vl g2
          exact mm_T_step hdec rfl (σ' := (pc' + 1, lc, .long (mm ||| nn) :: sc, m, cb, sb)) (by simp [mm_stp, mm_pure, mm_bll]) (h' _ m cb sb ⟨⟨⟨_, rfl⟩, fun c hc => by cases hc⟩, hv2⟩ hm)
        · cases h
      · next idx =>
        rw [Bool.and_eq_true] at h
        have h1 := Nat.eq_of_beq_eq_true h.1
        subst h1
        obtain ⟨rfl, h2⟩ := nx h.2
        have hpl : sx_pl (sx_fi 330).1 idx (pc', .ldc2_w idx, 3, 7, a, b, z) = true := by
          unfold sx_chk at hck
          rw [Bool.and_eq_true] at hck
          exact hck.2
        obtain ⟨pl, hlk⟩ := sx_pl_ok hpl (by decide)
        refine mm_T_step hdec rfl (σ' := (pc' + 3, lc, .long (Int64.ofInt z) :: sc, m, cb, sb)) ?_ (h2 _ m cb sb ⟨⟨⟨_, rfl⟩, fun c hc => by cases hc⟩, hv⟩ hm)
        show mm_ldc2S (sx_fi 330).1 3 idx (pc', lc, sc, m, cb, sb) = _
        unfold mm_ldc2S
        rw [hlk]
        exact if_pos (⟨rfl, rfl⟩ : 3 = 3 ∧ idx = idx)
      · split at h
        · next r =>
          obtain ⟨rfl, h'⟩ := nx h
          obtain ⟨x, sc, rfl, g1, hv1⟩ := la_vs_cons hv
          obtain ⟨nn, rfl, -⟩ := la_vi g1
          exact mm_T_step hdec rfl (σ' := (pc' + 1, lc, sc, m, cb, sb)) (by simp [mm_stp, mm_pure, mm_pop, Value.category]) (h' _ m cb sb hv1 hm)
        · cases h
      · next c off =>
        split at h
        · next r =>
          rw [Bool.and_eq_true] at h
          obtain ⟨ha, hb⟩ := h
          obtain ⟨rfl, h2⟩ := nx ha
          obtain ⟨-, tg, et, h'⟩ := to hb
          obtain ⟨x, sc, rfl, g1, hv1⟩ := la_vs_cons hv
          obtain ⟨nn, rfl, -⟩ := la_vi g1
          refine mm_T_step hdec rfl (σ' := (if mm_P1 c nn then tg else pc' + 3, lc, sc, m, cb, sb)) (by simp [mm_stp, mm_pure, mm_if1, et]) ?_
          split
          · exact h' _ m cb sb hv1 hm
          · exact h2 _ m cb sb hv1 hm
        · cases h
      · next off =>
        split at h
        · next l hh o l' hh' o' r =>
          rw [Bool.and_eq_true] at h
          obtain ⟨h0, h⟩ := h
          obtain ⟨rfl, tg, et, h'⟩ := to h
          obtain ⟨x, sc, rfl, g1, hv1⟩ := la_vs_cons hv
          obtain ⟨y, sc, rfl, g2, hv2⟩ := la_vs_cons hv1
          obtain ⟨nn, rfl, a1, a2⟩ := la_vi g1
          obtain ⟨mm, rfl, b1, b2⟩ := la_vi g2
          have en : nn = mm := by
            rw [Bool.or_eq_true] at h0
            rcases h0 with h0 | h0
            · rw [Bool.and_eq_true, Bool.and_eq_true] at h0
              have h1 := of_decide_eq_true h0.1
              have h2 := of_decide_eq_true h0.2.1
              have h3 := of_decide_eq_true h0.2.2
              exact Int32.toInt_inj.mp (by omega)
            · cases o with
              | none =>
                cases o' with
                | none => exact absurd h0 (by decide)
                | some b => exact absurd (show false = true from h0) (by decide)
              | some a =>
                cases o' with
                | none => exact absurd (show false = true from h0) (by decide)
                | some b =>
                  have h0 : a = b := Nat.eq_of_beq_eq_true (show Nat.beq a b = true from h0)
                  have k1 := g1.2 a rfl
                  have k2 := g2.2 b rfl
                  rw [h0, k2] at k1
                  cases k1
                  rfl
          subst en
          exact mm_T_step hdec rfl (σ' := (tg, lc, sc, m, cb, sb)) (by simp [mm_stp, mm_pure, mm_if2, et, mm_P2]) (h' _ m cb sb hv2 hm)
        · cases h
      · next off =>
        obtain ⟨rfl, tg, et, h'⟩ := to h
        exact mm_T_step hdec rfl (σ' := (tg, lc, sc, m, cb, sb)) (by simp [mm_stp, mm_pure, mm_go, et]) (h' _ m cb sb hv hm)
      · next idx =>
        rw [Bool.and_eq_true, Bool.and_eq_true] at h
        obtain ⟨⟨h1, h2⟩, h⟩ := h
        have h1 := Nat.eq_of_beq_eq_true h1
        subst h1
        have hkd : kd = 2 ∨ kd = 3 := by
          rw [Bool.or_eq_true] at h2
          rcases h2 with h2 | h2
          · exact Or.inl (Nat.eq_of_beq_eq_true h2)
          · exact Or.inr (Nat.eq_of_beq_eq_true h2)
        have hpl : sx_pl (sx_fi 330).1 idx (pc', .invokevirtual idx, 3, kd, a, b, z) = true := by
          unfold sx_chk at hck
          rw [Bool.and_eq_true] at hck
          exact hck.2
        obtain ⟨pl, hlk⟩ := sx_pl_ok hpl (by rcases hkd with rfl | rfl <;> decide)
        exact la_call_ok hC hd h0 hdec hlk hkd h (fun st' h sc m cb sb hv hm => (nx h).2 sc m cb sb hv hm) hv hm
      · cases h
end LAG
