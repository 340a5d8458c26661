/-! ===== methods by their values: the step is sound, runs are ===== -/
section IVS
variable {L : Nat} {xs : Nat → Int32} {vz : Value} {Q : mm_S → Prop} {ρ : List Int} {μ : iv_M} {d : Nat} {ms : List iv_M} {I : List iv_I} {W : List (List iv_E)} {y : Nat} {full tl : List sx_I} {lv : List (Option iv_V)} {st : List iv_V} {K : List iv_F} {pc : Nat} {lc : List (Nat × Value)} {sc : List Value} {Kc : List mm_Fr} {cb sb : Nat} {l : List (iv_S ⊕ iv_L)} {ins : Instr} {len : Nat}
set_option maxHeartbeats 4000000 in
theorem iv_one_ok (hL : L ≤ 3072) (hd6 : 6 ≤ d) {kd a b : Nat} {z : Int} (hr : mm_isR ins = false) (hd : decode (sx_fi y).2.1 pc = .ok (ins, len)) (hck : sx_chk (sx_fi y).1 (sx_fi y).2.1 (pc, ins, len, kd, a, b, z) = true) (h : iv_one I W y full tl lv st K pc ins len kd a b z = some l) (hG : ∀ x ∈ l, iv_GX L xs vz Q ρ μ d x) (B : iv_B L xs ρ μ ms W y full tl lv K lc Kc) (hI : iv_hI L xs ρ ms I) (hs : iv_gs L xs ρ ms st sc) : mm_T 38 (mm_zs vz) Q Kc (d - K.length) (sx_fi y) (pc, lc, sc, iv_m L xs (iv_last ms), cb, sb) := by
  have hpl := hck
  unfold sx_chk at hpl
  rw [Bool.and_eq_true] at hpl
  replace hpl := hpl.2
  unfold iv_one at h
  split at h
  · -- iconst
    split at h
    · next n e => subst e; exact iv_c_num (k := 1) hd rfl (fun r => rfl) h hG B hI hs
    · cases h
  · split at h
    · next n e => subst e; exact iv_c_num (k := 2) hd rfl (fun r => rfl) h hG B hI hs
    · cases h
  · split at h
    · next n e => subst e; exact iv_c_num (k := 3) hd rfl (fun r => rfl) h hG B hI hs
    · cases h
  · split at h
    · next n e => subst e; exact iv_c_numl (k := 1) hd rfl (fun r => rfl) h hG B hI hs
    · cases h
  · -- ldc
    split at h
    · next e1 =>
      split at h
      · next e2 => subst e2; exact iv_c_ldc (k := 2) (Or.inl ⟨rfl, rfl⟩) hd hpl e1 h hG B hI hs
      · cases h
    · split at h
      · next e2 =>
        obtain ⟨f1, f2, f3, f4, f5, f6⟩ := e2
        subst f2
        exact iv_c_ldcs hd hpl ⟨f1, f3, f4, f5, f6⟩ h hG B hI hs
      · cases h
  · split at h
    · next e =>
      obtain ⟨f1, f2⟩ := e
      subst f2
      exact iv_c_ldc (k := 3) (Or.inr ⟨rfl, rfl⟩) hd hpl f1 h hG B hI hs
    · cases h
  · split at h
    · next e =>
      obtain ⟨f1, f2⟩ := e
      subst f2
      exact iv_c_ldc2 hd hpl f1 h hG B hI hs
    · cases h
  · -- idiv
    split at h
    · split at h
      · next e => subst e; exact iv_c_div (o := 10) (by decide) rfl hd rfl (fun a b r hb => by simp only [mm_pure]; unfold mm_bd; dsimp only; exact if_neg hb) h hG B hI hs
      · cases h
    · cases h
  · split at h
    · split at h
      · next e => subst e; exact iv_c_div (o := 11) (by decide) rfl hd rfl (fun a b r hb => by simp only [mm_pure]; unfold mm_bd; dsimp only; exact if_neg hb) h hG B hI hs
      · cases h
    · cases h
  · -- i2l
    split at h
    · next v r =>
      split at h
      · next e =>
        subst e
        obtain ⟨s1, rfl, bv, hs⟩ := iv_int hs
        refine iv_pgo (sc' := .long (Int32.ofInt (iv_e L xs ρ ms v)).toInt64 :: s1) hd rfl rfl h hG B hI (iv_gs_push hs ?_ (iv_3264 bv))
        show Value.long (Int64.ofInt (iv_e L xs ρ ms v)) = _
        congr 1
        apply Int64.toInt_inj.mp
        rw [iv_of64 (iv_3264 bv), Int32.toInt_toInt64, iv_of32 bv]
      · cases h
    · cases h
  · -- l2i
    split at h
    · next v r =>
      split at h
      · next e =>
        subst e
        obtain ⟨s1, rfl, bv, hs⟩ := iv_lng hs
        obtain ⟨e, e1, e2⟩ := iv_un_ok (L := L) (xs := xs) (ρ := ρ) (ms := ms) (o := 28) (a := v) (k := fun v => iv_go I W y full tl lv ((0, v) :: r) K (pc + 1)) (by decide) (by decide)
        rw [e1] at h
        have e2 : iv_e L xs ρ ms e = (Int64.ofInt (iv_e L xs ρ ms v)).toInt32.toInt := e2
        exact iv_pgo (sc' := .int (Int64.ofInt (iv_e L xs ρ ms v)).toInt32 :: s1) hd rfl rfl h hG B hI (iv_pushi hs (by rw [e2, Int32.ofInt_toInt]) (by rw [e2]; exact iv_t32 _))
      · cases h
    · cases h
  · -- lcmp
    split at h
    · next v2 v1 r =>
      split at h
      · next e =>
        subst e
        obtain ⟨s1, rfl, b2, hs⟩ := iv_lng hs
        obtain ⟨s2, rfl, b1, hs⟩ := iv_lng hs
        obtain ⟨e, e1, e2⟩ := iv_bin_ok (L := L) (xs := xs) (ρ := ρ) (ms := ms) (o := 30) (a := v1) (b := v2) (k := fun v => iv_go I W y full tl lv ((0, v) :: r) K (pc + 1)) (by decide) (by decide)
        rw [e1] at h
        have e2 : iv_e L xs ρ ms e = iv_lcmp (iv_e L xs ρ ms v1) (iv_e L xs ρ ms v2) := e2
        have e3 : Int32.ofInt (iv_lcmp (iv_e L xs ρ ms v1) (iv_e L xs ρ ms v2)) = lg_cmp (Int64.ofInt (iv_e L xs ρ ms v1)) (Int64.ofInt (iv_e L xs ρ ms v2)) ∧ iv_i32 (iv_lcmp (iv_e L xs ρ ms v1) (iv_e L xs ρ ms v2)) := by
          unfold iv_lcmp lg_cmp
          by_cases q1 : iv_e L xs ρ ms v2 < iv_e L xs ρ ms v1
          · rw [if_pos q1, if_pos ((iv_lt64 b2 b1).mpr q1)]
            exact ⟨by decide, by unfold iv_i32; omega⟩
          · rw [if_neg q1, if_neg (fun q => q1 ((iv_lt64 b2 b1).mp q))]
            by_cases q2 : iv_e L xs ρ ms v1 = iv_e L xs ρ ms v2
            · rw [if_pos q2, if_pos ((iv_eq64 b1 b2).mpr q2)]
              exact ⟨by decide, by unfold iv_i32; omega⟩
            · rw [if_neg q2, if_neg (fun q => q2 ((iv_eq64 b1 b2).mp q))]
              exact ⟨by decide, by unfold iv_i32; omega⟩
        exact iv_pgo (sc' := .int (lg_cmp (Int64.ofInt (iv_e L xs ρ ms v1)) (Int64.ofInt (iv_e L xs ρ ms v2))) :: s2) hd rfl rfl h hG B hI (iv_pushi hs (by rw [e2, e3.1]) (by rw [e2]; exact e3.2))
      · cases h
    · cases h
  · -- iinc
    split at h
    · next e1 =>
      split at h
      · next e2 =>
        obtain ⟨f1, f2⟩ := e2
        subst f1
        exact iv_c_inc hd e1 f2 h hG B hI hs
      · cases h
    · cases h
  · -- goto
    split at h
    · next ht =>
      split at h
      · next e =>
        subst e
        refine iv_pgo hd rfl ?_ h hG B hI hs
        show mm_go _ _ _ _ _ = _
        unfold mm_go
        rw [ht]
        rfl
      · cases h
    · cases h
  · split at h
    · next ht =>
      split at h
      · next e => subst e; exact iv_c_cmp1 hd ht h hG B hI hs
      · cases h
    · cases h
  · split at h
    · next ht =>
      split at h
      · next e => subst e; exact iv_c_cmp2 hd ht h hG B hI hs
      · cases h
    · cases h
  · split at h
    · split at h
      · next e => exact iv_c_tsw hd e h hG B hI hs
      · cases h
    · cases h
  · split at h
    · split at h
      · next e => exact iv_c_lsw hd e.1 e.2 h hG B hI hs
      · cases h
    · cases h
  · -- dup
    split at h
    · next v r =>
      split at h
      · next e =>
        obtain ⟨f1, f2⟩ := e
        subst f1
        obtain ⟨s1, rfl, bv, hs⟩ := iv_gs_cons hs
        refine iv_pgo (sc' := iv_cvs L xs ρ ms v :: iv_cvs L xs ρ ms v :: s1) hd rfl ?_ h hG B hI (iv_gs_push (iv_gs_push hs rfl bv) rfl bv)
        simp only [mm_pure]
        unfold mm_dup
        try dsimp only
        rw [if_pos ⟨rfl, by have := iv_cats_ok (L := L) (xs := xs) (ρ := ρ) (ms := ms) (st := [v]) (sc := [iv_cvs L xs ρ ms v]) ⟨rfl, fun w hw => by cases List.mem_singleton.mp hw; exact bv⟩; simpa [iv_cats, f2] using this⟩]
      · cases h
    · cases h
  · -- pop
    split at h
    · next v r =>
      split at h
      · next e =>
        obtain ⟨f1, f2⟩ := e
        subst f1
        obtain ⟨s1, rfl, bv, hs⟩ := iv_gs_cons hs
        refine iv_pgo (sc' := s1) hd rfl ?_ h hG B hI hs
        simp only [mm_pure]
        unfold mm_pop
        try dsimp only
        rw [if_pos ⟨rfl, by have := iv_cats_ok (L := L) (xs := xs) (ρ := ρ) (ms := ms) (st := [v]) (sc := [iv_cvs L xs ρ ms v]) ⟨rfl, fun w hw => by cases List.mem_singleton.mp hw; exact bv⟩; simpa [iv_cats, f2] using this⟩]
      · cases h
    · cases h
  · -- dup2
    split at h
    · next v w r =>
      split at h
      · next e =>
        obtain ⟨f1, f2, f3⟩ := e
        subst f1
        obtain ⟨s1, rfl, bv, hs⟩ := iv_gs_cons hs
        obtain ⟨s2, rfl, bw, hs⟩ := iv_gs_cons hs
        refine iv_pgo (sc' := iv_cvs L xs ρ ms v :: iv_cvs L xs ρ ms w :: iv_cvs L xs ρ ms v :: iv_cvs L xs ρ ms w :: s2) hd rfl ?_ h hG B hI (iv_gs_push (iv_gs_push (iv_gs_push (iv_gs_push hs rfl bw) rfl bv) rfl bw) rfl bv)
        simp only [mm_pure]
        unfold mm_dup2
        try dsimp only
        have c1 := iv_cats_ok (L := L) (xs := xs) (ρ := ρ) (ms := ms) (st := [v]) (sc := [iv_cvs L xs ρ ms v]) ⟨rfl, fun w hw => by cases List.mem_singleton.mp hw; exact bv⟩
        have c2 := iv_cats_ok (L := L) (xs := xs) (ρ := ρ) (ms := ms) (st := [w]) (sc := [iv_cvs L xs ρ ms w]) ⟨rfl, fun v hv => by cases List.mem_singleton.mp hv; exact bw⟩
        rw [if_pos ⟨rfl, by simpa [iv_cats, f2] using c1, by simpa [iv_cats, f3] using c2⟩]
      · cases h
    · cases h
  · -- getfield
    split at h
    · split at h
      · next e =>
        obtain ⟨f1, f2, f3, f4⟩ := e
        subst f1
        exact iv_c_getf hd hpl f2 f3 f4 h hG B hI hs
      · cases h
    · cases h
  · -- putfield
    split at h
    · next v t p r =>
      split at h
      · next e =>
        obtain ⟨f1, f2, f3, f4⟩ := e
        subst f1
        split at h
        · next hf hq =>
          split at h
          · next e2 =>
            refine iv_c_putf hd hpl f2 f3 f4 hf (show ((0 : Nat) ≠ 2) by decide) hq e2.1 (fun bv => ?_) h hG B hI hs
            rw [e2.2, iv_fds_sk (iv_ars_obj (by omega)) hf]
            exact ⟨rfl, rfl, bv⟩
          · cases h
        · next hf hq =>
          split at h
          · next e2 =>
            obtain ⟨bv, -⟩ := (iv_gs_cons hs).choose_spec.2
            have bv : iv_i32 (iv_e L xs ρ ms v) := bv
            obtain ⟨h0, I', l', g1, g2, g3⟩ := iv_ast_ok h hG B.1 hI (iv_3264 bv) (iv_num64 (by omega) (by omega))
            rw [iv_e_num] at h0
            refine iv_c_putf hd hpl f2 f3 f4 hf (show ((1 : Nat) ≠ 2) by decide) hq e2.1 (fun bv => ?_) g1 g2 B g3 hs
            rw [e2.2, iv_fds_sk (iv_ars_obj (by omega)) hf]
            exact ⟨(iv_nar_bool h0.1 h0.2).1, (iv_nar_bool h0.1 h0.2).2, h0.1, by have := h0.2; omega⟩
          · cases h
        · cases h
      · cases h
    · cases h
  · -- getstatic
    split at h
    · next e =>
      obtain ⟨f1, f2⟩ := e
      subst f1
      exact iv_c_gst hd hpl f2 h hG B hI hs
    · cases h
  · -- arraylength
    split at h
    · split at h
      · next e => subst e; exact iv_c_len hL hd h hG B hI hs
      · cases h
    · cases h
  · -- invokestatic
    split at h
    · next e =>
      split at h
      · split at h
        · next e2 =>
          obtain ⟨f1, f2⟩ := e2
          subst f1
          exact iv_c_mm hd hpl e (Nat.le_of_ble_eq_true f2) h hG B hI hs
        · cases h
      · cases h
    · split at h
      · next e =>
        split at h
        · split at h
          · next e2 =>
            obtain ⟨f1, f2⟩ := e2
            subst f1
            split at h
            · next g1 g2 => exact iv_c_acp hd hpl e (Nat.le_of_ble_eq_true f2) g1 g2 h hG B hI hs
            · cases h
          · cases h
        · cases h
      · exact iv_cal_ok hd6 (Or.inr ⟨rfl, rfl⟩) hd hpl h hG B hI hs
  · -- invokevirtual
    exact iv_cal_ok hd6 (Or.inl ⟨rfl, rfl⟩) hd hpl h hG B hI hs
  · -- rows
    split at h
    · split at h
      · next e =>
        subst e
        split at h
        · next hq =>
          split at h
          · next e2 => exact iv_c_ald hd hq e2 h hG B hI hs
          · cases h
        · split at h
          · next e2 => exact iv_c_aldo hL hd e2 h hG B hI hs
          · cases h
      · cases h
    · split at h
      · next e =>
        subst e
        split at h
        · next hq =>
          rw [Option.ite_none_right_eq_some] at h
          exact iv_c_ast hd hq h.1.1 h.1.2 h.2 hG B hI hs
        · cases h
      · cases h
    · cases h
theorem iv_step_ok (hL : L ≤ 3072) (hd6 : 6 ≤ d) {stops : List Nat} {S : iv_S} (h : iv_step stops S = some l) (hG : ∀ x ∈ l, iv_GX L xs vz Q ρ μ d x) : iv_GS L xs vz Q ρ μ d S := by
  obtain ⟨I, W, ⟨y, full, cs, lv, st⟩, K⟩ := S
  intro pc lc sc Kc cb sb hX
  obtain ⟨hI, ⟨hfull, hcs, hat, hlen, hgl, hs⟩, hK, hKl, hN⟩ := hX
  dsimp only at hI hfull hcs hat hlen hgl hs hK hKl hN ⊢
  obtain ⟨ms, hm⟩ : ∃ ms, ms = iv_ms L xs ρ [μ] W := ⟨_, rfl⟩
  rw [← hm] at hI hgl hs hK hN ⊢
  unfold iv_step at h
  try dsimp only at h
  split at h
  · cases h
  · next pc' ins len kd a b z tl =>
    have hpc : pc' = pc := hat _ _ rfl
    subst hpc
    obtain ⟨hd, hck⟩ := sx_dec hfull (hcs _ List.mem_cons_self)
    try dsimp only at hd
    have B : iv_B L xs ρ μ ms W y full tl lv K lc Kc := ⟨hm, hfull, fun e he => hcs e (List.mem_cons_of_mem _ he), hlen, hgl, hK, hKl, hN⟩
    split at h
    · next e =>
      rw [Bool.and_eq_true] at e
      cases h
      cases K with
      | cons f K => cases e.1
      | nil =>
        cases Kc with
        | cons c Kc => exact hK.elim
        | nil => exact hG _ List.mem_cons_self ms hm hI lc sc cb sb hgl hs hN
    · split at h
      · next hr =>
        split at h
        · obtain ⟨t, ht, I', l', v, g1, g2, g3, g4, g5⟩ := iv_ret_ok hd h hG hm hI hs
          cases Kc with
          | cons c Kc => exact hK.elim
          | nil =>
            cases g1
            refine mm_T_fin hd hr (g2 _ List.mem_cons_self ms hm g3 (pc', lc, sc, iv_m L xs (iv_last ms), cb, sb) t ht ?_ rfl hN ?_)
            · rw [g4]
              cases v <;> rfl
            · intro w hw
              cases v with
              | none => cases hw
              | some v => cases List.mem_singleton.mp hw; exact g5 _ rfl
        · next y' full' cs' lv' st' K' hf0 =>
          obtain ⟨t, ht, I', l', v, g1, g2, g3, g4, g5⟩ := iv_ret_ok hd h hG hm hI hs
          cases Kc with
          | nil => exact hK.elim
          | cons c Kc =>
            cases g1
            obtain ⟨k1, k2, ⟨f1, f2, f3, f4, f5, f6⟩, k4⟩ := hK
            rw [ht] at k1
            cases k1
            refine mm_T_ret hd hr (g4 _ _ _ _) ?_
            have hdep : d - ((y', full', cs', lv', st') :: K').length + 1 = d - K'.length := by
              simp only [List.length_cons] at hKl ⊢
              omega
            rw [hdep, k2]
            have hfin := g2 _ List.mem_cons_self
            have := hfin c.2.2.1 c.2.2.2.1 ((v.map (iv_cvs L xs ρ ms)).toList ++ c.2.2.2.2.1) Kc c.2.2.2.2.2.1 c.2.2.2.2.2.2 (by
              try dsimp only
              rw [← hm]
              refine ⟨g3, ⟨f1, f2, f3, f4, f5, ?_⟩, k4, by simp only [List.length_cons] at hKl; omega, hN⟩
              cases v with
              | none => exact f6
              | some v => exact iv_gs_push f6 rfl (g5 _ rfl))
            try dsimp only at this
            rw [← hm] at this
            exact this
      · next hr =>
        split at h
        · next i n w e1 =>
          split at h
          · next v e2 =>
            split at h
            · next e3 =>
              subst e3
              obtain ⟨g1, g2, g3⟩ := iv_ld_ok e2 hgl
              obtain ⟨q1, q2⟩ := iv_ol1_ok (pc := pc') (sc := sc) (nL := (sx_fi y).2.2.1) e1 g1 g3
              exact iv_pgo hd hr q1 h hG B hI (iv_gs_push hs rfl g2)
            · cases h
          · cases h
        · split at h
          · next i n w e1 =>
            split at h
            · next v r =>
              split at h
              · next e2 =>
                obtain ⟨rfl, e3⟩ := e2
                obtain ⟨s1, rfl, bv, hs⟩ := iv_gs_cons hs
                split at h
                · next hw =>
                  split at h
                  · next hi =>
                    unfold iv_l2K at h
                    obtain ⟨lv1, q1, q2, q3, q4⟩ := iv_lK_ok h hgl
                    rw [sx_setK_eq] at q1
                    obtain ⟨p1, p2⟩ := iv_os1_ok (pc := pc') (lc := lc) (r := s1) (nL := (sx_fi y).2.2.1) (x := iv_e L xs ρ ms v.2) e1 e3 (by rw [← hlen]; omega) (fun _ => by rw [← hlen]; exact hi)
                    rw [if_pos hw] at p1
                    exact mm_T_step hd hr (iv_pst p1) (iv_go_ok q1 hG ⟨hm, hfull, B.2.2.1, by rw [List.length_set, List.length_set, q2]; exact hlen, iv_l2_key q3 q4 bv, hK, hKl, hN⟩ hI hs)
                  · cases h
                · next hw =>
                  split at h
                  · next hi =>
                    obtain ⟨lv1, q1, q2, q3, q4⟩ := iv_lK_ok h hgl
                    obtain ⟨p1, p2⟩ := iv_os1_ok (pc := pc') (lc := lc) (r := s1) (nL := (sx_fi y).2.2.1) (x := iv_e L xs ρ ms v.2) e1 e3 (by rw [← hlen]; exact hi) (fun q => absurd q hw)
                    rw [if_neg hw] at p1
                    exact mm_T_step hd hr (iv_pst p1) (iv_go_ok q1 hG ⟨hm, hfull, B.2.2.1, by rw [List.length_set, q2]; exact hlen, iv_l1_key q3 q4 bv, hK, hKl, hN⟩ hI hs)
                  · cases h
              · cases h
            · cases h
          · split at h
            · next o e1 =>
              split at h
              · split at h
                · next e2 => subst e2; exact iv_c_bin e1 hd h hG B hI hs
                · cases h
              · cases h
            · split at h
              · next o w e1 =>
                split at h
                · split at h
                  · next e2 =>
                    obtain ⟨f1, f2⟩ := e2
                    subst f1
                    exact iv_c_lop e1 f2 hd h hG B hI hs
                  · cases h
                · cases h
              · split at h
                · next o e1 =>
                  split at h
                  · split at h
                    · next e2 => subst e2; exact iv_c_un e1 hd h hG B hI hs
                    · cases h
                  · cases h
                · exact iv_one_ok hL hd6 hr hd hck h hG B hI hs
theorem iv_pass_ok (hL : L ≤ 3072) (hd6 : 6 ≤ d) {stops : List Nat} : ∀ {w : List (iv_S ⊕ iv_L)} {k : List (iv_S ⊕ iv_L) → iv_R} {l : List (iv_S ⊕ iv_L)}, iv_pass stops w k = some l → ∃ w', k w' = some l ∧ ((∀ x ∈ w', iv_GX L xs vz Q ρ μ d x) → ∀ x ∈ w, iv_GX L xs vz Q ρ μ d x)
  | [], k, l, h => ⟨[], h, fun _ x hx => by cases hx⟩
  | .inr e :: w, k, l, h => by
    unfold iv_pass at h
    obtain ⟨w', h1, h2⟩ := iv_pass_ok hL hd6 h
    refine ⟨_, h1, fun hG x hx => ?_⟩
    rcases List.mem_cons.mp hx with rfl | hx
    · exact hG _ List.mem_cons_self
    · exact h2 (fun z hz => hG z (List.mem_cons_of_mem _ hz)) x hx
  | .inl S :: w, k, l, h => by
    unfold iv_pass at h
    split at h
    · next x hx =>
      obtain ⟨w', h1, h2⟩ := iv_pass_ok hL hd6 h
      rw [iv_catK_eq] at h1
      refine ⟨_, h1, fun hG z hz => ?_⟩
      rcases List.mem_cons.mp hz with rfl | hz
      · exact iv_step_ok hL hd6 hx (fun q hq => hG q (List.mem_append.mpr (Or.inl hq)))
      · exact h2 (fun q hq => hG q (List.mem_append.mpr (Or.inr hq))) z hz
    · cases h
theorem iv_it_ok (hL : L ≤ 3072) (hd6 : 6 ≤ d) {stops : List Nat} : ∀ {n : Nat} {w l : List (iv_S ⊕ iv_L)}, iv_it stops n w = some l → (∀ x ∈ l, iv_GX L xs vz Q ρ μ d x) → ∀ x ∈ w, iv_GX L xs vz Q ρ μ d x
  | 0, w, l, h, hG => by
    unfold iv_it at h
    obtain ⟨w', h1, h2⟩ := iv_pass_ok hL hd6 h
    cases h1
    exact h2 hG
  | n + 1, w, l, h, hG => by
    unfold iv_it at h
    split at h
    · next w1 e => exact iv_it_ok hL hd6 e (iv_it_ok hL hd6 h hG)
    · cases h
end IVS
