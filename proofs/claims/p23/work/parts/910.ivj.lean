/-! ===== methods by their values: returns, calls, the step ===== -/
section IVR
variable {L : Nat} {xs : Nat → Int32} {vz : Value} {Q : mm_S → Prop} {ρ : List Int} {μ : iv_M} {d : Nat} {ms : List iv_M} {I : List iv_I} {W : List (List iv_E)} {y : Nat} {full tl : List sx_I} {lv : List (Option iv_V)} {st : List iv_V} {K : List iv_F} {pc : Nat} {lc : List (Nat × Value)} {sc : List Value} {Kc : List mm_Fr} {cb sb : Nat} {l : List (iv_S ⊕ iv_L)} {ins : Instr} {len : Nat}
theorem iv_rok_ok {ty : FieldType} {v : iv_E} {k : List iv_I → iv_R} (h : iv_rok W I ty v k = some l) (hG : ∀ x ∈ l, iv_GX L xs vz Q ρ μ d x) (hm : ms = iv_ms L xs ρ [μ] W) (hI : iv_hI L xs ρ ms I) (hv : iv_i32 (iv_e L xs ρ ms v)) : narrow ty (.int (Int32.ofInt (iv_e L xs ρ ms v))) = .int (Int32.ofInt (iv_e L xs ρ ms v)) ∧ ∃ I' l', k I' = some l' ∧ (∀ x ∈ l', iv_GX L xs vz Q ρ μ d x) ∧ iv_hI L xs ρ ms I' := by
  unfold iv_rok at h
  split at h
  · exact ⟨rfl, I, l, h, hG, hI⟩
  · obtain ⟨h0, r⟩ := iv_ast_ok h hG hm hI (iv_3264 hv) (iv_num64 (by omega) (by omega))
    rw [iv_e_num] at h0
    exact ⟨(iv_nar_bool h0.1 h0.2).1, r⟩
  · obtain ⟨h0, r⟩ := iv_ast_ok h hG hm hI (iv_3264 hv) (iv_num64 (by omega) (by omega))
    rw [iv_e_num] at h0
    refine ⟨(se_nar_ok (ft := .char) (lo := 0) (hi := 65535) (by decide) ?_ ?_).1, r⟩
    · rw [iv_of32 hv]; exact h0.1
    · rw [iv_of32 hv]; have := h0.2; omega
  · split at h
    · next z =>
      split at h
      · next e =>
        refine ⟨?_, I, l, h, hG, hI⟩
        rw [iv_e_num]
        exact e
      · cases h
    · cases h
  · cases h
theorem iv_ret_ok {k : List iv_I → Option iv_V → iv_R} (hd : decode (sx_fi y).2.1 pc = .ok (ins, len)) (h : iv_ret I W y pc ins len st k = some l) (hG : ∀ x ∈ l, iv_GX L xs vz Q ρ μ d x) (hm : ms = iv_ms L xs ρ [μ] W) (hI : iv_hI L xs ρ ms I) (hs : iv_gs L xs ρ ms st sc) : ∃ t, mm_mths[y]? = some t ∧ ∃ I' l' v, k I' v = some l' ∧ (∀ x ∈ l', iv_GX L xs vz Q ρ μ d x) ∧ iv_hI L xs ρ ms I' ∧ (∀ (lc : List (Nat × Value)) (mem : List mm_C) (cb sb : Nat), mm_ret t (pc, lc, sc, mem, cb, sb) = some (v.map (iv_cvs L xs ρ ms))) ∧ ∀ w, v = some w → iv_okv L xs ρ ms w := by
  unfold iv_ret at h
  split at h
  · next t ht =>
    replace hd : decode t.2.2.1 pc = .ok (ins, len) := by
      rw [sx_cods_mths ht] at hd
      exact hd
    refine ⟨t, ht, ?_⟩
    split at h
    · next ty v hty =>
      split at h
      · next e =>
        obtain ⟨rfl, e2⟩ := e
        obtain ⟨k0, v⟩ := v
        have e2 : k0 = 0 := e2
        subst e2
        obtain ⟨s1, rfl, bv, hs⟩ := iv_int hs
        cases iv_gs_nil hs
        obtain ⟨hn, I', l', g1, g2, g3⟩ := iv_rok_ok h hG hm hI bv
        refine ⟨I', l', _, g1, g2, g3, fun lc mem cb sb => ?_, fun w hw => by cases hw; exact bv⟩
        unfold mm_ret
        try dsimp only
        rw [hd]
        try dsimp only
        rw [hty]
        try dsimp only
        rw [if_pos hn]
        rfl
      · cases h
    · next nm v hty =>
      split at h
      · next e =>
        obtain ⟨rfl, e2⟩ := e
        obtain ⟨k0, v⟩ := v
        have e2 : iv_kok 2 k0 = true := e2
        obtain ⟨t0, rfl⟩ : ∃ t0, k0 = t0 + 2 := by
          match k0, e2 with
          | t0 + 2, _ => exact ⟨t0, rfl⟩
        obtain ⟨s1, rfl, bv, hs⟩ := iv_rfv hs
        cases iv_gs_nil hs
        refine ⟨I, l, _, h, hG, hI, fun lc mem cb sb => ?_, fun w hw => by cases hw; exact bv⟩
        unfold mm_ret
        try dsimp only
        rw [hd]
        try dsimp only
        rw [hty]
        rfl
      · cases h
    · next v hty =>
      split at h
      · next e =>
        obtain ⟨rfl, e2⟩ := e
        obtain ⟨k0, v⟩ := v
        have e2 : k0 = 1 := e2
        subst e2
        obtain ⟨s1, rfl, bv, hs⟩ := iv_lng hs
        cases iv_gs_nil hs
        refine ⟨I, l, _, h, hG, hI, fun lc mem cb sb => ?_, fun w hw => by cases hw; exact bv⟩
        unfold mm_ret
        try dsimp only
        rw [hd]
        try dsimp only
        rw [hty]
        rfl
      · cases h
    · next hty =>
      split at h
      · next e =>
        subst e
        cases iv_gs_nil hs
        refine ⟨I, l, _, h, hG, hI, fun lc mem cb sb => ?_, fun w hw => by cases hw⟩
        unfold mm_ret
        try dsimp only
        rw [hd]
        try dsimp only
        rw [hty]
        rfl
      · cases h
    · cases h
  · cases h
theorem iv_args_len : ∀ {vs : List iv_V}, (lg_sl (vs.map (iv_cvs L xs ρ ms))).length = (iv_args vs).length
  | [] => rfl
  | v :: vs => by
    have ih := iv_args_len (vs := vs)
    simp only [lg_sl, List.map_cons, List.flatMap_cons, List.length_append] at ih ⊢
    unfold iv_args
    have hc : (iv_cvs L xs ρ ms v).category = if v.1 = 1 then 2 else 1 := iv_cv_cat
    by_cases h : v.1 = 1
    · rw [hc, if_pos h, if_pos rfl, if_pos (by rw [h]; rfl)]; simp only [List.length_cons, List.length_nil]; omega
    · rw [hc, if_neg h, if_neg (by decide), if_neg (fun q => h (Nat.eq_of_beq_eq_true q))]; simp only [List.length_cons, List.length_nil]; omega
theorem iv_args_gl : ∀ {vs : List iv_V} (k i : Nat) (v : iv_V), (iv_args vs)[i]? = some (some v) → v ∈ vs ∧ mm_lget (lv_args k (vs.map (iv_cvs L xs ρ ms))) (k + i) = some (iv_cvs L xs ρ ms v)
  | [], k, i, v, h => by simp [iv_args] at h
  | u :: vs, k, i, v, h => by
    unfold iv_args at h
    rw [List.map_cons]
    unfold lv_args
    have hc : (iv_cvs L xs ρ ms u).category = if u.1 = 1 then 2 else 1 := iv_cv_cat
    by_cases hL : u.1 = 1
    · rw [if_pos (by rw [hL]; rfl)] at h
      rw [hc, if_pos hL, if_pos rfl]
      match i, h with
      | 0, h => simp at h; subst h; exact ⟨List.mem_cons_self, mm_lget_cons_eq⟩
      | 1, h => simp at h
      | i + 2, h =>
        simp at h
        obtain ⟨g1, g2⟩ := iv_args_gl (k + 2) i v h
        exact ⟨List.mem_cons_of_mem _ g1, by rw [mm_lget_cons_ne (by omega), ← g2]; congr 1; omega⟩
    · rw [if_neg (fun q => hL (Nat.eq_of_beq_eq_true q))] at h
      rw [hc, if_neg hL, if_neg (by decide)]
      match i, h with
      | 0, h => simp at h; subst h; exact ⟨List.mem_cons_self, mm_lget_cons_eq⟩
      | i + 1, h =>
        simp at h
        obtain ⟨g1, g2⟩ := iv_args_gl (k + 1) i v h
        exact ⟨List.mem_cons_of_mem _ g1, by rw [mm_lget_cons_ne (by omega), ← g2]; congr 1; omega⟩
theorem iv_padl_ok {n : Nat} {vs : List iv_V} (hn : (iv_args vs).length ≤ n) (hv : ∀ v ∈ vs, iv_okv L xs ρ ms v) : (iv_padl n (iv_args vs)).length = n ∧ iv_gl L xs ρ ms (iv_padl n (iv_args vs)) (lv_args 0 (vs.map (iv_cvs L xs ρ ms))) := by
  refine ⟨by unfold iv_padl; rw [List.length_append, List.length_replicate]; omega, fun i v hi => ?_⟩
  unfold iv_padl at hi
  by_cases hl : i < (iv_args vs).length
  · rw [List.getElem?_append_left hl] at hi
    obtain ⟨g1, g2⟩ := iv_args_gl (L := L) (xs := xs) (ρ := ρ) (ms := ms) 0 i v hi
    exact ⟨by rw [← g2]; congr 1; omega, hv v g1⟩
  · rw [List.getElem?_append_right (by omega)] at hi
    have := List.eq_of_mem_replicate (List.mem_of_getElem? hi)
    cases this
theorem iv_cal_ok {kd b c want idx : Nat} {z : Int} (hd6 : 6 ≤ d) (hi : (want = 1 ∧ ins = .invokevirtual idx) ∨ (want = 0 ∧ ins = .invokestatic idx)) (hd : decode (sx_fi y).2.1 pc = .ok (ins, len)) (hpl : sx_pl (sx_fi y).1 idx (pc, ins, len, kd, c, b, z) = true) (h : iv_cal I W c y full tl lv st K pc len kd want = some l) (hG : ∀ x ∈ l, iv_GX L xs vz Q ρ μ d x) (B : iv_B L xs ρ μ ms W y full tl lv K lc Kc) (hI : iv_hI L xs ρ ms I) (hs : iv_gs L xs ρ ms st sc) : mm_T 38 (mm_zs vz) Q Kc (d - K.length) (sx_fi y) (pc, lc, sc, iv_m L xs (iv_last ms), cb, sb) := by
  unfold iv_cal at h
  split at h
  · next t code ht hcode =>
    split at h
    · next e1 =>
      obtain ⟨rfl, hkd, hwant, hbud, hKl⟩ := e1
      have hKl := Nat.le_of_ble_eq_true hKl
      obtain ⟨B1, B2, B3, B4, B5, B6, B7, B8⟩ := B
      obtain ⟨pl, hlk⟩ := sx_pl_ok hpl (by rcases hkd with rfl | rfl <;> decide)
      have hisR : mm_isR ins = false := by rcases hi with ⟨-, rfl⟩ | ⟨-, rfl⟩ <;> rfl
      have hstp : mm_stp (sx_fi y).1 (sx_fi y).2.2.1 38 (sx_fi y).2.2.2 (mm_zs vz) ins 3 (pc, lc, sc, iv_m L xs (iv_last ms), cb, sb) = none := mm_stp_call (by rcases hi with ⟨-, h⟩ | ⟨-, h⟩ <;> simp [h]) hlk hkd
      have hdep : d - K.length = (d - (K.length + 1)) + 1 := by omega
      have hcodm : ∀ e ∈ code, e ∈ code := fun _ h => h
      have hzero : ∀ e r, code = e :: r → e.1 = 0 := sx_ent c code hcode
      have hsc : sc = st.map (iv_cvs L xs ρ ms) := hs.1
      have hb0 : (mm_bud c).1 ≤ cb ∧ (mm_bud c).2 ≤ sb := by rw [hbud]; exact ⟨Nat.zero_le _, Nat.zero_le _⟩
      have htk : (sc.take t.2.2.2.2.2.1).reverse = ((st.take t.2.2.2.2.2.1).reverse).map (iv_cvs L xs ρ ms) := by rw [hsc, ← List.map_take, ← List.map_reverse]
      have hdr : iv_gs L xs ρ ms (st.drop t.2.2.2.2.2.1) (sc.drop t.2.2.2.2.2.1) := ⟨by rw [hsc, List.map_drop], fun v hv => hs.2 v (List.mem_of_mem_drop hv)⟩
      have hvt : ∀ v ∈ (st.take t.2.2.2.2.2.1).reverse, iv_okv L xs ρ ms v := fun v hv => hs.2 v (List.mem_of_mem_take (List.mem_reverse.mp hv))
      rw [hdep]
      split at h
      · next hw =>
        rcases hi with ⟨h1, -⟩ | ⟨-, rfl⟩
        · omega
        · split at h
          · next e2 =>
            obtain ⟨n1, n2, n3⟩ := e2
            obtain ⟨cs, hk, hc1, hc2⟩ := sx_nx_inv h B3
            cases hk
            refine mm_T_call (As := (sc.take t.2.2.2.2.2.1).reverse) (rest := sc.drop t.2.2.2.2.2.1) hd hisR hstp ?_ ht ⟨by rw [htk, iv_args_len]; exact n3, hb0⟩ ?_
            · unfold mm_cal
              try dsimp only
              rw [hlk]
              try dsimp only
              rw [ht]
              try dsimp only
              rw [if_pos ⟨rfl, rfl, hkd, by omega, by rw [hsc, List.length_map]; exact n1, by rw [iv_cats_ok hdr]; exact n2⟩]
            · obtain ⟨p1, p2⟩ := iv_padl_ok (L := L) (xs := xs) (ρ := ρ) (ms := ms) n3 hvt
              rw [B1] at p2 hI hdr B5 B6 B8 ⊢
              rw [B1] at htk
              have := hG _ List.mem_cons_self 0 _ [] ((sx_fi y, t, pc + 3, lc, sc.drop t.2.2.2.2.2.1, cb - (mm_bud c).1, sb - (mm_bud c).2) :: Kc) (mm_bud c).1 (mm_bud c).2 ⟨hI, ⟨hcode, hcodm, hzero, by rw [sx_cods_mths ht]; exact p1, p2, ⟨rfl, fun v hv => by cases hv⟩⟩, ⟨ht, rfl, ⟨B2, hc1, hc2, B4, B5, hdr⟩, B6⟩, by dsimp only [List.length_cons]; omega, B8⟩
              rw [sx_cods_mths ht] at this
              rw [htk]
              exact this
          · cases h
      · next hw =>
        split at h
        · next hw1 =>
          rcases hi with ⟨-, rfl⟩ | ⟨h1, -⟩
          · split at h
            · next v r hrs =>
              split at h
              · next e2 =>
                obtain ⟨e3, e4, n2, n3⟩ := e2
                have e3 := Nat.eq_of_beq_eq_true e3
                have e4 := Nat.le_of_ble_eq_true e4
                obtain ⟨v0, v⟩ := v
                have e3 : v0 = t.1 + 2 := e3
                subst e3
                rw [hrs] at hdr
                obtain ⟨s2, hsd, hip, hdr2⟩ := iv_rfv hdr
                have hobj : ∃ fs, (iv_m L xs (iv_last ms))[(iv_e L xs ρ ms v).toNat]? = some (.inr (t.1, fs)) := by
                  obtain ⟨h1, h2, h3⟩ := hip
                  have hlt := iv_pl_lt h2 h3
                  by_cases h15 : t.1 = 15
                  · rw [h15] at h2 ⊢
                    have h4 := iv_pl15 _ hlt h2
                    exact ⟨_, by rw [iv_m_oth (by omega)]; exact iv_m0_str h4.1 h4.2⟩
                  · have ht12 : t.1 ≤ 12 := by
                      have := iv_pl1314 _ hlt
                      rw [h2] at this
                      omega
                    obtain ⟨o1, o2⟩ := iv_own h2 (Or.inl ht12)
                    exact ⟨_, by rw [iv_m_own o1 o2, iv_cl_obj h2 (iv_ars_obj (by omega))]⟩
                obtain ⟨fs, hfs⟩ := hobj
                obtain ⟨cs, hk, hc1, hc2⟩ := sx_nx_inv h B3
                cases hk
                have hAs : (Value.ref (iv_e L xs ρ ms v).toNat :: (sc.take t.2.2.2.2.2.1).reverse) = ((t.1 + 2, v) :: (st.take t.2.2.2.2.2.1).reverse).map (iv_cvs L xs ρ ms) := by rw [htk]; rfl
                refine mm_T_call (As := .ref (iv_e L xs ρ ms v).toNat :: (sc.take t.2.2.2.2.2.1).reverse) (rest := s2) hd hisR hstp ?_ ht ⟨by rw [hAs, iv_args_len]; exact n3, hb0⟩ ?_
                · unfold mm_cal
                  try dsimp only
                  rw [hlk]
                  try dsimp only
                  rw [ht]
                  try dsimp only
                  rw [hsd]
                  try dsimp only
                  rw [hfs]
                  try dsimp only
                  rw [if_pos ⟨rfl, rfl, hkd, by omega, rfl, by rw [iv_cats_ok hdr2]; exact n2⟩]
                · obtain ⟨p1, p2⟩ := iv_padl_ok (L := L) (xs := xs) (ρ := ρ) (ms := ms) n3 (fun w hw => by
                    rcases List.mem_cons.mp hw with rfl | hw
                    · exact hip
                    · exact hvt w hw)
                  rw [hAs]
                  rw [B1] at p2 hI hdr2 B5 B6 B8 ⊢
                  have := hG _ List.mem_cons_self 0 _ [] ((sx_fi y, t, pc + 3, lc, s2, cb - (mm_bud c).1, sb - (mm_bud c).2) :: Kc) (mm_bud c).1 (mm_bud c).2 ⟨hI, ⟨hcode, hcodm, hzero, by rw [sx_cods_mths ht]; exact p1, p2, ⟨rfl, fun v hv => by cases hv⟩⟩, ⟨ht, rfl, ⟨B2, hc1, hc2, B4, B5, hdr2⟩, B6⟩, by dsimp only [List.length_cons]; omega, B8⟩
                  rw [sx_cods_mths ht] at this
                  exact this
              · cases h
            · cases h
          · omega
        · cases h
    · cases h
  · cases h
end IVR
