/-! ===== runs from cut to cut: calls as steps, stretches copied ===== -/
theorem se_cmp_rg (a b : Int64) : -1 ≤ (lg_cmp a b).toInt ∧ (lg_cmp a b).toInt ≤ 1 := by
  unfold lg_cmp
  split
  · decide
  · split <;> decide
section SER
variable {kx : Nat} {zs : List mm_Zt} {Q : mm_S → Prop} {ρ0 : List Value} {d : Nat}
variable {ty : Nat → Option Nat} {tt : Nat → se_Ty} {W Z : se_W} {tw : Nat} {J : List mm_C → Prop} {m0 : List mm_C} {ρ : List Value} {ds : List se_D} {y : Nat} {full tl : List sx_I} {lv : List (Option se_V)} {st : List se_V} {pc : Nat} {lc : List (Nat × Value)} {sc : List Value} {cb sb : Nat} {M : se_M} {K : List se_F} {Kc : List mm_Fr} {P : se_P} {L : Option se_M} {mc : List mm_C} {l : List se_S}
theorem se_cal_ok {C : List se_C} {lvl : Nat} {cs0 : List sx_I} {len kd b c want idx : Nat} {z : Int} {ins : Instr} (hl1 : 1 ≤ lvl) (hC : ∀ c ∈ C, se_Met ty tt J kx zs c ∧ c.1.2 < lvl) (hdl : 13 * lvl ≤ d) (hi : (want = 1 ∧ ins = .invokevirtual idx) ∨ (want = 0 ∧ ins = .invokestatic idx)) (hd : decode (sx_fi y).2.1 pc = .ok (ins, len)) (hpl : sx_pl (sx_fi y).1 idx (pc, ins, len, kd, c, b, z) = true) (h : se_cal tt C W ds M (y, full, cs0, lv, st) tl K P L c kd len pc want = some l) (hG : ∀ S ∈ l, se_Good ty tt W J m0 kx zs Q ρ0 d S) (hρ : ρ0 <+: ρ) (he : se_env ty ρ ds) (hfull : sx_cods[y]? = some full) (htl : ∀ e ∈ tl, e ∈ full) (hlen : lv.length = (sx_fi y).2.2.1) (hgl : se_gl ρ lv lc) (hst : sx_r2 (se_sv ρ) st sc) (hX : se_X ty tt W J m0 ρ y M K Kc P L mc) : mm_T kx zs Q Kc (d - K.length) (sx_fi y) (pc, lc, sc, mc, cb, sb) := by
  unfold se_cal at h
  dsimp only at h
  split at h
  · next t ht =>
    split at h
    · next e1 =>
      obtain ⟨rfl, hkd, hwant⟩ := e1
      obtain ⟨pl, hlk⟩ := sx_pl_ok hpl (by rcases hkd with rfl | rfl <;> decide)
      have hisR : mm_isR ins = false := by rcases hi with ⟨-, rfl⟩ | ⟨-, rfl⟩ <;> rfl
      have hstp : mm_stp (sx_fi y).1 (sx_fi y).2.2.1 kx (sx_fi y).2.2.2 zs ins 3 (pc, lc, sc, mc, cb, sb) = none := mm_stp_call (by rcases hi with ⟨-, h⟩ | ⟨-, h⟩ <;> simp [h]) hlk hkd
      have hdr := sx_r2_drop hst t.2.2.2.2.2.1
      have htk := sx_r2_rev (sx_r2_take hst t.2.2.2.2.2.1)
      split at h
      · next hw =>
        rcases hi with ⟨h1, -⟩ | ⟨-, rfl⟩
        · omega
        · split at h
          · next n1 =>
            refine se_call_ok hl1 hC hdl h hG hρ he hfull htl hlen hgl hX hd hisR hstp ht htk hdr (fun hc8 => ?_)
            unfold mm_cal
            dsimp only
            rw [hlk]
            dsimp only
            rw [ht]
            dsimp only
            rw [if_pos ⟨rfl, rfl, hkd, by omega, by rw [← sx_r2_len hst]; exact n1, hc8⟩]
          · cases h
      · next hw =>
        split at h
        · next hw1 =>
          rcases hi with ⟨-, rfl⟩ | ⟨h1, -⟩
          · split at h
            · next r rest hrs =>
              split at h
              · next u eu =>
                split at h
                · next ci ft n segs en =>
                  split at h
                  · next e2 =>
                    obtain ⟨rfl, e3⟩ := e2
                    rw [hrs] at hdr
                    obtain ⟨b2, t2, hsd, g2, hdr2⟩ := sx_r2_cons hdr
                    obtain ⟨q, rfl, hq⟩ := se_ref he g2 eu
                    obtain ⟨xs, x1, x2, x3⟩ := se_tc_obj hX.2.2.2.2.2.1 hq en
                    refine se_call_ok hl1 hC hdl h hG hρ he hfull htl hlen hgl hX hd hisR hstp ht (Ac := .ref q :: (sc.take t.2.2.2.2.2.1).reverse) ⟨g2, htk⟩ hdr2 (fun hc8 => ?_)
                    unfold mm_cal
                    dsimp only
                    rw [hlk]
                    dsimp only
                    rw [ht]
                    dsimp only
                    rw [hsd]
                    dsimp only
                    rw [x1]
                    dsimp only
                    rw [if_pos ⟨rfl, rfl, hkd, by omega, rfl, hc8⟩]
                  · cases h
                · cases h
              · cases h
            · cases h
          · omega
        · cases h
    · cases h
  · cases h
theorem se_acp_ok (hJ : se_Jz ty Z J) (hkx : ∀ p t, ty p = some t → tw ≤ t → kx ≤ p) {len : Nat} {kk : se_M → List se_V → se_R} (h : se_acp tt W Z tw ds M P len st kk = some l) (he : se_env ty ρ ds) (hX : se_X ty tt W J m0 ρ y M K Kc P L mc) (hst : sx_r2 (se_sv ρ) st sc) : ∃ n dp dq sp sq xs ys rc, len = 3 ∧ sc = .int n :: .int dp :: .ref dq :: .int sp :: .ref sq :: rc ∧ mc[sq]? = some (.inl (.int, xs)) ∧ mc[dq]? = some (.inl (.int, ys)) ∧ (rc.map fun v => v.category).sum ≤ 8 ∧ kx ≤ sq ∧ kx ≤ dq ∧ ¬ sp < 0 ∧ ¬ dp < 0 ∧ ¬ n < 0 ∧ sp.toNatClampNeg + n.toNatClampNeg ≤ xs.length ∧ (dp.toNatClampNeg + n.toNatClampNeg ≤ ys.length ∧ xs.all (fun v => fits .int v) = true) ∧ ∃ M' st', kk M' st' = some l ∧ sx_r2 (se_sv ρ) st' rc ∧ se_X ty tt W J m0 ρ y M' K Kc P none (mc.set dq (.inl (.int, mm_cpy xs ys sp.toNatClampNeg dp.toNatClampNeg n.toNatClampNeg))) := by
  unfold se_acp at h
  split at h
  · next n dp dd sp s r =>
    have hq := sx_r2_cons hst; clear hst; obtain ⟨b0, rc, rfl, g0, hst⟩ := hq
    have hq := sx_r2_cons hst; clear hst; obtain ⟨b1, rc, rfl, g1, hst⟩ := hq
    have hq := sx_r2_cons hst; clear hst; obtain ⟨b2, rc, rfl, g2, hst⟩ := hq
    have hq := sx_r2_cons hst; clear hst; obtain ⟨b3, rc, rfl, g3, hst⟩ := hq
    have hq := sx_r2_cons hst; clear hst; obtain ⟨b4, rc, rfl, g4, hst⟩ := hq
    split at h
    · next u w eu ew =>
      split at h
      · next N1 s1 N2 s2 en1 en2 =>
        split at h
        · next κ1 κ2 ek1 ek2 =>
          split at h
          · next e1 =>
            obtain ⟨rfl, a1, a2, a3, rfl, a5, a6, a7, a8, a9, a10, a11⟩ := e1
            obtain ⟨hM, hK, hKl, hP, hL, htm, hJm, hF⟩ := hX
            obtain ⟨sq, rfl, hsq⟩ := se_ref he g4 eu
            obtain ⟨dq, rfl, hdq⟩ := se_ref he g2 ew
            obtain ⟨spv, nv, rfl, rfl, p1, p2, p3⟩ := se_sum_ok a8 he hP g3 g0
            obtain ⟨dpv, nv', rfl, en, p4, p5, p6⟩ := se_sum_ok a9 he hP g1 g0
            cases en
            obtain ⟨xs, x1, x2, x3⟩ := se_tc_arr htm hsq en1
            obtain ⟨ys, y1, y2, y3⟩ := se_tc_arr htm hdq en2
            have hneg : ∀ {v : Int32}, 0 ≤ v.toInt → ¬ v < 0 := fun {v} q z => by
              rw [Int32.lt_iff_toInt_lt] at z
              have : (0 : Int32).toInt = 0 := by decide
              omega
            have ec : ∀ v : Int32, v.toNatClampNeg = v.toInt.toNat := fun _ => rfl
            have a7 := Nat.le_of_ble_eq_true a7
            rw [← se_cats_ok he hst] at a7
            have hkap : κ1.1 = 0 := Nat.eq_of_beq_eq_true a3
            have hall : xs.all (fun v => fits .int v) = true := by
              rw [List.all_eq_true]
              intro v hv
              obtain ⟨i, hi⟩ := List.getElem?_of_mem hv
              have hlt := (List.getElem?_eq_some_iff.mp hi).1
              obtain ⟨x, q1, q2⟩ := x3 i (by omega)
              rw [se_flat_ok ek1 (by omega)] at q2
              rw [hi] at q1
              cases q1
              unfold se_k at q2
              rw [hkap] at q2
              obtain ⟨k, rfl, _⟩ := q2
              rfl
            have hlenc : (mm_cpy xs ys spv.toNatClampNeg dpv.toNatClampNeg nv.toNatClampNeg).length = ys.length := by
              unfold mm_cpy
              simp
            have hdl := (List.getElem?_eq_some_iff.mp y1).1
            have hget : ∀ p i, p ≠ dq → se_get (mc.set dq (.inl (.int, mm_cpy xs ys spv.toNatClampNeg dpv.toNatClampNeg nv.toNatClampNeg))) p i = se_get mc p i := by
              intro p i hp
              unfold se_get
              rw [List.getElem?_set_ne (fun e => hp e.symm)]
            rw [se_flt_eq] at h
            refine ⟨nv, dpv, dq, spv, sq, xs, ys, rc, rfl, rfl, x1, y1, a7, hkx sq u hsq (Nat.le_of_ble_eq_true a5), hkx dq w hdq (Nat.le_of_ble_eq_true a6), hneg p1, hneg p4, hneg p2, by rw [ec, ec, x2]; omega, ⟨by rw [ec, ec, y2]; omega, hall⟩, _, _, h, hst, ?_, hK, hKl, hP, fun l0 q => (by cases q), ?_, ?_, ?_⟩
            · intro f hf
              obtain ⟨f1, f2⟩ := List.mem_filter.mp hf
              obtain ⟨q', j', x', z1, z2, z3, z4, z5⟩ := hM f f1
              refine ⟨q', j', x', z1, z2, z3, z4, ?_⟩
              rw [hget q' _ (fun e => ?_)]
              · exact z5
              · subst e
                obtain ⟨t, k1, k2⟩ := se_isRef he z1
                rw [hdq] at k2
                cases k2
                rw [k1] at f2
                simp at f2
            · intro p t hp
              by_cases ep : p = dq
              · subst ep
                rw [hdq] at hp
                cases hp
                unfold se_tc
                rw [en2]
                dsimp only
                refine ⟨mm_cpy xs ys spv.toNatClampNeg dpv.toNatClampNeg nv.toNatClampNeg, by rw [List.getElem?_set]; simp [hdl], by rw [hlenc, y2], fun i hi => ?_⟩
                have hi2 : i < ys.length := by omega
                unfold mm_cpy
                rw [List.getElem?_map, List.getElem?_range hi2]
                dsimp only [Option.map]
                split
                · next hc =>
                  rw [ec, ec] at hc
                  obtain ⟨x, q1, q2⟩ := x3 (spv.toInt.toNat + (i - dpv.toInt.toNat)) (by omega)
                  refine ⟨x, ?_, ?_⟩
                  · rw [ec, ec, List.getD_eq_getElem?_getD, q1]
                    rfl
                  · rw [se_flat_ok ek2 hi]
                    rw [se_flat_ok ek1 (by omega)] at q2
                    exact q2
                · obtain ⟨x, q1, q2⟩ := y3 i hi
                  exact ⟨x, by rw [List.getD_eq_getElem?_getD, q1]; rfl, q2⟩
              · rw [List.getElem?_set_ne (fun e => ep e.symm)]
                exact htm p t hp
            · refine hJ mc _ (fun p t i hp hu => hget p i (fun e => ?_)) hJm
              subst e
              rw [hdq] at hp
              cases hp
              obtain ⟨v, v1, v2, _⟩ := hu
              have := List.all_eq_true.mp a11 v v1
              rw [v2] at this
              simp at this
            · refine ⟨fun p hp => ?_, fun p t i hp hu => ?_⟩
              · have : p ≠ dq := fun e => by rw [e, hdq] at hp; cases hp
                rw [List.getElem?_set_ne (fun e => this e.symm)]
                exact hF.1 p hp
              · rw [← hF.2 p t i hp hu]
                by_cases ep : p = dq
                · subst ep
                  rw [hdq] at hp
                  cases hp
                  obtain ⟨v, v1, v2⟩ := List.any_eq_true.mp a10
                  rw [Bool.and_eq_true, Bool.and_eq_true] at v2
                  have w1 := Nat.eq_of_beq_eq_true v2.1
                  have w2 := Nat.eq_of_beq_eq_true v2.2.1
                  have w3 := Nat.le_of_ble_eq_true v2.2.2
                  have hi : ys.length ≤ i := by
                    rcases hu v v1 w1 with q | q
                    · omega
                    · omega
                  unfold se_get
                  rw [List.getElem?_set, y1]
                  simp only [if_true, hdl]
                  rw [List.getElem?_eq_none (by rw [hlenc]; exact hi), List.getElem?_eq_none hi]
                · exact hget p i ep
          · cases h
        · cases h
      · cases h
    · cases h
  · cases h
end SER
