/-! ===== printed by wip/gen_sxok.py: calls, switches, and the step ===== -/
theorem sx_isL_cat {env : Nat → Int32} {v : sx_V} {w : Value} (hg : sx_g env v w) (h : sx_is2 v = true) : w.category = 2 := by
  match v, hg, h with
  | .inl u, hg, h =>
    have : w = u := hg
    subst this
    exact eq_of_beq h
  | .inr (2, k), hg, h => obtain ⟨x, rfl⟩ := hg; rfl
theorem sx_args_len {env : Nat → Int32} : ∀ {vs : List sx_V} {As : List Value}, sx_r2 (sx_g env) vs As → (lg_sl As).length = (sx_args vs).length
  | [], [], _ => rfl
  | v :: vs, w :: As, h => by
    have ih := sx_args_len h.2
    simp only [lg_sl, List.flatMap_cons, List.length_append] at ih ⊢
    unfold sx_args
    cases hL : sx_is2 v with
    | true => rw [sx_isL_cat h.1 hL, if_pos rfl, if_pos rfl]; simp only [List.length_cons, List.length_nil]; omega
    | false => rw [sx_cat_isL h.1 hL, if_neg (by decide), if_neg (by decide)]; simp only [List.length_cons, List.length_nil]; omega
  | [], _ :: _, h => h.elim
  | _ :: _, [], h => h.elim
theorem mm_lget_cons_ne {i j : Nat} {v : Value} {lc : List (Nat × Value)} (h : i ≠ j) : mm_lget ((i, v) :: lc) j = mm_lget lc j := by
  unfold mm_lget
  rw [List.find?_cons_of_neg (by simpa using h)]
theorem mm_lget_cons_eq {i : Nat} {v : Value} {lc : List (Nat × Value)} : mm_lget ((i, v) :: lc) i = some v := by
  unfold mm_lget
  rw [List.find?_cons_of_pos (by simp)]
  rfl
theorem sx_args_gl {env : Nat → Int32} : ∀ {vs : List sx_V} {As : List Value}, sx_r2 (sx_g env) vs As → ∀ (k i : Nat) (v : sx_V), (sx_args vs)[i]? = some (some v) → ∃ x, mm_lget (lv_args k As) (k + i) = some x ∧ sx_g env v x
  | [], [], _, k, i, v, h => by simp [sx_args] at h
  | u :: vs, w :: As, hr, k, i, v, h => by
    unfold sx_args at h
    unfold lv_args
    cases hL : sx_is2 u with
    | true =>
      rw [hL, if_pos rfl] at h
      rw [sx_isL_cat hr.1 hL, if_pos rfl]
      match i, h with
      | 0, h => simp at h; subst h; exact ⟨w, mm_lget_cons_eq, hr.1⟩
      | 1, h => simp at h
      | i + 2, h =>
        simp at h
        obtain ⟨x, g1, g2⟩ := sx_args_gl hr.2 (k + 2) i v h
        exact ⟨x, by rw [mm_lget_cons_ne (by omega), ← g1]; congr 1; omega, g2⟩
    | false =>
      rw [hL, if_neg (by simp)] at h
      rw [sx_cat_isL hr.1 hL, if_neg (by decide)]
      match i, h with
      | 0, h => simp at h; subst h; exact ⟨w, mm_lget_cons_eq, hr.1⟩
      | i + 1, h =>
        simp at h
        obtain ⟨x, g1, g2⟩ := sx_args_gl hr.2 (k + 1) i v h
        exact ⟨x, by rw [mm_lget_cons_ne (by omega), ← g1]; congr 1; omega, g2⟩
  | [], _ :: _, h, _, _, _, _ => h.elim
  | _ :: _, [], h, _, _, _, _ => h.elim
theorem sx_pad_ok {env : Nat → Int32} {n : Nat} {vs : List sx_V} {As : List Value} (h : sx_r2 (sx_g env) vs As) (hn : (sx_args vs).length ≤ n) : (sx_pad n (sx_args vs)).length = n ∧ sx_gl env (sx_pad n (sx_args vs)) (lv_args 0 As) := by
  refine ⟨by unfold sx_pad; simp; omega, fun i v hi => ?_⟩
  unfold sx_pad at hi
  by_cases hl : i < (sx_args vs).length
  · rw [List.getElem?_append_left hl] at hi
    obtain ⟨x, g1, g2⟩ := sx_args_gl h 0 i v hi
    exact ⟨x, by simpa using g1, g2⟩
  · rw [List.getElem?_append_right (by omega)] at hi
    have := List.eq_of_mem_replicate (List.mem_of_getElem? hi)
    cases this
section SXU
variable {kx : Nat} {zs : List mm_Zt} {P : mm_S → Prop} {env : Nat → Int32} {iv : List (Nat × Nat)} {mem : List sx_C} {y : Nat} {full tl : List sx_I} {lv : List (Option sx_V)} {st : List sx_V} {cb sb : Nat} {K : List sx_F} {l : List sx_S} {pc : Nat} {lc : List (Nat × Value)} {sc : List Value} {mc : List mm_C} {Kc : List mm_Fr}
theorem sx_cods_mths {y : Nat} {t : mm_Mt} (h : mm_mths[y]? = some t) : sx_fi y = mm_fi t := by unfold sx_fi; rw [h]
/-- a call that the pool names: what mm_stp and mm_cal say -/
theorem mm_stp_call {o nL len idx : Nat} {ini : Bool} {kd b pl c : Nat} {z : Int} {σ : mm_S} {ins : Instr} (hi : ins = .invokevirtual idx ∨ ins = .invokestatic idx ∨ ins = .invokespecial idx) (hlk : mm_look o idx = some (idx, kd, c, b, z, pl)) (hk : kd = 2 ∨ kd = 3) : mm_stp o nL kx ini zs ins len σ = none := by
  obtain ⟨pc, lv, st, mem, cb, sb⟩ := σ
  rcases hi with rfl | rfl | rfl
  · rfl
  · show mm_spS o kx len idx (pc, lv, st, mem, cb, sb) = none
    unfold mm_spS
    rw [hlk]
    dsimp only
    split
    · rcases hk with rfl | rfl <;> rfl
    · rfl
  · show mm_spI o len idx (pc, lv, st, mem, cb, sb) = none
    unfold mm_spI
    split
    · next h =>
      rw [hlk]
      dsimp only
      rw [if_neg]
      rintro ⟨-, -, h, -⟩
      rcases hk with rfl | rfl <;> cases h
    · rfl
theorem sx_cal_ok {len kd b c want idx : Nat} {z : Int} {ins : Instr} (hi : (want = 1 ∧ ins = .invokevirtual idx) ∨ (want = 0 ∧ ins = .invokestatic idx) ∨ (want = 2 ∧ ins = .invokespecial idx)) (hd : decode (sx_fi y).2.1 pc = .ok (ins, len)) (hpl : sx_pl (sx_fi y).1 idx (pc, ins, len, kd, c, b, z) = true) {cs0 : List sx_I}
    (h : sx_cal c (iv, mem, (y, full, cs0, lv, st, cb, sb), K) kd len want pc tl = some l) (hG : ∀ S ∈ l, sx_Good kx zs P S) (hiv : sx_iv env iv) (hfull : sx_cods[y]? = some full) (htl : ∀ e ∈ tl, e ∈ full) (hlen : lv.length = (sx_fi y).2.2.1) (hgl : sx_gl env lv lc) (hst : sx_r2 (sx_g env) st sc) (hm : sx_r2 (sx_gc env) mem mc) (hK : sx_gK env y K Kc) : mm_T kx zs P Kc (100 - K.length) (sx_fi y) (pc, lc, sc, mc, cb, sb) := by
  unfold sx_cal at h
  dsimp only at h
  split at h
  · next t code ht hcode =>
    split at h
    · next e1 =>
      obtain ⟨rfl, hkd, hwant, hb1, hb2, hKl⟩ := e1
      have hb1 := Nat.le_of_ble_eq_true hb1
      have hb2 := Nat.le_of_ble_eq_true hb2
      obtain ⟨pl, hlk⟩ := sx_pl_ok hpl (by rcases hkd with rfl | rfl <;> decide)
      have hisR : mm_isR ins = false := by rcases hi with ⟨-, rfl⟩ | ⟨-, rfl⟩ | ⟨-, rfl⟩ <;> rfl
      have hstp : mm_stp (sx_fi y).1 (sx_fi y).2.2.1 kx (sx_fi y).2.2.2 zs ins 3 (pc, lc, sc, mc, cb, sb) = none := mm_stp_call (by rcases hi with ⟨-, h⟩ | ⟨-, h⟩ | ⟨-, h⟩ <;> simp [h]) hlk hkd
      have hdep : 100 - K.length = (100 - (K.length + 1)) + 1 := by omega
      rw [hdep]
      have hdr := sx_r2_drop hst t.2.2.2.2.2.1
      have htk := sx_r2_rev (sx_r2_take hst t.2.2.2.2.2.1)
      have hcodm : ∀ e ∈ code, e ∈ code := fun _ h => h
      have hzero : ∀ e r, code = e :: r → e.1 = 0 := sx_ent c code hcode
      split at h
      · next hw =>
        rcases hi with ⟨h1, -⟩ | ⟨-, rfl⟩ | ⟨h1, -⟩
        · omega
        · split at h
          · next e2 =>
            obtain ⟨n1, n2, n3⟩ := e2
            obtain ⟨cs, hk, hc1, hc2⟩ := sx_nx_inv h htl
            cases hk
            have hcats := sx_cats_ok hdr
            refine mm_T_call (As := (sc.take t.2.2.2.2.2.1).reverse) (rest := sc.drop t.2.2.2.2.2.1) hd hisR hstp ?_ ht ⟨by rw [sx_args_len htk]; exact n3, hb1, hb2⟩ ?_
            · unfold mm_cal
              dsimp only
              rw [hlk]
              dsimp only
              rw [ht]
              dsimp only
              rw [if_pos ⟨rfl, rfl, hkd, by omega, by rw [← sx_r2_len hst]; exact n1, Nat.le_trans hcats n2⟩]
            · obtain ⟨p1, p2⟩ := sx_pad_ok htk n3
              have := hG _ List.mem_cons_self env hiv 0 _ [] mc ((sx_fi y, t, pc + 3, lc, sc.drop t.2.2.2.2.2.1, cb - (mm_bud c).1, sb - (mm_bud c).2) :: Kc) ⟨hcode, hcodm, hzero, by rw [sx_cods_mths ht]; exact p1, p2, trivial⟩ hm ⟨ht, rfl, ⟨hfull, hc1, hc2, hlen, hgl, hdr⟩, rfl, hK⟩ (by dsimp only [List.length_cons]; omega)
              rw [sx_cods_mths ht] at this
              exact this
          · cases h
        · omega
      · next hw =>
        split at h
        · next a r hrs =>
          rw [hrs] at hdr
          obtain ⟨b2, t2, hsd, g2, hdr2⟩ := sx_r2_cons hdr
          cases g2
          split at h
          · next ci fs hci =>
            split at h
            · next e2 =>
              obtain ⟨n2, n4, n5, n3⟩ := e2
              obtain ⟨cs, hk, hc1, hc2⟩ := sx_nx_inv h htl
              cases hk
              have hcats := sx_cats_ok hdr2
              obtain ⟨cc, hcc1, hcc2⟩ := sx_r2_get hm hci
              obtain ⟨ws, rfl, -⟩ := sx_gc_obj hcc2
              have htk2 : sx_r2 (sx_g env) (.inl (.ref a) :: (st.take t.2.2.2.2.2.1).reverse) (.ref a :: (sc.take t.2.2.2.2.2.1).reverse) := ⟨rfl, htk⟩
              refine mm_T_call (As := .ref a :: (sc.take t.2.2.2.2.2.1).reverse) (rest := t2) hd hisR hstp ?_ ht ⟨by rw [sx_args_len htk2]; exact n3, hb1, hb2⟩ ?_
              · rcases hi with ⟨h1, rfl⟩ | ⟨h1, -⟩ | ⟨h1, rfl⟩
                · unfold mm_cal
                  dsimp only
                  rw [hlk]
                  dsimp only
                  rw [ht]
                  dsimp only
                  rw [hsd]
                  dsimp only
                  rw [hcc1]
                  dsimp only
                  rw [if_pos ⟨rfl, rfl, hkd, by omega, n4 h1, Nat.le_trans hcats n2⟩]
                · omega
                · unfold mm_cal
                  dsimp only
                  rw [hlk]
                  dsimp only
                  rw [ht]
                  dsimp only
                  rw [hsd]
                  dsimp only
                  rw [if_pos ⟨rfl, rfl, hkd, by omega, n5 h1, Nat.le_trans hcats n2⟩]
              · obtain ⟨p1, p2⟩ := sx_pad_ok htk2 n3
                have := hG _ List.mem_cons_self env hiv 0 _ [] mc ((sx_fi y, t, pc + 3, lc, t2, cb - (mm_bud c).1, sb - (mm_bud c).2) :: Kc) ⟨hcode, hcodm, hzero, by rw [sx_cods_mths ht]; exact p1, p2, trivial⟩ hm ⟨ht, rfl, ⟨hfull, hc1, hc2, hlen, hgl, hdr2⟩, rfl, hK⟩ (by dsimp only [List.length_cons]; omega)
                rw [sx_cods_mths ht] at this
                exact this
            · cases h
          · cases h
        · cases h
    · cases h
  · cases h
theorem sx_rok_ok {ty : FieldType} {v : sx_V} {w : Value} (h : sx_rok ty v = true) (hg : sx_g env v w) : ∃ x, w = .int x ∧ narrow ty (.int x) = .int x := by
  unfold sx_rok at h
  split at h
  · exact ⟨_, hg, of_decide_eq_true h⟩
  · rw [of_decide_eq_true h]; exact ⟨_, hg, rfl⟩
  · obtain ⟨x, rfl⟩ := hg; rw [of_decide_eq_true h]; exact ⟨x, rfl, rfl⟩
  · cases h
theorem sx_ret_ok (hP : ∀ τ : mm_S, τ.2.2.1 = [.int 1] → decode code τ.1 = .ok (.ireturn, 1) → P τ) {ins : Instr} {len : Nat} (hr : mm_isR ins = true) (hd : decode (sx_fi y).2.1 pc = .ok (ins, len)) (h : sx_ret iv mem y ins len st K = some l) (hG : ∀ S ∈ l, sx_Good kx zs P S) (hiv : sx_iv env iv) (hst : sx_r2 (sx_g env) st sc) (hm : sx_r2 (sx_gc env) mem mc) (hK : sx_gK env y K Kc) (hKl : K.length ≤ 60) : mm_T kx zs P Kc (100 - K.length) (sx_fi y) (pc, lc, sc, mc, cb, sb) := by
  unfold sx_ret at h
  split at h
  · cases Kc with
    | cons c Kc => exact hK.elim
    | nil =>
      split at h
      · next v =>
        split at h
        · next e1 =>
          obtain ⟨rfl, rfl, hn⟩ := e1
          have hq := sx_r2_cons hst; clear hst; obtain ⟨b1, t1, rfl, g1, hst⟩ := hq
          cases g1
          cases sx_r2_nil hst
          refine mm_T_fin hd hr (hP _ rfl ?_)
          have : (sx_fi y).2.1 = code := by unfold sx_fi; rw [hn]
          rw [this] at hd
          exact hd
        · cases h
      · cases h
  · next y' full' cs' lv' st' cb' sb' K' =>
    cases Kc with
    | nil => exact hK.elim
    | cons c Kc =>
      obtain ⟨hc1, hc2, hc3, hc4, hc5⟩ := hK
      have hlt : K'.length + 1 ≤ 60 := hKl
      split at h
      · next t ht =>
        cases hc1.symm.trans ht
        have hfi := sx_cods_mths ht
        rw [hfi] at hd
        replace hd : decode c.2.1.2.2.1 pc = .ok (ins, len) := hd
        have goon : ∀ (v : Option Value) (st2 : List sx_V), mm_ret c.2.1 (pc, lc, sc, mc, cb, sb) = some v → l = [(iv, mem, (y', full', cs', lv', st2, cb', sb'), K')] → sx_r2 (sx_g env) st2 (v.toList ++ c.2.2.2.2.1) → mm_T kx zs P (c :: Kc) (100 - (K'.length + 1)) (sx_fi y) (pc, lc, sc, mc, cb, sb) := by
          intro v st2 hv hl hst2
          rw [hfi]
          refine mm_T_ret hd hr hv ?_
          subst hl
          have := hG _ List.mem_cons_self env hiv c.2.2.1 c.2.2.2.1 _ mc Kc ⟨hc3.1, hc3.2.1, hc3.2.2.1, hc3.2.2.2.1, hc3.2.2.2.2.1, hst2⟩ hm hc5 (by dsimp only; omega)
          rw [hc2, show (c.2.2.2.2.2.1, c.2.2.2.2.2.2) = (cb', sb') from hc4]
          dsimp only at this ⊢
          rw [show 100 - (K'.length + 1) + 1 = 100 - K'.length by omega]
          exact this
        split at h
        · next ty v hty =>
          split at h
          · next e1 =>
            obtain ⟨rfl, e2⟩ := e1
            cases h
            have hq := sx_r2_cons hst; clear hst; obtain ⟨b1, t1, rfl, g1, hst⟩ := hq
            cases sx_r2_nil hst
            obtain ⟨x, rfl, hn⟩ := sx_rok_ok e2 g1
            exact goon (some (.int x)) _ (by simp [mm_ret, hd, hty, hn]) rfl ⟨g1, hc3.2.2.2.2.2⟩
          · cases h
        · next nm a hty =>
          split at h
          · next e1 =>
            subst e1
            cases h
            have hq := sx_r2_cons hst; clear hst; obtain ⟨b1, t1, rfl, g1, hst⟩ := hq
            cases sx_r2_nil hst
            cases g1
            exact goon (some (.ref a)) _ (by simp [mm_ret, hd, hty]) rfl ⟨rfl, hc3.2.2.2.2.2⟩
          · cases h
        · next hty =>
          split at h
          · next e1 =>
            subst e1
            cases h
            cases sx_r2_nil hst
            exact goon none _ (by simp [mm_ret, hd, hty]) rfl hc3.2.2.2.2.2
          · cases h
        · cases h
      · cases h
end SXU
