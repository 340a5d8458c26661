/-! ===== runs from cut to cut: fields written, stretches copied, returns ===== -/
section SEQ
variable {kx : Nat} {zs : List mm_Zt} {Q : mm_S → Prop} {ρ0 : List Value} {d : Nat}
variable {ty : Nat → Option Nat} {tt : Nat → se_Ty} {W Z : se_W} {tw : Nat} {J : List mm_C → Prop} {m0 : List mm_C} {ρ : List Value} {ds : List se_D} {y : Nat} {full tl : List sx_I} {lv : List (Option se_V)} {st : List se_V} {pc : Nat} {lc : List (Nat × Value)} {sc : List Value} {cb sb : Nat} {M : se_M} {K : List se_F} {Kc : List mm_Fr} {P : se_P} {L : Option se_M} {mc : List mm_C} {l : List se_S}
theorem se_cix {n k : Nat} (he : se_env ty ρ ds) (ex : se_ix ds P n (0, 0, (k : Int)) = true) : (Int32.ofInt (k : Int)).toInt = (k : Int) := by
  unfold se_ix at ex
  rw [Bool.and_eq_true, Bool.or_eq_true] at ex
  rcases ex.2 with z | z
  · have z : (se_le 0 (se_fit (k : Int) (k : Int)).1 && decide ((se_fit (k : Int) (k : Int)).2 < (n : Int))) = true := z
    rw [Bool.and_eq_true, se_le_iff] at z
    have := se_fit_in z.1
    exact se_ofInt this.1 this.2
  · rw [Bool.and_eq_true] at z
    have z2 := z.1
    unfold se_lub at z2
    split at z2
    · next eo =>
      rw [Bool.and_eq_true] at eo
      obtain ⟨n1, en1, q1, _⟩ := se_okv_ok he (se_v_c ρ 0 (k : Int)) eo.2
      cases en1
      rw [q1]
      show 0 * _ + (k : Int) = _
      omega
    · cases z2
theorem se_putf_ok (hJ : se_Jz ty Z J) (hkx : ∀ p t, ty p = some t → tw ≤ t → kx ≤ p) {len kd ci k : Nat} {kk : se_M → Option se_M → List se_V → se_R} (h : se_putf tt W Z tw ds M P L len kd ci k st kk = some l) (he : se_env ty ρ ds) (hX : se_X ty tt W J m0 ρ y M K Kc P L mc) (hst : sx_r2 (se_sv ρ) st sc) : ∃ x q xs u rc, len = 3 ∧ (kd = 0 ∨ kd = 1) ∧ sc = .int x :: .ref q :: rc ∧ mc[q]? = some (.inr (ci, xs)) ∧ vwCl[ci]? = some u ∧ kx ≤ q ∧ narrow (mm_ty ci k) (.int x) = .int x ∧ fits (mm_ty ci k) (.int x) = true ∧ (u.2.1 k).2.2.2 = false ∧ ∃ M' L' st', kk M' L' st' = some l ∧ sx_r2 (se_sv ρ) st' rc ∧ se_X ty tt W J m0 ρ y M' K Kc P L' (mc.set q (.inr (ci, xs.set k (.int x)))) := by
  unfold se_putf at h
  split at h
  · next v r s =>
    have hq := sx_r2_cons hst; clear hst; obtain ⟨b0, rc, rfl, g0, hst⟩ := hq
    have hq := sx_r2_cons hst; clear hst; obtain ⟨b2, rc, rfl, g2, hst⟩ := hq
    split at h
    · next t et =>
      split at h
      · next ci' ft n segs lo hi u en er eu =>
        split at h
        · next e1 =>
          obtain ⟨rfl, e2, rfl, e3, e4, e5, e6⟩ := e1
          obtain ⟨q, rfl, hq⟩ := se_ref he g2 et
          obtain ⟨x, rfl, a1, a2⟩ := se_int he g0 e4
          rw [er] at a1 a2
          obtain ⟨xs, x1, x2, x3⟩ := se_tc_obj hX.2.2.2.2.2.1 hq en
          have hin : (Int32.ofInt (k : Int)).toInt = (k : Int) := by
            unfold se_store at h
            split at h
            · next ex =>
              rw [Bool.and_eq_true] at ex
              exact se_cix he ex.1
            · cases h
          obtain ⟨j, ej, j1, j2, j3, M', L', k1, k2⟩ := se_store_ok hJ h he hX g2 hq (by rw [en]) (by rw [en]) (se_v_c ρ 0 _) g0
          cases ej
          rw [se_kint k hin, se_set_obj x1] at k2
          exact ⟨x, q, xs, u, rc, rfl, e2, rfl, x1, eu, hkx q t hq j3, (se_nar_ok e5 a1 a2).1, (se_nar_ok e5 a1 a2).2, e6, M', L', _, k1, hst, k2⟩
        · cases h
      · cases h
    · cases h
  · cases h
theorem se_sum_ok {p n : se_V} {N : Nat} {vp vn : Value} (h : se_sum ds P p n N = true) (he : se_env ty ρ ds) (hp : se_pf ρ P) (h1 : se_v ρ p = some vp) (h2 : se_v ρ n = some vn) : ∃ a b : Int32, vp = .int a ∧ vn = .int b ∧ 0 ≤ a.toInt ∧ 0 ≤ b.toInt ∧ a.toInt + b.toInt ≤ (N : Int) := by
  replace h : (se_lub ds P (0, 0, 0) p 0 && (se_lub ds P (0, 0, 0) n 0 && (se_le ((se_rg ds p).2 + (se_rg ds n).2) N || P.any (fun e => match e with
    | (.le, x, y) => se_eq x p && (decide (y.1 = 1) && (decide (y.2.2 = 0) && (match ds[y.2.1]? with
      | some (_, o, a, b) => Nat.beq o 2 && (se_eq b n && (match se_rg ds a, se_rg ds n with
        | (l, h), (l2, h2) => se_le 0 l && (se_le h N && (se_le 0 l2 && se_le h2 2147483647))))
      | none => false)))
    | _ => false)))) = true := h
  rw [Bool.and_eq_true, Bool.and_eq_true, Bool.or_eq_true] at h
  obtain ⟨q1, q2, q3⟩ := h
  obtain ⟨z1, a, ez1, rfl, p1⟩ := se_lub_ok he hp q1 (se_v_c ρ 0 0) h1
  obtain ⟨z2, b, ez2, rfl, p2⟩ := se_lub_ok he hp q2 (se_v_c ρ 0 0) h2
  cases ez1
  cases ez2
  have e0 : (Int32.ofInt 0).toInt = 0 := by decide
  rw [e0] at p1 p2
  refine ⟨a, b, rfl, rfl, by omega, by omega, ?_⟩
  rcases q3 with q3 | q3
  · rw [se_le_iff] at q3
    obtain ⟨a', ea, _, a2⟩ := se_int he h1 (se_isInt he h1)
    obtain ⟨b', eb, _, b2⟩ := se_int he h2 (se_isInt he h2)
    cases ea
    cases eb
    omega
  · obtain ⟨f, f1, f2⟩ := List.any_eq_true.mp q3
    split at f2
    · next x w =>
      rw [Bool.and_eq_true, Bool.and_eq_true, Bool.and_eq_true] at f2
      obtain ⟨r1, r2, r3, r4⟩ := f2
      have r2 := of_decide_eq_true r2
      have r3 := of_decide_eq_true r3
      have r1 := se_eq_ok r1
      subst r1
      split at r4
      · next kk o u v hd =>
        replace r4 : (Nat.beq o 2 && (se_eq v n && (se_le 0 (se_rg ds u).1 && (se_le (se_rg ds u).2 N && (se_le 0 (se_rg ds n).1 && se_le (se_rg ds n).2 2147483647))))) = true := r4
        rw [Bool.and_eq_true, Bool.and_eq_true, Bool.and_eq_true, Bool.and_eq_true, Bool.and_eq_true, se_le_iff, se_le_iff, se_le_iff, se_le_iff] at r4
        obtain ⟨s1, s2, s3, s4, s5, s6⟩ := r4
        have s1 := Nat.eq_of_beq_eq_true s1
        subst s1
        have s2 := se_eq_ok s2
        subst s2
        obtain ⟨wv, w1, w2⟩ := he.2 _ _ hd
        obtain ⟨va, vb, x1, x2, x3⟩ := w2.2 (fun z => by cases z)
        dsimp only at x1 x2 x3
        rw [h2] at x2
        cases x2
        obtain ⟨c, d, c1, c2, c3⟩ := hp _ f1
        dsimp only at c1 c2 c3
        rw [h1] at c1
        cases c1
        have hw : se_v ρ w = some wv := by
          have e : w = (1, w.2.1, 0) := Prod.ext r2 (Prod.ext rfl r3)
          rw [e]
          exact se_v_one w1
        rw [hw] at c2
        cases c2
        cases va with
        | int ua =>
          have x3 : some (Value.int (ua - b)) = some (Value.int d) := x3
          cases x3
          obtain ⟨ua', eu, u1, u2⟩ := se_int he x1 (se_isInt he x1)
          cases eu
          have hc : a.toInt ≤ (ua - b).toInt := Int32.le_iff_toInt_le.mp (of_decide_eq_true c3)
          have hu := se_i32 ua
          have hb := se_i32 b
          unfold se_lo se_hi at hu hb
          have e : (ua - b).toInt = ua.toInt - b.toInt := by
            rw [show ua - b = Int32.ofInt (ua.toInt - b.toInt) by simp, se_ofInt (by unfold se_lo; omega) (by unfold se_hi; omega)]
          omega
        | _ => cases x3
      · cases r4
    · cases f2
theorem se_ret_ok {ins : Instr} {len : Nat} (hr : mm_isR ins = true) (hd : decode (sx_fi y).2.1 pc = .ok (ins, len)) (h : se_ret ds M y ins len st K P L = some l) (hG : ∀ S ∈ l, se_Good ty tt W J m0 kx zs Q ρ0 d S) (hρ : ρ0 <+: ρ) (hd13 : 13 ≤ d) (he : se_env ty ρ ds) (hst : sx_r2 (se_sv ρ) st sc) (hX : se_X ty tt W J m0 ρ y M K Kc P L mc) : mm_T kx zs Q Kc (d - K.length) (sx_fi y) (pc, lc, sc, mc, cb, sb) := by
  unfold se_ret at h
  split at h
  · cases h
  · next y' full' cs' lv' st' K' =>
    obtain ⟨hM, hK, hKl, hP, hL, htm, hJm, hF⟩ := hX
    cases Kc with
    | nil => exact hK.elim
    | cons c Kc =>
      obtain ⟨k1, k2, k3, k4⟩ := hK
      have hKl : K'.length + 1 ≤ 12 := hKl
      rw [k1] at h
      dsimp only at h
      have hdd : decode c.2.1.2.2.1 pc = .ok (ins, len) := by
        rw [sx_cods_mths k1] at hd
        exact hd
      have fin : ∀ {st2 : List se_V} {w : Option Value} {lst : List se_S}, some [(ds, M, (y', full', cs', lv', st2), K', P, L)] = some lst → (∀ S ∈ lst, se_Good ty tt W J m0 kx zs Q ρ0 d S) → mm_ret c.2.1 (pc, lc, sc, mc, cb, sb) = some w → sx_r2 (se_sv ρ) st2 (w.toList ++ c.2.2.2.2.1) → mm_T kx zs Q (c :: Kc) (d - ((y', full', cs', lv', st') :: K').length) (sx_fi y) (pc, lc, sc, mc, cb, sb) := by
        intro st2 w lst e1 e2 e3 e4
        cases e1
        refine mm_T_ret hd hr e3 ?_
        have hdep : d - ((y', full', cs', lv', st') :: K').length + 1 = d - K'.length := by
          show d - (K'.length + 1) + 1 = d - K'.length
          omega
        rw [hdep, k2]
        exact e2 _ List.mem_cons_self ρ hρ c.2.2.1 c.2.2.2.1 _ mc Kc _ _ he ⟨k3.1, k3.2.1, k3.2.2.1, k3.2.2.2.1, k3.2.2.2.2.1, e4⟩ ⟨hM, k4, by show K'.length ≤ 12; omega, hP, hL, htm, hJm, hF⟩
      split at h
      · next fty v hty =>
        have hq := sx_r2_cons hst; clear hst; obtain ⟨b1, rc, rfl, g1, hst⟩ := hq
        cases sx_r2_nil hst
        replace h : (if len = 1 ∧ se_kd ds v = 0 ∧ se_nar fty (se_rg ds v).1 (se_rg ds v).2 = true then some [(ds, M, (y', full', cs', lv', v :: st'), K', P, L)] else none) = some l := h
        split at h
        · next e1 =>
          obtain ⟨rfl, e2, e3⟩ := e1
          obtain ⟨n, rfl, a1, a2⟩ := se_int he g1 e2
          refine fin h hG ?_ ⟨g1, k3.2.2.2.2.2⟩ (w := some (.int n))
          unfold mm_ret
          rw [hdd]
          dsimp only
          rw [hty]
          dsimp only
          rw [if_pos (se_nar_ok e3 a1 a2).1]
          rfl
        · cases h
      · next nm v hty =>
        have hq := sx_r2_cons hst; clear hst; obtain ⟨b1, rc, rfl, g1, hst⟩ := hq
        cases sx_r2_nil hst
        split at h
        · next e1 =>
          obtain ⟨rfl, e2, e3⟩ := e1
          obtain ⟨t, et⟩ : ∃ t, se_kd ds v = t + 2 := ⟨se_kd ds v - 2, by omega⟩
          obtain ⟨q, rfl, _⟩ := se_ref he g1 et
          refine fin h hG ?_ ⟨g1, k3.2.2.2.2.2⟩ (w := some (.ref q))
          unfold mm_ret
          rw [hdd]
          dsimp only
          rw [hty]
          rfl
        · cases h
      · next v hty =>
        have hq := sx_r2_cons hst; clear hst; obtain ⟨b1, rc, rfl, g1, hst⟩ := hq
        cases sx_r2_nil hst
        split at h
        · next e1 =>
          obtain ⟨rfl, e2, e3⟩ := e1
          obtain ⟨n, rfl⟩ := se_long he g1 e2
          refine fin h hG ?_ ⟨g1, k3.2.2.2.2.2⟩ (w := some (.long n))
          unfold mm_ret
          rw [hdd]
          dsimp only
          rw [hty]
          rfl
        · cases h
      · next hty =>
        cases sx_r2_nil hst
        split at h
        · next e1 =>
          subst e1
          refine fin h hG ?_ k3.2.2.2.2.2 (w := none)
          unfold mm_ret
          rw [hdd]
          dsimp only
          rw [hty]
          rfl
        · cases h
      · cases h
end SEQ
