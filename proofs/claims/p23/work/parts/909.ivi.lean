/-! ===== methods by their values: rows written, what is left of the steps ===== -/
section IVQ
variable {L : Nat} {xs : Nat → Int32} {vz : Value} {Q : mm_S → Prop} {ρ : List Int} {μ : iv_M} {d : Nat} {ms : List iv_M} {I : List iv_I} {W : List (List iv_E)} {y : Nat} {full tl : List sx_I} {lv : List (Option iv_V)} {st : List iv_V} {K : List iv_F} {pc : Nat} {lc : List (Nat × Value)} {sc : List Value} {Kc : List mm_Fr} {cb sb : Nat} {l : List (iv_S ⊕ iv_L)} {ins : Instr} {len : Nat}
theorem iv_mw3 {p j v : iv_E} {t : Nat} (hp : iv_ip t (iv_e L xs ρ ms p)) : iv_mw L xs ρ ms [p, j, v] = iv_upd (iv_last ms) ((iv_e L xs ρ ms p).toNat : Int) (iv_e L xs ρ ms j) (iv_e L xs ρ ms v) := by
  show iv_upd _ _ _ _ = _
  rw [Int.toNat_of_nonneg hp.1]
/-- a number of a row written, then on -/
theorem iv_c_wr {t : Nat} {p j v : iv_E} {r : List iv_V} {q : Nat × Nat × Nat × Int × Int} {x : Value} {sc' : List Value} (hd : decode (sx_fi y).2.1 pc = .ok (ins, 1)) (hr : mm_isR ins = false) (h0 : mm_pure (sx_fi y).2.2.1 ins 1 pc lc sc = none) (hp : iv_ip t (iv_e L xs ρ ms p)) (hq : iv_ars t = some q) (ht : 100 ≤ t ∧ t ≠ 999) (j0 : 0 ≤ iv_e L xs ρ ms j) (h5 : q.1 ≠ 5) (hx : x = if q.1 = 1 then .long (Int64.ofInt (iv_e L xs ρ ms v)) else .int (Int32.ofInt (iv_e L xs ρ ms v))) (hv : iv_rg q.1 (iv_e L xs ρ ms v)) (hm : mm_mem (sx_fi y).1 38 (sx_fi y).2.2.2 (mm_zs vz) ins 1 (pc, lc, sc, iv_m L xs (iv_last ms), cb, sb) = some (pc + 1, lc, sc', (iv_m L xs (iv_last ms)).set (iv_e L xs ρ ms p).toNat (.inl (iv_ft q, ((List.range q.2.1).map (fun k => iv_av q (iv_last ms) (iv_e L xs ρ ms p).toNat k)).set (iv_e L xs ρ ms j).toNat x)), cb, sb)) (h : iv_wrt I W lv r K [p, j, v] (fun W => iv_go I W y full tl lv r K (pc + 1)) = some l) (hG : ∀ x ∈ l, iv_GX L xs vz Q ρ μ d x) (B : iv_B L xs ρ μ ms W y full tl lv K lc Kc) (hI : iv_hI L xs ρ ms I) (hs : iv_gs L xs ρ ms r sc') : mm_T 38 (mm_zs vz) Q Kc (d - K.length) (sx_fi y) (pc, lc, sc, iv_m L xs (iv_last ms), cb, sb) := by
  refine iv_wgo (w := [p, j, v]) hd hr h0 (by rw [hm, iv_mw3 hp, iv_set_arr hp.2.1 ht hq j0 h5 hx]) h hG B hI hs ?_
  rw [iv_mw3 hp]
  exact iv_N_upd B.2.2.2.2.2.2.2 hp.2.1 j0 (by rw [iv_ars_sk hq]; exact hv)
theorem iv_bit1_01 (x : Int) : 0 ≤ iv_bit1 x ∧ iv_bit1 x ≤ 1 := by
  have h := se_and_r (x := Int32.ofInt x) (y := 1) (by decide)
  have e : (1 : Int32).toInt = 1 := by decide
  rw [e] at h
  exact h
theorem iv_c_ast {t kv : Nat} {p j v : iv_E} {r : List iv_V} {q : Nat × Nat × Nat × Int × Int} (hd : decode (sx_fi y).2.1 pc = .ok (ins, 1)) (hq : iv_ars t = some q) (hl : iv_sft ins q.1 = true) (hkv : kv = if q.1 = 1 then 1 else 0) (h : iv_num (q.2.1 : Int) (fun n => iv_ast W I 6 j n (fun I => match q.1 with
    | 2 => iv_un 13 v (fun v => iv_wrt I W lv r K [p, j, v] (fun W => iv_go I W y full tl lv r K (pc + 1)))
    | 4 => iv_un 18 v (fun v => iv_wrt I W lv r K [p, j, v] (fun W => iv_go I W y full tl lv r K (pc + 1)))
    | _ => iv_wrt I W lv r K [p, j, v] (fun W => iv_go I W y full tl lv r K (pc + 1)))) = some l) (hG : ∀ x ∈ l, iv_GX L xs vz Q ρ μ d x) (B : iv_B L xs ρ μ ms W y full tl lv K lc Kc) (hI : iv_hI L xs ρ ms I) (hs : iv_gs L xs ρ ms ((kv, v) :: (0, j) :: (t + 2, p) :: r) sc) : mm_T 38 (mm_zs vz) Q Kc (d - K.length) (sx_fi y) (pc, lc, sc, iv_m L xs (iv_last ms), cb, sb) := by
  subst hkv
  obtain ⟨s0, rfl, bv, hs⟩ := iv_gs_cons hs
  obtain ⟨s1, rfl, bj, hs⟩ := iv_int hs
  obtain ⟨s2, rfl, hp, hs9⟩ := iv_rfv hs
  obtain ⟨l1, l2⟩ := iv_ars_lt hq
  rw [iv_num_eq] at h
  obtain ⟨h0, I', l', g1, g2, g3⟩ := iv_ast_ok h hG B.1 hI (iv_3264 bj) (iv_num64 (by omega) (by omega))
  rw [iv_e_num] at h0
  obtain ⟨j0, j1⟩ : 0 ≤ iv_e L xs ρ ms j ∧ iv_e L xs ρ ms j < (q.2.1 : Int) := h0
  obtain ⟨jx, jn⟩ := iv_jx bj j0 j1
  obtain ⟨m1, m2, m3, m4⟩ := iv_elm (L := L) (xs := xs) (μ := iv_last ms) (k := (iv_e L xs ρ ms j).toNat) hp hq (by omega)
  have hlen : ¬ (Int32.ofInt (iv_e L xs ρ ms j) < 0 ∨ ((List.range q.2.1).map (fun k => iv_av q (iv_last ms) (iv_e L xs ρ ms p).toNat k)).length ≤ (Int32.ofInt (iv_e L xs ρ ms j)).toNatClampNeg) := by
    rw [List.length_map, List.length_range]
    exact jx
  obtain ⟨q1, q2⟩ := q
  dsimp only at hl g1 j1
  unfold iv_sft at hl
  split at hl
  · -- ints
    have bv : iv_i32 (iv_e L xs ρ ms v) := bv
    refine iv_c_wr (x := .int (Int32.ofInt (iv_e L xs ρ ms v))) hd rfl rfl hp hq m4 j0 (show ((0 : Nat) ≠ 5) by decide) rfl bv ?_ g1 g2 B g3 hs9
    simp only [mm_mem]
    show mm_astS .int 38 1 (pc, lc, .int (Int32.ofInt (iv_e L xs ρ ms v)) :: .int (Int32.ofInt (iv_e L xs ρ ms j)) :: .ref (iv_e L xs ρ ms p).toNat :: s2, iv_m L xs (iv_last ms), cb, sb) = _
    unfold mm_astS
    try dsimp only
    rw [m1]
    try dsimp only
    rw [if_pos ⟨rfl, rfl, m3, hlen⟩, jn]
    rfl
  · -- longs
    have bv : iv_i64 (iv_e L xs ρ ms v) := bv
    refine iv_c_wr (x := .long (Int64.ofInt (iv_e L xs ρ ms v))) hd rfl rfl hp hq m4 j0 (show ((1 : Nat) ≠ 5) by decide) rfl bv ?_ g1 g2 B g3 hs9
    simp only [mm_mem]
    show mm_astlS 38 1 (pc, lc, .long (Int64.ofInt (iv_e L xs ρ ms v)) :: .int (Int32.ofInt (iv_e L xs ρ ms j)) :: .ref (iv_e L xs ρ ms p).toNat :: s2, iv_m L xs (iv_last ms), cb, sb) = _
    unfold mm_astlS
    try dsimp only
    rw [m1]
    try dsimp only
    rw [if_pos ⟨rfl, rfl, m3, hlen⟩, jn]
  · -- bytes
    have bv : iv_i32 (iv_e L xs ρ ms v) := bv
    obtain ⟨e, e1, e2⟩ := iv_un_ok (L := L) (xs := xs) (ρ := ρ) (ms := ms) (o := 13) (a := v) (k := fun v => iv_wrt I' W lv r K [p, j, v] (fun W => iv_go I' W y full tl lv r K (pc + 1))) (by decide) (by decide)
    try dsimp only at g1
    rw [e1] at g1
    obtain ⟨p1, p2⟩ := iv_op_ok (o := 13) (by decide) (by decide) bv (show iv_i32 0 by unfold iv_i32; omega)
    refine iv_c_wr (x := .int (Int32.ofInt (iv_e L xs ρ ms e))) hd rfl rfl hp hq m4 j0 (show ((2 : Nat) ≠ 5) by decide) rfl (by rw [e2]; exact p2) ?_ g1 g2 B g3 hs9
    simp only [mm_mem]
    show mm_bstS 38 1 (pc, lc, .int (Int32.ofInt (iv_e L xs ρ ms v)) :: .int (Int32.ofInt (iv_e L xs ρ ms j)) :: .ref (iv_e L xs ρ ms p).toNat :: s2, iv_m L xs (iv_last ms), cb, sb) = _
    unfold mm_bstS
    try dsimp only
    rw [m1]
    show mm_astS .byte 38 1 _ = _
    unfold mm_astS
    try dsimp only
    rw [m1]
    try dsimp only
    rw [if_pos ⟨rfl, rfl, m3, hlen⟩, jn, e2, p1]
    rfl
  · -- booleans
    have bv : iv_i32 (iv_e L xs ρ ms v) := bv
    obtain ⟨e, e1, e2⟩ := iv_un_ok (L := L) (xs := xs) (ρ := ρ) (ms := ms) (o := 18) (a := v) (k := fun v => iv_wrt I' W lv r K [p, j, v] (fun W => iv_go I' W y full tl lv r K (pc + 1))) (by decide) (by decide)
    try dsimp only at g1
    rw [e1] at g1
    obtain ⟨p1, p2⟩ := iv_op_ok (o := 18) (by decide) (by decide) bv (show iv_i32 0 by unfold iv_i32; omega)
    refine iv_c_wr (x := .int (Int32.ofInt (iv_e L xs ρ ms e))) hd rfl rfl hp hq m4 j0 (show ((4 : Nat) ≠ 5) by decide) rfl (by rw [e2]; exact iv_bit1_01 _) ?_ g1 g2 B g3 hs9
    simp only [mm_mem]
    show mm_bstS 38 1 (pc, lc, .int (Int32.ofInt (iv_e L xs ρ ms v)) :: .int (Int32.ofInt (iv_e L xs ρ ms j)) :: .ref (iv_e L xs ρ ms p).toNat :: s2, iv_m L xs (iv_last ms), cb, sb) = _
    unfold mm_bstS
    try dsimp only
    rw [m1]
    show mm_astS .boolean 38 1 _ = _
    unfold mm_astS
    try dsimp only
    rw [m1]
    try dsimp only
    rw [if_pos ⟨rfl, rfl, m3, hlen⟩, jn, e2, p1]
    rfl
  · cases hl
theorem iv_c_len (hL : L ≤ 3072) {t : Nat} {p : iv_E} {r : List iv_V} (hd : decode (sx_fi y).2.1 pc = .ok (.arraylength, 1)) (h : (match iv_ars t with
    | some q => iv_num (q.2.1 : Int) (fun n => iv_go I W y full tl lv ((0, n) :: r) K (pc + 1))
    | none => if t = 16 ∨ t = 17 then iv_go I W y full tl lv ((0, .tag 43 (.append p .nil)) :: r) K (pc + 1) else none) = some l) (hG : ∀ x ∈ l, iv_GX L xs vz Q ρ μ d x) (B : iv_B L xs ρ μ ms W y full tl lv K lc Kc) (hI : iv_hI L xs ρ ms I) (hs : iv_gs L xs ρ ms ((t + 2, p) :: r) sc) : mm_T 38 (mm_zs vz) Q Kc (d - K.length) (sx_fi y) (pc, lc, sc, iv_m L xs (iv_last ms), cb, sb) := by
  obtain ⟨s2, rfl, hp, hs⟩ := iv_rfv hs
  have key : ∀ (ft : FieldType) (vs : List Value), (iv_m L xs (iv_last ms))[(iv_e L xs ρ ms p).toNat]? = some (.inl (ft, vs)) → mm_mem (sx_fi y).1 38 (sx_fi y).2.2.2 (mm_zs vz) .arraylength 1 (pc, lc, .ref (iv_e L xs ρ ms p).toNat :: s2, iv_m L xs (iv_last ms), cb, sb) = some (pc + 1, lc, .int (Int32.ofNat vs.length) :: s2, iv_m L xs (iv_last ms), cb, sb) := by
    intro ft vs hv
    simp only [mm_mem]
    unfold mm_alenS
    try dsimp only
    rw [hv]
    rfl
  split at h
  · next q hq =>
    rw [iv_num_eq] at h
    have l1 := (iv_ars_lt hq).1
    obtain ⟨h1, h2, h3⟩ := hp
    have ht : 100 ≤ t := by
      refine Nat.le_of_not_lt (fun z => ?_)
      rw [iv_ars_obj (by omega)] at hq
      cases hq
    obtain ⟨o1, o2⟩ := iv_own h2 (Or.inr ⟨ht, h3⟩)
    refine iv_mgo hd rfl rfl (key _ _ (by rw [iv_m_own o1 o2, iv_cl_arr h2 hq])) h hG B hI (iv_pushi hs ?_ ?_)
    · rw [iv_e_num, List.length_map, List.length_range, Int32.ofInt_eq_ofNat]
    · rw [iv_e_num]; unfold iv_i32; omega
  · split at h
    · next e =>
      obtain ⟨vs, v1, v2, v3, v4⟩ := iv_oth (L := L) (xs := xs) (μ := iv_last ms) hL hp e
      refine iv_mgo hd rfl rfl (key _ _ v1) h hG B hI (iv_pushi hs ?_ ?_)
      · rw [iv_e_43, v2, List.length_map, Int32.ofInt_eq_ofNat]
      · rw [iv_e_43, v2]; unfold iv_i32; omega
    · cases h
theorem iv_c_gst {idx a b kd : Nat} {z : Int} (hd : decode (sx_fi y).2.1 pc = .ok (.getstatic idx, 3)) (hpl : sx_pl (sx_fi y).1 idx (pc, .getstatic idx, 3, kd, a, b, z) = true) (hk : kd = 10 ∨ kd = 11) (h : (match (generalizing := false) a with
    | 0 => iv_go I W y full tl lv ((18, .nest 1 .nil) :: st) K (pc + 3)
    | 1 => iv_go I W y full tl lv ((18, .nest 2 .nil) :: st) K (pc + 3)
    | 2 => iv_go I W y full tl lv ((0, .nest 1 .nil) :: st) K (pc + 3)
    | 7 => iv_go I W y full tl lv ((18, .nest 3 .nil) :: st) K (pc + 3)
    | 8 => iv_go I W y full tl lv ((18, .nest 4 .nil) :: st) K (pc + 3)
    | _ => none) = some l) (hG : ∀ x ∈ l, iv_GX L xs vz Q ρ μ d x) (B : iv_B L xs ρ μ ms W y full tl lv K lc Kc) (hI : iv_hI L xs ρ ms I) (hs : iv_gs L xs ρ ms st sc) : mm_T 38 (mm_zs vz) Q Kc (d - K.length) (sx_fi y) (pc, lc, sc, iv_m L xs (iv_last ms), cb, sb) := by
  obtain ⟨pl, hlk⟩ := sx_pl_ok hpl (by rcases hk with rfl | rfl <;> decide)
  have key : ∀ (q : String × String × String) (t : mm_Zt), mm_sts[a]? = some q → (mm_zs vz).find? (fun t => decide (t.1 = q.1 ∧ t.2.1 = q.2.1 ∧ t.2.2.1 = q.2.2)) = some t → mm_mem (sx_fi y).1 38 (sx_fi y).2.2.2 (mm_zs vz) (.getstatic idx) 3 (pc, lc, sc, iv_m L xs (iv_last ms), cb, sb) = some (pc + 3, lc, t.2.2.2 :: sc, iv_m L xs (iv_last ms), cb, sb) := by
    intro q t h1 h2
    simp only [mm_mem]
    unfold mm_getstS
    try dsimp only
    rw [hlk]
    try dsimp only
    rw [h1]
    try dsimp only
    rw [h2]
    try dsimp only
    rw [if_pos ⟨rfl, rfl, hk⟩]
  have rf : ∀ k : Int, 0 ≤ k → k < 5 → iv_okv L xs ρ ms (18, .nest k .nil) := by
    intro k h1 h2
    show iv_ip 16 (iv_e L xs ρ ms (.nest k .nil))
    rw [iv_e_num]
    refine ⟨h1, ?_, by decide⟩
    rcases (show k = 0 ∨ k = 1 ∨ k = 2 ∨ k = 3 ∨ k = 4 by omega) with rfl | rfl | rfl | rfl | rfl <;> rfl
  have rv : ∀ k : Int, iv_cvs L xs ρ ms (18, .nest k .nil) = .ref k.toNat := by
    intro k
    show Value.ref (iv_e L xs ρ ms (.nest k .nil)).toNat = _
    rw [iv_e_num]
  split at h
  · exact iv_mgo hd rfl rfl (key _ _ rfl rfl) h hG B hI (iv_gs_push hs (rv 1) (rf 1 (by decide) (by decide)))
  · exact iv_mgo hd rfl rfl (key _ _ rfl rfl) h hG B hI (iv_gs_push hs (rv 2) (rf 2 (by decide) (by decide)))
  · exact iv_mgo hd rfl rfl (key _ _ rfl rfl) h hG B hI (iv_pushi hs (by rw [iv_e_num]; rfl) (by rw [iv_e_num]; unfold iv_i32; omega))
  · exact iv_mgo hd rfl rfl (key _ _ rfl rfl) h hG B hI (iv_gs_push hs (rv 3) (rf 3 (by decide) (by decide)))
  · exact iv_mgo hd rfl rfl (key _ _ rfl rfl) h hG B hI (iv_gs_push hs (rv 4) (rf 4 (by decide) (by decide)))
  · cases h
theorem iv_c_ldcs {idx a b kd : Nat} {z : Int} (hd : decode (sx_fi y).2.1 pc = .ok (.ldc idx, 2)) (hpl : sx_pl (sx_fi y).1 idx (pc, .ldc idx, 2, kd, a, b, z) = true) (hc : kd = 12 ∧ (sx_fi y).1 = 8 ∧ 5 ≤ a ∧ a < 21 ∧ idx = 122 + 2 * (a - 5)) (h : iv_num (a : Int) (fun v => iv_go I W y full tl lv ((17, v) :: st) K (pc + 2)) = some l) (hG : ∀ x ∈ l, iv_GX L xs vz Q ρ μ d x) (B : iv_B L xs ρ μ ms W y full tl lv K lc Kc) (hI : iv_hI L xs ρ ms I) (hs : iv_gs L xs ρ ms st sc) : mm_T 38 (mm_zs vz) Q Kc (d - K.length) (sx_fi y) (pc, lc, sc, iv_m L xs (iv_last ms), cb, sb) := by
  obtain ⟨rfl, e2, e3, e4, e5⟩ := hc
  obtain ⟨pl, hlk⟩ := sx_pl_ok hpl (by decide)
  rw [iv_num_eq] at h
  refine iv_mgo (sc' := .ref a :: sc) hd rfl rfl ?_ h hG B hI (iv_gs_push hs ?_ ?_)
  · simp only [mm_mem]
    unfold mm_ldcS
    try dsimp only
    rw [hlk]
    try dsimp only
    exact if_pos ⟨rfl, rfl, rfl, e2, e3, e4, e5⟩
  · show Value.ref (iv_e L xs ρ ms (.nest (a : Int) .nil)).toNat = _
    rw [iv_e_num, Int.toNat_natCast]
  · show iv_ip 15 (iv_e L xs ρ ms (.nest (a : Int) .nil))
    rw [iv_e_num]
    refine ⟨by omega, ?_, by decide⟩
    rw [Int.toNat_natCast]
    have : ∀ a, a < 21 → 5 ≤ a → iv_pl a = 15 := by decide +kernel
    exact this a e4 e3
theorem iv_c_ldc {k idx a b kd : Nat} {z : Int} (hi : (ins = .ldc idx ∧ k = 2) ∨ (ins = .ldc_w idx ∧ k = 3)) (hd : decode (sx_fi y).2.1 pc = .ok (ins, k)) (hpl : sx_pl (sx_fi y).1 idx (pc, ins, k, kd, a, b, z) = true) (hk : kd = 6) (h : iv_num (Int32.ofInt z).toInt (fun v => iv_go I W y full tl lv ((0, v) :: st) K (pc + k)) = some l) (hG : ∀ x ∈ l, iv_GX L xs vz Q ρ μ d x) (B : iv_B L xs ρ μ ms W y full tl lv K lc Kc) (hI : iv_hI L xs ρ ms I) (hs : iv_gs L xs ρ ms st sc) : mm_T 38 (mm_zs vz) Q Kc (d - K.length) (sx_fi y) (pc, lc, sc, iv_m L xs (iv_last ms), cb, sb) := by
  subst hk
  obtain ⟨pl, hlk⟩ := sx_pl_ok hpl (by decide)
  rw [iv_num_eq] at h
  have hm : mm_ldcS (sx_fi y).1 k k idx (pc, lc, sc, iv_m L xs (iv_last ms), cb, sb) = some (pc + k, lc, .int (Int32.ofInt z) :: sc, iv_m L xs (iv_last ms), cb, sb) := by
    unfold mm_ldcS
    try dsimp only
    rw [hlk]
    try dsimp only
    exact if_pos ⟨rfl, rfl⟩
  have hp := iv_pushi (v := .nest (Int32.ofInt z).toInt .nil) (x := Int32.ofInt z) hs (by rw [iv_e_num, Int32.ofInt_toInt]) (by rw [iv_e_num]; exact iv_t32 _)
  rcases hi with ⟨rfl, rfl⟩ | ⟨rfl, rfl⟩
  · exact iv_mgo hd rfl rfl hm h hG B hI hp
  · exact iv_mgo hd rfl rfl hm h hG B hI hp
theorem iv_c_ldc2 {idx a b kd : Nat} {z : Int} (hd : decode (sx_fi y).2.1 pc = .ok (.ldc2_w idx, 3)) (hpl : sx_pl (sx_fi y).1 idx (pc, .ldc2_w idx, 3, kd, a, b, z) = true) (hk : kd = 7) (h : iv_num (Int64.ofInt z).toInt (fun v => iv_go I W y full tl lv ((1, v) :: st) K (pc + 3)) = some l) (hG : ∀ x ∈ l, iv_GX L xs vz Q ρ μ d x) (B : iv_B L xs ρ μ ms W y full tl lv K lc Kc) (hI : iv_hI L xs ρ ms I) (hs : iv_gs L xs ρ ms st sc) : mm_T 38 (mm_zs vz) Q Kc (d - K.length) (sx_fi y) (pc, lc, sc, iv_m L xs (iv_last ms), cb, sb) := by
  subst hk
  obtain ⟨pl, hlk⟩ := sx_pl_ok hpl (by decide)
  rw [iv_num_eq] at h
  refine iv_mgo (sc' := .long (Int64.ofInt z) :: sc) hd rfl rfl ?_ h hG B hI (iv_gs_push hs ?_ ?_)
  · simp only [mm_mem]
    unfold mm_ldc2S
    try dsimp only
    rw [hlk]
    try dsimp only
    exact if_pos ⟨rfl, rfl⟩
  · show Value.long (Int64.ofInt (iv_e L xs ρ ms (.nest (Int64.ofInt z).toInt .nil))) = _
    rw [iv_e_num, Int64.ofInt_toInt]
  · show iv_i64 (iv_e L xs ρ ms (.nest (Int64.ofInt z).toInt .nil))
    rw [iv_e_num]
    exact iv_t64 _
theorem iv_cats_ok (hs : iv_gs L xs ρ ms st sc) : (sc.map fun v => v.category).sum = iv_cats st := by
  rw [hs.1]
  unfold iv_cats
  rw [List.map_map]
  congr 1
  apply List.map_congr_left
  intro v _
  show (iv_cv v.1 _).category = iv_cat v
  rw [iv_cv_cat]
  unfold iv_cat
  by_cases h : v.1 = 1
  · rw [if_pos h, h]; rfl
  · rw [if_neg h, if_neg]
    intro q
    exact h (Nat.eq_of_beq_eq_true q)
theorem iv_c_mm {idx a b kd : Nat} {z : Int} {v1 v2 : iv_E} {r : List iv_V} (hd : decode (sx_fi y).2.1 pc = .ok (.invokestatic idx, 3)) (hpl : sx_pl (sx_fi y).1 idx (pc, .invokestatic idx, 3, kd, a, b, z) = true) (hk : kd = 13 ∨ kd = 14) (h8 : iv_cats r ≤ 8) (h : iv_bin (kd + 3) v1 v2 (fun v => iv_go I W y full tl lv ((0, v) :: r) K (pc + 3)) = some l) (hG : ∀ x ∈ l, iv_GX L xs vz Q ρ μ d x) (B : iv_B L xs ρ μ ms W y full tl lv K lc Kc) (hI : iv_hI L xs ρ ms I) (hs : iv_gs L xs ρ ms ((0, v2) :: (0, v1) :: r) sc) : mm_T 38 (mm_zs vz) Q Kc (d - K.length) (sx_fi y) (pc, lc, sc, iv_m L xs (iv_last ms), cb, sb) := by
  obtain ⟨s1, rfl, b2, hs⟩ := iv_int hs
  obtain ⟨s2, rfl, b1, hs⟩ := iv_int hs
  obtain ⟨pl, hlk⟩ := sx_pl_ok hpl (by rcases hk with rfl | rfl <;> decide)
  obtain ⟨e, e1, e2⟩ := iv_bin_ok (L := L) (xs := xs) (ρ := ρ) (ms := ms) (o := kd + 3) (a := v1) (b := v2) (k := fun v => iv_go I W y full tl lv ((0, v) :: r) K (pc + 3)) (by omega) (by omega)
  rw [e1] at h
  obtain ⟨p1, p2⟩ := iv_op_ok (o := kd + 3) (by omega) (by omega) b1 b2
  refine iv_mgo (sc' := .int (iv_fo (kd + 3) (Int32.ofInt (iv_e L xs ρ ms v1)) (Int32.ofInt (iv_e L xs ρ ms v2))) :: s2) hd rfl rfl ?_ h hG B hI (iv_pushi hs (by rw [e2, p1]) (by rw [e2]; exact p2))
  simp only [mm_mem]
  unfold mm_spS
  try dsimp only
  rw [hlk]
  try dsimp only
  rw [if_pos ⟨rfl, rfl⟩]
  rcases hk with rfl | rfl
  · exact if_pos (show (s2.map fun v => v.category).sum ≤ 8 by rw [iv_cats_ok hs]; exact h8)
  · exact if_pos (show (s2.map fun v => v.category).sum ≤ 8 by rw [iv_cats_ok hs]; exact h8)
theorem iv_cpy_set {p s t : Nat} {j i n : Int} {a a' : Nat × Nat × Nat × Int × Int} {t' : Nat} {μ0 : iv_M} (hp : iv_pl p = t) (ht : 100 ≤ t ∧ t ≠ 999) (ha : iv_ars t = some a) (hs : iv_pl s = t') (ha' : iv_ars t' = some a') (h0 : a.1 = 0) (h0' : a'.1 = 0) (hj : 0 ≤ j) (hi : 0 ≤ i) (hn : 0 ≤ n) (hb : i + n ≤ a'.2.1) : (iv_m L xs μ0).set p (.inl (iv_ft a, mm_cpy ((List.range a'.2.1).map (fun k => iv_av a' μ0 s k)) ((List.range a.2.1).map (fun k => iv_av a μ0 p k)) i.toNat j.toNat n.toNat)) = iv_m L xs (iv_cpy μ0 s i p j n) := by
  obtain ⟨o1, o2⟩ := iv_own hp (Or.inr ht)
  refine iv_m_set o1 o2 ?_ (fun q hq k => ?_)
  · rw [iv_cl_arr hp ha]
    unfold mm_cpy
    rw [List.length_map, List.length_range]
    congr 2
    apply List.map_congr_left
    intro k hk
    have hk := List.mem_range.mp hk
    unfold iv_av iv_cpy
    rw [h0]
    try dsimp only
    by_cases hc : j.toNat ≤ k ∧ k < j.toNat + n.toNat
    · rw [if_pos hc, if_pos ⟨rfl, by omega, by omega⟩, List.getD_eq_getElem?_getD, iv_range_get (by omega), h0']
      show Value.int (Int32.ofInt (μ0 s (i + ((k : Int) - j)))) = Value.int (Int32.ofInt (μ0 s ((i.toNat + (k - j.toNat) : Nat) : Int)))
      rw [show ((i.toNat + (k - j.toNat) : Nat) : Int) = i + ((k : Int) - j) by omega]
    · rw [if_neg hc, if_neg (by omega), List.getD_eq_getElem?_getD, iv_range_get hk]
      simp only [h0]
      rfl
  · unfold iv_cpy
    rw [if_neg (by omega)]
theorem iv_c_acp {idx a b kd t u nt nu : Nat} {z : Int} {qt qu : Nat × Int × Int} {n dp dd sp s : iv_E} {r : List iv_V} (hd : decode (sx_fi y).2.1 pc = .ok (.invokestatic idx, 3)) (hpl : sx_pl (sx_fi y).1 idx (pc, .invokestatic idx, 3, kd, a, b, z) = true) (hk : kd = 9) (h8 : iv_cats r ≤ 8) (hat : iv_ars t = some (0, nt, qt)) (hau : iv_ars u = some (0, nu, qu)) (h : iv_ast W I 3 sp (.nest 0 .nil) (fun I => iv_ast W I 3 dp (.nest 0 .nil) (fun I => iv_ast W I 3 n (.nest 0 .nil) (fun I => iv_bin 41 sp n (fun e1 => iv_num (nt : Int) (fun nt => iv_ast W I 1 e1 nt (fun I => iv_bin 41 dp n (fun e2 => iv_num (nu : Int) (fun nu => iv_ast W I 1 e2 nu (fun I => iv_wrt I W lv r K [s, sp, dd, dp, n] (fun W => iv_go I W y full tl lv r K (pc + 3))))))))))) = some l) (hG : ∀ x ∈ l, iv_GX L xs vz Q ρ μ d x) (B : iv_B L xs ρ μ ms W y full tl lv K lc Kc) (hI : iv_hI L xs ρ ms I) (hs : iv_gs L xs ρ ms ((0, n) :: (0, dp) :: (u + 2, dd) :: (0, sp) :: (t + 2, s) :: r) sc) : mm_T 38 (mm_zs vz) Q Kc (d - K.length) (sx_fi y) (pc, lc, sc, iv_m L xs (iv_last ms), cb, sb) := by
  subst hk
  obtain ⟨s1, rfl, bn, hs⟩ := iv_int hs
  obtain ⟨s2, rfl, bd, hs⟩ := iv_int hs
  obtain ⟨s3, rfl, hpd, hs⟩ := iv_rfv hs
  obtain ⟨s4, rfl, bs, hs⟩ := iv_int hs
  obtain ⟨s5, rfl, hps, hs⟩ := iv_rfv hs
  obtain ⟨pl, hlk⟩ := sx_pl_ok hpl (by decide)
  have l1 := (iv_ars_lt hat).1
  have l2 := (iv_ars_lt hau).1
  dsimp only at l1 l2
  obtain ⟨h1, I1, r1, g1, hG, hI⟩ := iv_ast_ok h hG B.1 hI (iv_3264 bs) (iv_num64 (by omega) (by omega))
  obtain ⟨h2, I2, r2, g2, hG, hI⟩ := iv_ast_ok g1 hG B.1 hI (iv_3264 bd) (iv_num64 (by omega) (by omega))
  obtain ⟨h3, I3, r3, g3, hG, hI⟩ := iv_ast_ok g2 hG B.1 hI (iv_3264 bn) (iv_num64 (by omega) (by omega))
  rw [iv_e_num] at h1 h2 h3
  have h1 : 0 ≤ iv_e L xs ρ ms sp := h1
  have h2 : 0 ≤ iv_e L xs ρ ms dp := h2
  have h3 : 0 ≤ iv_e L xs ρ ms n := h3
  obtain ⟨e1, q1, w1⟩ := iv_bin_ok (L := L) (xs := xs) (ρ := ρ) (ms := ms) (o := 41) (a := sp) (b := n) (k := fun e1 => iv_num (nt : Int) (fun nt => iv_ast W I3 1 e1 nt (fun I => iv_bin 41 dp n (fun e2 => iv_num (nu : Int) (fun nu => iv_ast W I 1 e2 nu (fun I => iv_wrt I W lv r K [s, sp, dd, dp, n] (fun W => iv_go I W y full tl lv r K (pc + 3)))))))) (by decide) (by decide)
  rw [q1, iv_num_eq] at g3
  have w1 : iv_e L xs ρ ms e1 = iv_e L xs ρ ms sp + iv_e L xs ρ ms n := w1
  unfold iv_i32 at bn bd bs
  obtain ⟨h4, I4, r4, g4, hG, hI⟩ := iv_ast_ok g3 hG B.1 hI (by rw [w1]; unfold iv_i64; omega) (iv_num64 (by omega) (by omega))
  obtain ⟨e2, q2, w2⟩ := iv_bin_ok (L := L) (xs := xs) (ρ := ρ) (ms := ms) (o := 41) (a := dp) (b := n) (k := fun e2 => iv_num (nu : Int) (fun nu => iv_ast W I4 1 e2 nu (fun I => iv_wrt I W lv r K [s, sp, dd, dp, n] (fun W => iv_go I W y full tl lv r K (pc + 3))))) (by decide) (by decide)
  rw [q2, iv_num_eq] at g4
  have w2 : iv_e L xs ρ ms e2 = iv_e L xs ρ ms dp + iv_e L xs ρ ms n := w2
  obtain ⟨h5, I5, r5, g5, hG, hI⟩ := iv_ast_ok g4 hG B.1 hI (by rw [w2]; unfold iv_i64; omega) (iv_num64 (by omega) (by omega))
  rw [iv_e_num, w1] at h4
  rw [iv_e_num, w2] at h5
  have h4 : iv_e L xs ρ ms sp + iv_e L xs ρ ms n ≤ (nt : Int) := h4
  have h5 : iv_e L xs ρ ms dp + iv_e L xs ρ ms n ≤ (nu : Int) := h5
  have ht : 100 ≤ t := by
    refine Nat.le_of_not_lt (fun z => ?_)
    rw [iv_ars_obj (by omega)] at hat
    cases hat
  have hu : 100 ≤ u := by
    refine Nat.le_of_not_lt (fun z => ?_)
    rw [iv_ars_obj (by omega)] at hau
    cases hau
  obtain ⟨os1, os2⟩ := iv_own hps.2.1 (Or.inr ⟨ht, hps.2.2⟩)
  obtain ⟨od1, od2⟩ := iv_own hpd.2.1 (Or.inr ⟨hu, hpd.2.2⟩)
  have hmw : iv_mw L xs ρ ms [s, sp, dd, dp, n] = iv_cpy (iv_last ms) ((iv_e L xs ρ ms s).toNat : Int) (iv_e L xs ρ ms sp) ((iv_e L xs ρ ms dd).toNat : Int) (iv_e L xs ρ ms dp) (iv_e L xs ρ ms n) := by
    show iv_cpy _ _ _ _ _ _ = _
    rw [Int.toNat_of_nonneg hps.1, Int.toNat_of_nonneg hpd.1]
  have c32 : ∀ {x : Int}, iv_i32 x → 0 ≤ x → (Int32.ofInt x).toNatClampNeg = x.toNat ∧ ¬ Int32.ofInt x < 0 := by
    intro x hx h0
    have e : (Int32.ofInt x).toNatClampNeg = (Int32.ofInt x).toInt.toNat := rfl
    rw [iv_of32 hx] at e
    refine ⟨e, ?_⟩
    rw [Int32.lt_iff_toInt_lt, iv_of32 hx]
    have : (0 : Int32).toInt = 0 := by decide
    omega
  obtain ⟨cs1, cs2⟩ := c32 bs h1
  obtain ⟨cd1, cd2⟩ := c32 bd h2
  obtain ⟨cn1, cn2⟩ := c32 bn h3
  refine iv_wgo (w := [s, sp, dd, dp, n]) (sc' := s5) hd rfl rfl ?_ g5 hG B hI hs ?_
  · simp only [mm_mem]
    rw [mm_sp9 hlk, if_pos ⟨rfl, rfl⟩, iv_m_own os1 os2, iv_m_own od1 od2, iv_cl_arr hps.2.1 hat, iv_cl_arr hpd.2.1 hau]
    try dsimp only
    rw [if_pos]
    · rw [hmw, ← iv_cpy_set hpd.2.1 ⟨hu, hpd.2.2⟩ hau hps.2.1 hat rfl rfl h2 h1 h3 h4, cs1, cd1, cn1]
      rfl
    · refine ⟨by rw [iv_cats_ok hs]; exact h8, os1, od1, rfl, rfl, cs2, cd2, cn2, ?_, ?_, ?_⟩
      · rw [List.length_map, List.length_range, cs1, cn1]; omega
      · rw [List.length_map, List.length_range, cd1, cn1]; omega
      · rw [List.all_map, List.all_eq_true]
        intro k _
        rfl
  · rw [hmw]
    intro q k
    unfold iv_cpy
    split
    · next e =>
      have hq : q = (iv_e L xs ρ ms dd).toNat := by omega
      subst hq
      rw [hpd.2.1, iv_ars_sk hau]
      have hN := B.2.2.2.2.2.2.2 (iv_e L xs ρ ms s).toNat (iv_e L xs ρ ms sp + ((k : Int) - iv_e L xs ρ ms dp)).toNat
      have e9 : ((iv_e L xs ρ ms sp + ((k : Int) - iv_e L xs ρ ms dp)).toNat : Int) = iv_e L xs ρ ms sp + ((k : Int) - iv_e L xs ρ ms dp) := Int.toNat_of_nonneg (by omega)
      rw [hps.2.1, iv_ars_sk hat, e9] at hN
      exact hN
    · exact B.2.2.2.2.2.2.2 q k
end IVQ
