/-! ===== methods by their values: steps on values are sound ===== -/
section IVN
variable {L : Nat} {xs : Nat → Int32} {vz : Value} {Q : mm_S → Prop} {ρ : List Int} {μ : iv_M} {d : Nat} {ms : List iv_M} {I : List iv_I} {W : List (List iv_E)} {y : Nat} {full tl : List sx_I} {lv : List (Option iv_V)} {st : List iv_V} {K : List iv_F} {pc : Nat} {lc : List (Nat × Value)} {sc : List Value} {Kc : List mm_Fr} {cb sb : Nat} {l : List (iv_S ⊕ iv_L)} {ins : Instr} {len : Nat}
theorem iv_oi_ok {o nL : Nat} (h : iv_oi ins = some o) (x y : Int32) (r : List Value) : (o ≠ 40 ∧ o ≠ 43 ∧ o ≤ 18 ∧ o ≠ 0) ∧ mm_pure nL ins 1 pc lc (.int y :: .int x :: r) = some (pc + 1, lc, .int (iv_fo o x y) :: r) ∧ mm_isR ins = false := by
  unfold iv_oi at h
  split at h <;> cases h <;> exact ⟨by decide, rfl, rfl⟩
theorem iv_ou_ok {o nL : Nat} (h : iv_ou ins = some o) (x : Int32) (r : List Value) : (o ≠ 40 ∧ o ≠ 43 ∧ o ≤ 18 ∧ o ≠ 0) ∧ mm_pure nL ins 1 pc lc (.int x :: r) = some (pc + 1, lc, .int (iv_fo o x 0) :: r) ∧ mm_isR ins = false := by
  unfold iv_ou at h
  split at h <;> cases h <;> exact ⟨by decide, rfl, rfl⟩
theorem iv_c_num {k : Nat} {z : Int32} (hd : decode (sx_fi y).2.1 pc = .ok (ins, len)) (hr : mm_isR ins = false) (hp : ∀ r, mm_pure (sx_fi y).2.2.1 ins len pc lc r = some (pc + k, lc, .int z :: r)) (h : iv_num z.toInt (fun v => iv_go I W y full tl lv ((0, v) :: st) K (pc + k)) = some l) (hG : ∀ x ∈ l, iv_GX L xs vz Q ρ μ d x) (B : iv_B L xs ρ μ ms W y full tl lv K lc Kc) (hI : iv_hI L xs ρ ms I) (hs : iv_gs L xs ρ ms st sc) : mm_T 38 (mm_zs vz) Q Kc (d - K.length) (sx_fi y) (pc, lc, sc, iv_m L xs (iv_last ms), cb, sb) := by
  rw [iv_num_eq] at h
  refine iv_pgo hd hr (hp sc) h hG B hI (iv_gs_push hs ?_ ?_)
  · unfold iv_cvs
    rw [iv_e_num]
    show Value.int (Int32.ofInt z.toInt) = .int z
    rw [Int32.ofInt_toInt]
  · unfold iv_okv
    rw [iv_e_num]
    exact iv_t32 z
theorem iv_c_numl {k : Nat} {z : Int64} (hd : decode (sx_fi y).2.1 pc = .ok (ins, len)) (hr : mm_isR ins = false) (hp : ∀ r, mm_pure (sx_fi y).2.2.1 ins len pc lc r = some (pc + k, lc, .long z :: r)) (h : iv_num z.toInt (fun v => iv_go I W y full tl lv ((1, v) :: st) K (pc + k)) = some l) (hG : ∀ x ∈ l, iv_GX L xs vz Q ρ μ d x) (B : iv_B L xs ρ μ ms W y full tl lv K lc Kc) (hI : iv_hI L xs ρ ms I) (hs : iv_gs L xs ρ ms st sc) : mm_T 38 (mm_zs vz) Q Kc (d - K.length) (sx_fi y) (pc, lc, sc, iv_m L xs (iv_last ms), cb, sb) := by
  rw [iv_num_eq] at h
  refine iv_pgo hd hr (hp sc) h hG B hI (iv_gs_push hs ?_ ?_)
  · unfold iv_cvs
    rw [iv_e_num]
    show Value.long (Int64.ofInt z.toInt) = .long z
    rw [Int64.ofInt_toInt]
  · unfold iv_okv
    rw [iv_e_num]
    exact iv_t64 z
/-- a step of the memory's kind that changes nothing, then on -/
theorem iv_mgo {n : Nat} {sc' : List Value} {st' : List iv_V} (hd : decode (sx_fi y).2.1 pc = .ok (ins, len)) (hr : mm_isR ins = false) (h0 : mm_pure (sx_fi y).2.2.1 ins len pc lc sc = none) (hp : mm_mem (sx_fi y).1 38 (sx_fi y).2.2.2 (mm_zs vz) ins len (pc, lc, sc, iv_m L xs (iv_last ms), cb, sb) = some (n, lc, sc', iv_m L xs (iv_last ms), cb, sb)) (h : iv_go I W y full tl lv st' K n = some l) (hG : ∀ x ∈ l, iv_GX L xs vz Q ρ μ d x) (B : iv_B L xs ρ μ ms W y full tl lv K lc Kc) (hI : iv_hI L xs ρ ms I) (hs : iv_gs L xs ρ ms st' sc') : mm_T 38 (mm_zs vz) Q Kc (d - K.length) (sx_fi y) (pc, lc, sc, iv_m L xs (iv_last ms), cb, sb) :=
  mm_T_step hd hr (iv_mst h0 hp) (iv_go_ok h hG B hI hs)
theorem iv_int {v : iv_E} {r : List iv_V} (hs : iv_gs L xs ρ ms ((0, v) :: r) sc) : ∃ sc', sc = .int (Int32.ofInt (iv_e L xs ρ ms v)) :: sc' ∧ iv_i32 (iv_e L xs ρ ms v) ∧ iv_gs L xs ρ ms r sc' := iv_gs_cons hs
theorem iv_lng {v : iv_E} {r : List iv_V} (hs : iv_gs L xs ρ ms ((1, v) :: r) sc) : ∃ sc', sc = .long (Int64.ofInt (iv_e L xs ρ ms v)) :: sc' ∧ iv_i64 (iv_e L xs ρ ms v) ∧ iv_gs L xs ρ ms r sc' := iv_gs_cons hs
theorem iv_rfv {t : Nat} {v : iv_E} {r : List iv_V} (hs : iv_gs L xs ρ ms ((t + 2, v) :: r) sc) : ∃ sc', sc = .ref (iv_e L xs ρ ms v).toNat :: sc' ∧ iv_ip t (iv_e L xs ρ ms v) ∧ iv_gs L xs ρ ms r sc' := iv_gs_cons hs
theorem iv_pushi {v : iv_E} {x : Int32} (hs : iv_gs L xs ρ ms st sc) (h1 : Int32.ofInt (iv_e L xs ρ ms v) = x) (h2 : iv_i32 (iv_e L xs ρ ms v)) : iv_gs L xs ρ ms ((0, v) :: st) (.int x :: sc) := iv_gs_push hs (by unfold iv_cvs; show Value.int _ = _; rw [h1]) h2
/-- an op on two ints -/
theorem iv_c_bin {o : Nat} {v1 v2 : iv_E} {r : List iv_V} (ho : iv_oi ins = some o) (hd : decode (sx_fi y).2.1 pc = .ok (ins, 1)) (h : iv_binI I o v1 v2 (fun v => iv_go I W y full tl lv ((0, v) :: r) K (pc + 1)) = some l) (hG : ∀ x ∈ l, iv_GX L xs vz Q ρ μ d x) (B : iv_B L xs ρ μ ms W y full tl lv K lc Kc) (hI : iv_hI L xs ρ ms I) (hs : iv_gs L xs ρ ms ((0, v2) :: (0, v1) :: r) sc) : mm_T 38 (mm_zs vz) Q Kc (d - K.length) (sx_fi y) (pc, lc, sc, iv_m L xs (iv_last ms), cb, sb) := by
  obtain ⟨s1, rfl, b2, hs⟩ := iv_int hs
  obtain ⟨s2, rfl, b1, hs⟩ := iv_int hs
  obtain ⟨⟨q1, q2, q3, q4⟩, q5, q6⟩ := iv_oi_ok (pc := pc) (lc := lc) (nL := (sx_fi y).2.2.1) ho (Int32.ofInt (iv_e L xs ρ ms v1)) (Int32.ofInt (iv_e L xs ρ ms v2)) s2
  obtain ⟨e, e1, e2⟩ := iv_binI_ok hI (L := L) (xs := xs) (ρ := ρ) (ms := ms) (a := v1) (b := v2) (k := fun v => iv_go I W y full tl lv ((0, v) :: r) K (pc + 1)) q1 q2
  rw [e1] at h
  obtain ⟨p1, p2⟩ := iv_op_ok q3 q4 b1 b2
  exact iv_pgo hd q6 q5 h hG B hI (iv_pushi hs (by rw [e2]; exact p1) (by rw [e2]; exact p2))
theorem iv_c_un {o : Nat} {v : iv_E} {r : List iv_V} (ho : iv_ou ins = some o) (hd : decode (sx_fi y).2.1 pc = .ok (ins, 1)) (h : iv_un o v (fun v => iv_go I W y full tl lv ((0, v) :: r) K (pc + 1)) = some l) (hG : ∀ x ∈ l, iv_GX L xs vz Q ρ μ d x) (B : iv_B L xs ρ μ ms W y full tl lv K lc Kc) (hI : iv_hI L xs ρ ms I) (hs : iv_gs L xs ρ ms ((0, v) :: r) sc) : mm_T 38 (mm_zs vz) Q Kc (d - K.length) (sx_fi y) (pc, lc, sc, iv_m L xs (iv_last ms), cb, sb) := by
  obtain ⟨s1, rfl, b1, hs⟩ := iv_int hs
  obtain ⟨⟨q1, q2, q3, q4⟩, q5, q6⟩ := iv_ou_ok (pc := pc) (lc := lc) (nL := (sx_fi y).2.2.1) ho (Int32.ofInt (iv_e L xs ρ ms v)) s1
  obtain ⟨e, e1, e2⟩ := iv_un_ok (L := L) (xs := xs) (ρ := ρ) (ms := ms) (a := v) (k := fun v => iv_go I W y full tl lv ((0, v) :: r) K (pc + 1)) q1 q2
  rw [e1] at h
  obtain ⟨p1, p2⟩ := iv_op_ok q3 q4 b1 (show iv_i32 0 by unfold iv_i32; omega)
  refine iv_pgo hd q6 q5 h hG B hI (iv_pushi hs ?_ (by rw [e2]; exact p2))
  rw [e2, p1]
  rfl
theorem iv_c_lop {o w k2 : Nat} {v1 v2 : iv_E} {r : List iv_V} (ho : iv_ol ins = some (o, w)) (hk : k2 = w) (hd : decode (sx_fi y).2.1 pc = .ok (ins, 1)) (h : iv_bin o v1 v2 (fun v => iv_go I W y full tl lv ((1, v) :: r) K (pc + 1)) = some l) (hG : ∀ x ∈ l, iv_GX L xs vz Q ρ μ d x) (B : iv_B L xs ρ μ ms W y full tl lv K lc Kc) (hI : iv_hI L xs ρ ms I) (hs : iv_gs L xs ρ ms ((k2, v2) :: (1, v1) :: r) sc) : mm_T 38 (mm_zs vz) Q Kc (d - K.length) (sx_fi y) (pc, lc, sc, iv_m L xs (iv_last ms), cb, sb) := by
  subst hk
  obtain ⟨s1, rfl, b2, hs⟩ := iv_gs_cons hs
  obtain ⟨s2, rfl, b1, hs⟩ := iv_lng hs
  obtain ⟨⟨q1, q2⟩, q3, q4⟩ := iv_lop_ok ho b1 (fun e => by subst e; exact b2) (fun e => by subst e; exact b2)
  obtain ⟨q5, q6⟩ := q4 (sx_fi y).2.2.1 pc lc s2
  obtain ⟨e, e1, e2⟩ := iv_bin_ok (L := L) (xs := xs) (ρ := ρ) (ms := ms) (a := v1) (b := v2) (k := fun v => iv_go I W y full tl lv ((1, v) :: r) K (pc + 1)) q1 q2
  rw [e1] at h
  have hr : mm_isR ins = false := by
    unfold iv_ol at ho
    split at ho <;> first | rfl | cases ho
  refine iv_pgo hd hr q5 h hG B hI (iv_gs_push hs ?_ (by show iv_i64 _; rw [e2]; exact q3))
  show Value.long (Int64.ofInt (iv_e L xs ρ ms e)) = _
  rw [e2]
theorem iv_c_cmp1 {c : Jvm.ClassFile.Cond} {off : Int} {t : Nat} {v : iv_E} {r : List iv_V} (hd : decode (sx_fi y).2.1 pc = .ok (.ifCond c off, 3)) (ht : mm_tgt pc off = some t) (h : iv_cmp I (iv_c1 c) v (.nest 0 .nil) (fun I => iv_go I W y full tl lv r K t) (fun I => iv_go I W y full tl lv r K (pc + 3)) = some l) (hG : ∀ x ∈ l, iv_GX L xs vz Q ρ μ d x) (B : iv_B L xs ρ μ ms W y full tl lv K lc Kc) (hI : iv_hI L xs ρ ms I) (hs : iv_gs L xs ρ ms ((0, v) :: r) sc) : mm_T 38 (mm_zs vz) Q Kc (d - K.length) (sx_fi y) (pc, lc, sc, iv_m L xs (iv_last ms), cb, sb) := by
  obtain ⟨s1, rfl, b1, hs⟩ := iv_int hs
  have h0 : iv_i32 0 := by unfold iv_i32; omega
  obtain ⟨k1, k2⟩ := iv_cmp_ok h hG hI (iv_3264 b1) (by rw [iv_e_num]; exact iv_3264 h0)
  rw [iv_e_num] at k1 k2
  have hP : mm_P1 c (Int32.ofInt (iv_e L xs ρ ms v)) = true ↔ iv_ci (iv_c1 c) (iv_e L xs ρ ms v) 0 := by
    have e0 : (0 : Int32) = Int32.ofInt 0 := by decide
    cases c
    · show decide (_ = (0 : Int32)) = true ↔ _
      rw [decide_eq_true_eq, e0, iv_eq32 b1 h0]
      exact Iff.rfl
    · show (!decide (_ = (0 : Int32))) = true ↔ _
      rw [Bool.not_eq_true', decide_eq_false_iff_not, e0, iv_eq32 b1 h0]
      exact Iff.rfl
    · show decide (_ < (0 : Int32)) = true ↔ _
      rw [decide_eq_true_eq, e0, iv_lt32 b1 h0]
      exact Iff.rfl
    · show decide ((0 : Int32) ≤ _) = true ↔ _
      rw [decide_eq_true_eq, e0, iv_le32 h0 b1]
      exact Iff.rfl
    · show decide ((0 : Int32) < _) = true ↔ _
      rw [decide_eq_true_eq, e0, iv_lt32 h0 b1]
      exact Iff.rfl
    · show decide (_ ≤ (0 : Int32)) = true ↔ _
      rw [decide_eq_true_eq, e0, iv_le32 b1 h0]
      exact Iff.rfl
  have hp : mm_pure (sx_fi y).2.2.1 (.ifCond c off) 3 pc lc (.int (Int32.ofInt (iv_e L xs ρ ms v)) :: s1) = some (if mm_P1 c (Int32.ofInt (iv_e L xs ρ ms v)) then t else pc + 3, lc, s1) := by
    show mm_if1 _ _ _ _ _ _ = _
    unfold mm_if1
    rw [ht]
    rfl
  by_cases hc : iv_ci (iv_c1 c) (iv_e L xs ρ ms v) 0
  · obtain ⟨I', l', g1, g2, g3⟩ := k1 hc
    rw [if_pos (hP.mpr hc)] at hp
    exact iv_pgo hd rfl hp g1 g2 B g3 hs
  · obtain ⟨I', l', g1, g2, g3⟩ := k2 hc
    rw [if_neg (fun q => hc (hP.mp q))] at hp
    exact iv_pgo hd rfl hp g1 g2 B g3 hs
theorem iv_c_cmp2 {c : Jvm.ClassFile.Cond} {off : Int} {t : Nat} {v w : iv_E} {r : List iv_V} (hd : decode (sx_fi y).2.1 pc = .ok (.if_icmp c off, 3)) (ht : mm_tgt pc off = some t) (h : iv_cmp I (iv_c1 c) v w (fun I => iv_go I W y full tl lv r K t) (fun I => iv_go I W y full tl lv r K (pc + 3)) = some l) (hG : ∀ x ∈ l, iv_GX L xs vz Q ρ μ d x) (B : iv_B L xs ρ μ ms W y full tl lv K lc Kc) (hI : iv_hI L xs ρ ms I) (hs : iv_gs L xs ρ ms ((0, w) :: (0, v) :: r) sc) : mm_T 38 (mm_zs vz) Q Kc (d - K.length) (sx_fi y) (pc, lc, sc, iv_m L xs (iv_last ms), cb, sb) := by
  obtain ⟨s1, rfl, b2, hs⟩ := iv_int hs
  obtain ⟨s2, rfl, b1, hs⟩ := iv_int hs
  obtain ⟨k1, k2⟩ := iv_cmp_ok h hG hI (iv_3264 b1) (iv_3264 b2)
  have hP : mm_P2 c (Int32.ofInt (iv_e L xs ρ ms v)) (Int32.ofInt (iv_e L xs ρ ms w)) = true ↔ iv_ci (iv_c1 c) (iv_e L xs ρ ms v) (iv_e L xs ρ ms w) := by
    cases c
    · show decide (_ = _) = true ↔ _
      rw [decide_eq_true_eq, iv_eq32 b1 b2]
      exact Iff.rfl
    · show (!decide (_ = _)) = true ↔ _
      rw [Bool.not_eq_true', decide_eq_false_iff_not, iv_eq32 b1 b2]
      exact Iff.rfl
    · show decide (_ < _) = true ↔ _
      rw [decide_eq_true_eq, iv_lt32 b1 b2]
      exact Iff.rfl
    · show decide (_ ≤ _) = true ↔ _
      rw [decide_eq_true_eq, iv_le32 b2 b1]
      exact Iff.rfl
    · show decide (_ < _) = true ↔ _
      rw [decide_eq_true_eq, iv_lt32 b2 b1]
      exact Iff.rfl
    · show decide (_ ≤ _) = true ↔ _
      rw [decide_eq_true_eq, iv_le32 b1 b2]
      exact Iff.rfl
  have hp : mm_pure (sx_fi y).2.2.1 (.if_icmp c off) 3 pc lc (.int (Int32.ofInt (iv_e L xs ρ ms w)) :: .int (Int32.ofInt (iv_e L xs ρ ms v)) :: s2) = some (if mm_P2 c (Int32.ofInt (iv_e L xs ρ ms v)) (Int32.ofInt (iv_e L xs ρ ms w)) then t else pc + 3, lc, s2) := by
    show mm_if2 _ _ _ _ _ _ = _
    unfold mm_if2
    rw [ht]
    rfl
  by_cases hc : iv_ci (iv_c1 c) (iv_e L xs ρ ms v) (iv_e L xs ρ ms w)
  · obtain ⟨I', l', g1, g2, g3⟩ := k1 hc
    rw [if_pos (hP.mpr hc)] at hp
    exact iv_pgo hd rfl hp g1 g2 B g3 hs
  · obtain ⟨I', l', g1, g2, g3⟩ := k2 hc
    rw [if_neg (fun q => hc (hP.mp q))] at hp
    exact iv_pgo hd rfl hp g1 g2 B g3 hs
/-- what must be so is so -/
theorem iv_ast_ok {c : Nat} {a b : iv_E} {k : List iv_I → iv_R} (h : iv_ast W I c a b k = some l) (hG : ∀ x ∈ l, iv_GX L xs vz Q ρ μ d x) (hm : ms = iv_ms L xs ρ [μ] W) (hI : iv_hI L xs ρ ms I) (ha : iv_i64 (iv_e L xs ρ ms a)) (hb : iv_i64 (iv_e L xs ρ ms b)) : iv_ci c (iv_e L xs ρ ms a) (iv_e L xs ρ ms b) ∧ ∃ I' l', k I' = some l' ∧ (∀ x ∈ l', iv_GX L xs vz Q ρ μ d x) ∧ iv_hI L xs ρ ms I' := by
  unfold iv_ast at h
  obtain ⟨k1, k2⟩ := iv_cmp_ok h hG hI ha hb
  by_cases hc : iv_ci c (iv_e L xs ρ ms a) (iv_e L xs ρ ms b)
  · exact ⟨hc, k1 hc⟩
  · obtain ⟨I', l', g1, g2, g3⟩ := k2 hc
    cases g1
    exact (g2 _ List.mem_cons_self ms hm g3).elim
theorem iv_num64 {z : Int} (h1 : -9223372036854775808 ≤ z) (h2 : z ≤ 9223372036854775807) : iv_i64 (iv_e L xs ρ ms (.nest z .nil)) := by rw [iv_e_num]; exact ⟨h1, h2⟩
/-- a division -/
theorem iv_c_div {o : Nat} {f : Int32 → Int32 → Int32} {v1 v2 : iv_E} {r : List iv_V} (ho : o ≤ 18 ∧ o ≠ 0) (hf : iv_fo o = f) (hd : decode (sx_fi y).2.1 pc = .ok (ins, 1)) (hr : mm_isR ins = false) (hp : ∀ (a b : Int32) (r : List Value), ¬ b = 0 → mm_pure (sx_fi y).2.2.1 ins 1 pc lc (.int b :: .int a :: r) = some (pc + 1, lc, .int (f a b) :: r)) (h : iv_ast W I 5 v2 (.nest 0 .nil) (fun I => iv_bin o v1 v2 (fun v => iv_go I W y full tl lv ((0, v) :: r) K (pc + 1))) = some l) (hG : ∀ x ∈ l, iv_GX L xs vz Q ρ μ d x) (B : iv_B L xs ρ μ ms W y full tl lv K lc Kc) (hI : iv_hI L xs ρ ms I) (hs : iv_gs L xs ρ ms ((0, v2) :: (0, v1) :: r) sc) : mm_T 38 (mm_zs vz) Q Kc (d - K.length) (sx_fi y) (pc, lc, sc, iv_m L xs (iv_last ms), cb, sb) := by
  obtain ⟨s1, rfl, b2, hs⟩ := iv_int hs
  obtain ⟨s2, rfl, b1, hs⟩ := iv_int hs
  obtain ⟨h0, I', l', g1, g2, g3⟩ := iv_ast_ok h hG B.1 hI (iv_3264 b2) (iv_num64 (by omega) (by omega))
  rw [iv_e_num] at h0
  have hne : ¬ Int32.ofInt (iv_e L xs ρ ms v2) = 0 := fun q => h0 ((iv_eq32 b2 (show iv_i32 0 by unfold iv_i32; omega)).mp (q.trans (by decide)))
  obtain ⟨e, e1, e2⟩ := iv_bin_ok (L := L) (xs := xs) (ρ := ρ) (ms := ms) (o := o) (a := v1) (b := v2) (k := fun v => iv_go I' W y full tl lv ((0, v) :: r) K (pc + 1)) (by omega) (by omega)
  rw [e1] at g1
  obtain ⟨p1, p2⟩ := iv_op_ok ho.1 ho.2 b1 b2
  exact iv_pgo hd hr (hp _ _ _ hne) g1 g2 B g3 (iv_pushi hs (by rw [e2, p1, hf]) (by rw [e2]; exact p2))
/-- a switch -/
theorem iv_sw_ok {I0 : List iv_I} {v : iv_E} {dflt : Int} {k : Int → List iv_I → iv_R} (hv : iv_i32 (iv_e L xs ρ ms v)) (hI0 : iv_hI L xs ρ ms I0) : ∀ {ps : List (Int × Int)} {I : List iv_I} {l : List (iv_S ⊕ iv_L)}, (∀ q ∈ ps, iv_i32 q.1) → iv_sw I I0 v dflt k ps = some l → (∀ x ∈ l, iv_GX L xs vz Q ρ μ d x) → iv_hI L xs ρ ms I → ∃ I' l', k (Op.lookupswitch.offset ps dflt (iv_e L xs ρ ms v)) I' = some l' ∧ (∀ x ∈ l', iv_GX L xs vz Q ρ μ d x) ∧ iv_hI L xs ρ ms I'
  | [], I, l, _, h, hG, hI => ⟨I, l, h, hG, hI⟩
  | (z, off) :: t, I, l, hz, h, hG, hI => by
    have hz0 := hz _ List.mem_cons_self
    have hzt := fun q hq => hz q (List.mem_cons_of_mem _ hq)
    have hd := iv_dec_ok (L := L) (xs := xs) (ρ := ρ) (ms := ms) (c := 4) (a := v) (b := .nest z .nil) hI (iv_3264 hv) (by rw [iv_e_num]; exact iv_3264 hz0)
    rw [iv_e_num] at hd
    unfold iv_sw at h
    rw [iv_num_eq] at h
    rw [Op.lookupswitch.offset_cons]
    split at h
    · next e =>
      have : iv_e L xs ρ ms v = z := hd.1 e
      rw [if_pos this.symm]
      exact ⟨I0, l, h, hG, hI0⟩
    · next e =>
      have : iv_e L xs ρ ms v ≠ z := hd.2 e
      rw [if_neg (fun q => this q.symm)]
      exact iv_sw_ok hv hI0 hzt h hG hI
    · obtain ⟨x, w, h1, h2, rfl⟩ := iv_both_ok h
      by_cases e : z = iv_e L xs ρ ms v
      · rw [if_pos e]
        exact ⟨_, x, h1, fun q hq => hG q (List.mem_append.mpr (Or.inl hq)), iv_hI_cons hI0 (by show iv_e L xs ρ ms v = iv_e L xs ρ ms (.nest z .nil); rw [iv_e_num]; exact e.symm)⟩
      · rw [if_neg e]
        exact iv_sw_ok hv hI0 hzt h2 (fun q hq => hG q (List.mem_append.mpr (Or.inr hq))) (iv_hI_cons hI (by show iv_e L xs ρ ms v ≠ iv_e L xs ρ ms (.nest z .nil); rw [iv_e_num]; exact fun q => e q.symm))
theorem iv_ofs_off {dflt x : Int} : ∀ {os : List Int} {lo : Int}, Op.lookupswitch.offset (iv_ofs lo os) dflt x = if x < lo ∨ lo + os.length ≤ x then dflt else os.getD (x - lo).toNat dflt
  | [], lo => by
    show dflt = _
    rw [if_pos (by simp only [List.length_nil]; omega)]
  | o :: t, lo => by
    show Op.lookupswitch.offset ((lo, o) :: iv_ofs (lo + 1) t) dflt x = _
    rw [Op.lookupswitch.offset_cons, iv_ofs_off]
    by_cases e : lo = x
    · subst e
      rw [if_pos rfl, if_neg (by simp only [List.length_cons]; omega), show (lo - lo).toNat = 0 by omega]
      rfl
    · rw [if_neg e]
      by_cases q : x < lo ∨ lo + (o :: t).length ≤ x
      · rw [if_pos q, if_pos (by simp only [List.length_cons] at q; omega)]
      · rw [if_neg q, if_neg (by simp only [List.length_cons] at q; omega), show (x - lo).toNat = (x - (lo + 1)).toNat + 1 by omega]
        rfl
theorem iv_ofs_i32 {hi : Int} (hh : hi ≤ 2147483647) : ∀ {os : List Int} {lo : Int}, -2147483648 ≤ lo → lo + os.length ≤ hi + 1 → ∀ q ∈ iv_ofs lo os, iv_i32 q.1
  | [], _, _, _, q, hq => by cases hq
  | o :: t, lo, h1, h2, q, hq => by
    rcases List.mem_cons.mp hq with rfl | hq
    · simp only [List.length_cons] at h2
      exact ⟨h1, by show lo ≤ _; omega⟩
    · simp only [List.length_cons] at h2
      exact iv_ofs_i32 hh (by omega) (by omega) q hq
theorem iv_c_tsw {dflt lo hi : Int} {offs : Array Int} {v : iv_E} {r : List iv_V} (hd : decode (sx_fi y).2.1 pc = .ok (.tableswitch dflt lo hi offs, len)) (e : offs.size = (hi - lo + 1).toNat ∧ lo ≤ hi ∧ -2147483648 ≤ lo ∧ hi ≤ 2147483647) (h : iv_sw I I v dflt (fun off I => match mm_tgt pc off with
    | some t => iv_go I W y full tl lv r K t
    | none => none) (iv_ofs lo offs.toList) = some l) (hG : ∀ x ∈ l, iv_GX L xs vz Q ρ μ d x) (B : iv_B L xs ρ μ ms W y full tl lv K lc Kc) (hI : iv_hI L xs ρ ms I) (hs : iv_gs L xs ρ ms ((0, v) :: r) sc) : mm_T 38 (mm_zs vz) Q Kc (d - K.length) (sx_fi y) (pc, lc, sc, iv_m L xs (iv_last ms), cb, sb) := by
  obtain ⟨s1, rfl, b1, hs⟩ := iv_int hs
  obtain ⟨e1, e2, e3, e4⟩ := e
  have hl : offs.toList.length = (hi - lo + 1).toNat := by rw [Array.length_toList]; exact e1
  obtain ⟨I', l', g1, g2, g3⟩ := iv_sw_ok b1 hI (iv_ofs_i32 e4 e3 (by rw [hl]; omega)) h hG hI
  try dsimp only at g1
  rw [iv_ofs_off, hl] at g1
  split at g1
  · next t ht =>
    refine iv_pgo (n := t) (sc' := s1) hd rfl ?_ g1 g2 B g3 hs
    simp only [mm_pure]
    unfold mm_sw
    dsimp only
    rw [iv_of32 b1]
    by_cases q : iv_e L xs ρ ms v < lo ∨ hi < iv_e L xs ρ ms v
    · rw [if_pos q]
      rw [if_pos (by omega)] at ht
      rw [ht]
      rfl
    · rw [if_neg q]
      rw [if_neg (by omega)] at ht
      rw [List.getD_eq_getElem?_getD, List.getElem?_eq_getElem (by rw [hl]; omega)] at ht
      rw [← Array.getElem?_toList, List.getElem?_eq_getElem (by rw [hl]; omega)]
      dsimp only
      rw [show mm_tgt pc (offs.toList[(iv_e L xs ρ ms v - lo).toNat]'(by rw [hl]; omega)) = some t from ht]
      rfl
  · cases g1
theorem iv_c_lsw {dflt : Int} {ps : Array (Int × Int)} {v : iv_E} {r : List iv_V} (hd : decode (sx_fi y).2.1 pc = .ok (.lookupswitch dflt ps, len)) (e1 : (ps.toList.zip (ps.toList.drop 1)).all (fun (a, next) => a.1 < next.1) = true) (e2 : ps.toList.all (fun q => decide (-2147483648 ≤ q.1) && decide (q.1 ≤ 2147483647)) = true) (h : iv_sw I I v dflt (fun off I => match mm_tgt pc off with
    | some t => iv_go I W y full tl lv r K t
    | none => none) ps.toList = some l) (hG : ∀ x ∈ l, iv_GX L xs vz Q ρ μ d x) (B : iv_B L xs ρ μ ms W y full tl lv K lc Kc) (hI : iv_hI L xs ρ ms I) (hs : iv_gs L xs ρ ms ((0, v) :: r) sc) : mm_T 38 (mm_zs vz) Q Kc (d - K.length) (sx_fi y) (pc, lc, sc, iv_m L xs (iv_last ms), cb, sb) := by
  obtain ⟨s1, rfl, b1, hs⟩ := iv_int hs
  obtain ⟨I', l', g1, g2, g3⟩ := iv_sw_ok b1 hI (fun q hq => by
    have := List.all_eq_true.mp e2 q hq
    rw [Bool.and_eq_true, decide_eq_true_eq, decide_eq_true_eq] at this
    exact this) h hG hI
  try dsimp only at g1
  split at g1
  · next t ht =>
    refine iv_pgo (n := t) (sc' := s1) hd rfl ?_ g1 g2 B g3 hs
    simp only [mm_pure]
    unfold mm_lsw
    dsimp only
    rw [if_pos e1, iv_of32 b1, ht]
    rfl
  · cases g1
theorem iv_c_inc {i : Nat} {n : Int} {v : iv_E} (hd : decode (sx_fi y).2.1 pc = .ok (.iinc i n, 3)) (hv : iv_ld 0 lv i = some (0, v)) (hi : i < lv.length) (h : iv_num (Int32.ofInt n).toInt (fun c => iv_binI I 1 v c (fun w => iv_l1K lv i (0, w) (fun lv => iv_go I W y full tl lv st K (pc + 3)))) = some l) (hG : ∀ x ∈ l, iv_GX L xs vz Q ρ μ d x) (B : iv_B L xs ρ μ ms W y full tl lv K lc Kc) (hI : iv_hI L xs ρ ms I) (hs : iv_gs L xs ρ ms st sc) : mm_T 38 (mm_zs vz) Q Kc (d - K.length) (sx_fi y) (pc, lc, sc, iv_m L xs (iv_last ms), cb, sb) := by
  obtain ⟨B1, B2, B3, B4, B5, B6⟩ := B
  obtain ⟨g1, g2, g3⟩ := iv_ld_ok hv B5
  have b1 : iv_i32 (iv_e L xs ρ ms v) := g2
  rw [iv_num_eq] at h
  obtain ⟨e, e1, e2⟩ := iv_binI_ok hI (L := L) (xs := xs) (ρ := ρ) (ms := ms) (o := 1) (a := v) (b := .nest (Int32.ofInt n).toInt .nil) (k := fun w => iv_l1K lv i (0, w) (fun lv => iv_go I W y full tl lv st K (pc + 3))) (by decide) (by decide)
  rw [e1] at h
  rw [iv_e_num] at e2
  obtain ⟨p1, p2⟩ := iv_op_ok (o := 1) (by decide) (by decide) b1 (iv_t32 (Int32.ofInt n))
  obtain ⟨lv1, q1, q2, q3, q4⟩ := iv_lK_ok h B5
  have hcv : iv_cvs L xs ρ ms (0, e) = .int (Int32.ofInt (iv_e L xs ρ ms v) + Int32.ofInt n) := by
    show Value.int (Int32.ofInt (iv_e L xs ρ ms e)) = _
    rw [e2, p1, Int32.ofInt_toInt]
    rfl
  have hg2 := iv_l1_key (v := (0, e)) q3 q4 (by show iv_i32 _; rw [e2]; exact p2)
  rw [hcv] at hg2
  refine mm_T_step hd rfl (iv_pst (f := (pc + 3, mm_l1 lc i (.int (Int32.ofInt (iv_e L xs ρ ms v) + Int32.ofInt n)), sc)) ?_) (iv_go_ok q1 hG ⟨B1, B2, B3, by rw [List.length_set, q2]; exact B4, hg2, B6⟩ hI hs)
  show mm_inc _ _ _ _ _ _ _ = _
  unfold mm_inc
  have g1 : mm_lget lc i = some (.int (Int32.ofInt (iv_e L xs ρ ms v))) := g1
  rw [g1]
  dsimp only
  rw [if_pos ⟨rfl, by rw [← B4]; exact hi⟩]
end IVN
