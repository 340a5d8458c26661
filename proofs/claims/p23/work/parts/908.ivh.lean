/-! ===== methods by their values: fields, rows, as steps ===== -/
section IVP
variable {L : Nat} {xs : Nat → Int32} {vz : Value} {Q : mm_S → Prop} {ρ : List Int} {μ : iv_M} {d : Nat} {ms : List iv_M} {I : List iv_I} {W : List (List iv_E)} {y : Nat} {full tl : List sx_I} {lv : List (Option iv_V)} {st : List iv_V} {K : List iv_F} {pc : Nat} {lc : List (Nat × Value)} {sc : List Value} {Kc : List mm_Fr} {cb sb : Nat} {l : List (iv_S ⊕ iv_L)} {ins : Instr} {len : Nat}
theorem iv_e_last (hm : ms = iv_ms L xs ρ [μ] W) (p s : iv_E) : iv_e L xs ρ ms (.nest (.ofNat W.length) (.append p s)) = iv_last ms (iv_e L xs ρ ms p) (iv_e L xs ρ ms s) := by
  rw [iv_e_rd]
  have hl : ms.length = W.length + 1 := by
    rw [hm, iv_ms_len]
    simp only [List.length_cons, List.length_nil]
    omega
  have key : ms.getD W.length (fun _ _ => 0) = iv_last ms := by
    unfold iv_last
    rw [List.getD_eq_getElem?_getD, List.getLastD_eq_getLast?, List.getLast?_eq_getElem?, hl]
    rfl
  show ms.getD W.length (fun _ _ => 0) _ _ = _
  rw [key]
theorem iv_rd_i32 {t k : Nat} {p : Int} (hN : iv_N (iv_last ms)) (hp : iv_ip t p) (hs : iv_sk t k ≠ 1) : iv_i32 (iv_last ms p k) := by
  have h := hN p.toNat k
  rw [hp.2.1, Int.toNat_of_nonneg hp.1] at h
  exact iv_rg0 h hs
theorem iv_sk_obj {t k : Nat} (ht : t ≤ 99) : iv_sk t k ≠ 1 := by
  unfold iv_sk
  rw [iv_ars_obj ht]
  dsimp only
  split <;> decide
theorem iv_c_getf {idx a b kd t : Nat} {z : Int} {p : iv_E} {r : List iv_V} (hd : decode (sx_fi y).2.1 pc = .ok (.getfield idx, 3)) (hpl : sx_pl (sx_fi y).1 idx (pc, .getfield idx, 3, kd, a, b, z) = true) (hk : kd = 0 ∨ kd = 1) (hta : t = a) (h15 : t ≤ 15) (h : (match (iv_fds t)[b]? with
    | some (2, u, off) => iv_pad p off (fun q => iv_go I W y full tl lv ((u + 2, q) :: r) K (pc + 3))
    | some (3, _, _) => iv_go I W y full tl lv ((0, .nest 0 .nil) :: r) K (pc + 3)
    | some (_, _, _) => iv_rd W p (.nest b .nil) (fun v => iv_go I W y full tl lv ((0, v) :: r) K (pc + 3))
    | none => none) = some l) (hG : ∀ x ∈ l, iv_GX L xs vz Q ρ μ d x) (B : iv_B L xs ρ μ ms W y full tl lv K lc Kc) (hI : iv_hI L xs ρ ms I) (hs : iv_gs L xs ρ ms ((t + 2, p) :: r) sc) : mm_T 38 (mm_zs vz) Q Kc (d - K.length) (sx_fi y) (pc, lc, sc, iv_m L xs (iv_last ms), cb, sb) := by
  subst hta
  obtain ⟨s1, rfl, hp, hs⟩ := iv_rfv hs
  obtain ⟨pl, hlk⟩ := sx_pl_ok hpl (by rcases hk with rfl | rfl <;> decide)
  have key : ∀ (f : Nat × Nat × Int) (x : Value), (iv_fds t)[b]? = some f → (match f.1 with
      | 2 => .ref (iv_e L xs ρ ms p + f.2.2).toNat
      | 3 => .int 0
      | _ => .int (Int32.ofInt (iv_last ms (iv_e L xs ρ ms p) b))) = x → mm_mem (sx_fi y).1 38 (sx_fi y).2.2.2 (mm_zs vz) (.getfield idx) 3 (pc, lc, .ref (iv_e L xs ρ ms p).toNat :: s1, iv_m L xs (iv_last ms), cb, sb) = some (pc + 3, lc, x :: s1, iv_m L xs (iv_last ms), cb, sb) := by
    intro f x hf hx
    obtain ⟨fs, f1, f2⟩ := iv_fld (L := L) (xs := xs) (μ := iv_last ms) hp h15 hf
    simp only [mm_mem]
    unfold mm_getS
    dsimp only
    rw [hlk, f1]
    dsimp only
    rw [if_pos ⟨rfl, rfl, hk, rfl⟩, f2]
    exact congrArg (fun v => some (pc + 3, lc, v :: s1, iv_m L xs (iv_last ms), cb, sb)) hx
  split at h
  · next u off e =>
    obtain ⟨q, q1, q2⟩ := iv_pad_ok (L := L) (xs := xs) (ρ := ρ) (ms := ms) (a := p) (c := off) (k := fun q => iv_go I W y full tl lv ((u + 2, q) :: r) K (pc + 3))
    rw [q1] at h
    refine iv_mgo hd rfl rfl (key _ _ e rfl) h hG B hI (iv_gs_push hs ?_ ?_)
    · show Value.ref (iv_e L xs ρ ms q).toNat = _
      rw [q2]
      rfl
    · show iv_ip u (iv_e L xs ρ ms q)
      rw [q2]
      exact iv_fd_ip hp e
  · next e =>
    refine iv_mgo hd rfl rfl (key _ _ e rfl) h hG B hI (iv_pushi hs ?_ ?_)
    · rw [iv_e_num]; rfl
    · rw [iv_e_num]; unfold iv_i32; omega
  · next f1 f2 f3 n2 n3 e =>
    rw [iv_rd_ok] at h
    have he : iv_e L xs ρ ms (.nest (.ofNat W.length) (.append p (.nest b .nil))) = iv_last ms (iv_e L xs ρ ms p) b := by
      rw [iv_e_last B.1, iv_e_num]
    refine iv_mgo hd rfl rfl (key _ _ e ?_) h hG B hI (iv_pushi hs rfl ?_)
    · rw [he]
      dsimp only
      split
      · exact (n2 rfl).elim
      · exact (n3 rfl).elim
      · rfl
    · rw [he]
      exact iv_rd_i32 B.2.2.2.2.2.2.2 hp (iv_sk_obj (by omega))
  · cases h
/-- a field written -/
theorem iv_c_putf {idx a b kd t : Nat} {z : Int} {p v : iv_E} {r : List iv_V} {f : Nat × Nat × Int} {q : vw_C} (hd : decode (sx_fi y).2.1 pc = .ok (.putfield idx, 3)) (hpl : sx_pl (sx_fi y).1 idx (pc, .putfield idx, 3, kd, a, b, z) = true) (hk : kd = 0 ∨ kd = 1) (hta : t = a) (h12 : t ≤ 12) (hf : (iv_fds t)[b]? = some f) (hf2 : f.1 ≠ 2) (hq : vwCl[a]? = some q) (hq2 : (q.2.1 b).2.2.2 = false) (hv : iv_i32 (iv_e L xs ρ ms v) → narrow (mm_ty a b) (.int (Int32.ofInt (iv_e L xs ρ ms v))) = .int (Int32.ofInt (iv_e L xs ρ ms v)) ∧ fits (mm_ty a b) (.int (Int32.ofInt (iv_e L xs ρ ms v))) = true ∧ iv_rg (iv_sk t b) (iv_e L xs ρ ms v)) (h : iv_wrt I W lv r K [p, .nest b .nil, v] (fun W => iv_go I W y full tl lv r K (pc + 3)) = some l) (hG : ∀ x ∈ l, iv_GX L xs vz Q ρ μ d x) (B : iv_B L xs ρ μ ms W y full tl lv K lc Kc) (hI : iv_hI L xs ρ ms I) (hs : iv_gs L xs ρ ms ((0, v) :: (t + 2, p) :: r) sc) : mm_T 38 (mm_zs vz) Q Kc (d - K.length) (sx_fi y) (pc, lc, sc, iv_m L xs (iv_last ms), cb, sb) := by
  subst hta
  obtain ⟨s1, rfl, bv, hs⟩ := iv_int hs
  obtain ⟨s2, rfl, hp, hs⟩ := iv_rfv hs
  obtain ⟨pl, hlk⟩ := sx_pl_ok hpl (by rcases hk with rfl | rfl <;> decide)
  obtain ⟨v1, v2, v3⟩ := hv bv
  have ha := iv_ars_obj (t := t) (by omega)
  obtain ⟨o1, o2⟩ := iv_own hp.2.1 (Or.inl h12)
  have hmw : iv_mw L xs ρ ms [p, .nest b .nil, v] = iv_upd (iv_last ms) ((iv_e L xs ρ ms p).toNat : Int) b (iv_e L xs ρ ms v) := by
    show iv_upd _ _ (iv_e L xs ρ ms (.nest b .nil)) _ = _
    rw [iv_e_num, Int.toNat_of_nonneg hp.1]
  refine iv_wgo hd rfl rfl ?_ h hG B hI hs ?_
  · simp only [mm_mem]
    unfold mm_putS
    dsimp only
    rw [hlk, iv_m_own o1 o2, iv_cl_obj hp.2.1 ha]
    dsimp only
    rw [hq]
    dsimp only
    rw [if_pos ⟨rfl, rfl, rfl, o1, v1, v2, Or.inl ⟨hk, hq2⟩⟩, hmw, iv_set_obj hp.2.1 h12 hf hf2 ha]
  · rw [hmw]
    exact iv_N_upd B.2.2.2.2.2.2.2 hp.2.1 (by omega) (by rw [Int.toNat_natCast]; exact v3)
theorem iv_nar_bool {x : Int} (h0 : 0 ≤ x) (h1 : x < 2) : narrow .boolean (.int (Int32.ofInt x)) = .int (Int32.ofInt x) ∧ fits .boolean (.int (Int32.ofInt x)) = true := by
  rcases (show x = 0 ∨ x = 1 by omega) with rfl | rfl
  · exact ⟨by decide, by decide⟩
  · exact ⟨by decide, by decide⟩
/-- a row read -/
theorem iv_lft_ok {ft : Nat} {a : Nat × Nat × Nat × Int × Int} (h : iv_lft ins a.1 = true) (hb : iv_ft a = .boolean ↔ a.1 = 4) : ∃ P : FieldType → Bool, P (iv_ft a) = true ∧ mm_isR ins = false ∧ (∀ (nL : Nat) (lc : List (Nat × Value)) (sc : List Value), mm_pure nL ins 1 pc lc sc = none) ∧ ∀ (o : Nat) (ini : Bool) (zs : List mm_Zt) (σ : mm_S), mm_mem o 38 ini zs ins 1 σ = mm_aldS P 1 σ := by
  obtain ⟨a1, a2⟩ := a
  dsimp only at h
  unfold iv_lft at h
  split at h
  · exact ⟨fun ty => decide (ty = .int), rfl, rfl, fun _ _ _ => rfl, fun _ _ _ _ => rfl⟩
  · exact ⟨fun ty => decide (ty = .long), rfl, rfl, fun _ _ _ => rfl, fun _ _ _ _ => rfl⟩
  · exact ⟨fun ty => decide (ty = .byte ∨ ty = .boolean), rfl, rfl, fun _ _ _ => rfl, fun _ _ _ _ => rfl⟩
  · exact ⟨fun ty => decide (ty = .char), rfl, rfl, fun _ _ _ => rfl, fun _ _ _ _ => rfl⟩
  · exact ⟨fun ty => decide (ty = .byte ∨ ty = .boolean), rfl, rfl, fun _ _ _ => rfl, fun _ _ _ _ => rfl⟩
  · exact ⟨fun ty => ty.isReference, rfl, rfl, fun _ _ _ => rfl, fun _ _ _ _ => rfl⟩
  · cases h
theorem iv_c_ald {t : Nat} {p j : iv_E} {r : List iv_V} {q : Nat × Nat × Nat × Int × Int} (hd : decode (sx_fi y).2.1 pc = .ok (ins, 1)) (hq : iv_ars t = some q) (hl : iv_lft ins q.1 = true) (h : iv_num (q.2.1 : Int) (fun n => iv_ast W I 6 j n (fun I => match q.1 with
    | 5 => iv_elt p j q.2.2.2.1 q.2.2.2.2 (fun e => iv_go I W y full tl lv ((q.2.2.1 + 2, e) :: r) K (pc + 1))
    | 1 => iv_rd W p j (fun v => iv_go I W y full tl lv ((1, v) :: r) K (pc + 1))
    | _ => iv_rd W p j (fun v => iv_go I W y full tl lv ((0, v) :: r) K (pc + 1)))) = some l) (hG : ∀ x ∈ l, iv_GX L xs vz Q ρ μ d x) (B : iv_B L xs ρ μ ms W y full tl lv K lc Kc) (hI : iv_hI L xs ρ ms I) (hs : iv_gs L xs ρ ms ((0, j) :: (t + 2, p) :: r) sc) : mm_T 38 (mm_zs vz) Q Kc (d - K.length) (sx_fi y) (pc, lc, sc, iv_m L xs (iv_last ms), cb, sb) := by
  obtain ⟨s1, rfl, bj, hs⟩ := iv_int hs
  obtain ⟨s2, rfl, hp, hs⟩ := iv_rfv hs
  obtain ⟨l1, l2⟩ := iv_ars_lt hq
  obtain ⟨P, P1, P2, P3, P4⟩ := iv_lft_ok (pc := pc) (ft := 0) hl l2
  rw [iv_num_eq] at h
  obtain ⟨h0, I', l', g1, g2, g3⟩ := iv_ast_ok h hG B.1 hI (iv_3264 bj) (iv_num64 (by omega) (by omega))
  rw [iv_e_num] at h0
  obtain ⟨j0, j1⟩ : 0 ≤ iv_e L xs ρ ms j ∧ iv_e L xs ρ ms j < (q.2.1 : Int) := h0
  obtain ⟨jx, jn⟩ := iv_jx bj j0 j1
  obtain ⟨m1, m2, m3, m4⟩ := iv_elm (L := L) (xs := xs) (μ := iv_last ms) (k := (iv_e L xs ρ ms j).toNat) hp hq (by omega)
  have key : mm_mem (sx_fi y).1 38 (sx_fi y).2.2.2 (mm_zs vz) ins 1 (pc, lc, .int (Int32.ofInt (iv_e L xs ρ ms j)) :: .ref (iv_e L xs ρ ms p).toNat :: s2, iv_m L xs (iv_last ms), cb, sb) = some (pc + 1, lc, iv_av q (iv_last ms) (iv_e L xs ρ ms p).toNat (iv_e L xs ρ ms j).toNat :: s2, iv_m L xs (iv_last ms), cb, sb) := by
    rw [P4]
    unfold mm_aldS
    dsimp only
    rw [m1]
    dsimp only
    rw [List.length_map, List.length_range, if_pos ⟨rfl, P1, jx⟩, jn, m2]
    rfl
  have hsk : ∀ k, iv_sk t k = q.1 := fun k => iv_ars_sk hq
  split at g1
  · next e5 =>
    obtain ⟨q1, q2, q3, q4, q5⟩ := q
    dsimp only at e5 g1 key j1 hq
    subst e5
    obtain ⟨e, e1, e2⟩ := iv_elt_ok (L := L) (xs := xs) (ρ := ρ) (ms := ms) (p := p) (j := j) (off := q4) (stride := q5) (k := fun e => iv_go I' W y full tl lv ((q3 + 2, e) :: r) K (pc + 1))
    rw [e1] at g1
    refine iv_mgo hd P2 (P3 _ _ _) key g1 g2 B g3 (iv_gs_push hs ?_ ?_)
    · show Value.ref (iv_e L xs ρ ms e).toNat = Value.ref (((iv_e L xs ρ ms p).toNat : Int) + q4 + q5 * ((iv_e L xs ρ ms j).toNat : Int)).toNat
      rw [e2, Int.toNat_of_nonneg hp.1, Int.toNat_of_nonneg j0]
    · show iv_ip q3 (iv_e L xs ρ ms e)
      rw [e2]
      exact iv_ar_ip hp hq j0 j1
  · next e5 =>
    rw [iv_rd_ok] at g1
    have he := iv_e_last B.1 p j
    refine iv_mgo hd P2 (P3 _ _ _) key g1 g2 B g3 (iv_gs_push hs ?_ ?_)
    · show Value.long (Int64.ofInt (iv_e L xs ρ ms _)) = _
      rw [he]
      unfold iv_av
      rw [e5, Int.toNat_of_nonneg hp.1, Int.toNat_of_nonneg j0]
      rfl
    · show iv_i64 (iv_e L xs ρ ms _)
      rw [he]
      have hN := B.2.2.2.2.2.2.2 (iv_e L xs ρ ms p).toNat (iv_e L xs ρ ms j).toNat
      rw [hp.2.1, hsk, e5, Int.toNat_of_nonneg hp.1, Int.toNat_of_nonneg j0] at hN
      exact hN
  · next n5 n1 =>
    rw [iv_rd_ok] at g1
    have he := iv_e_last B.1 p j
    have hN := B.2.2.2.2.2.2.2 (iv_e L xs ρ ms p).toNat (iv_e L xs ρ ms j).toNat
    rw [hp.2.1, hsk, Int.toNat_of_nonneg hp.1, Int.toNat_of_nonneg j0] at hN
    have hav : iv_av q (iv_last ms) (iv_e L xs ρ ms p).toNat (iv_e L xs ρ ms j).toNat = .int (Int32.ofInt (iv_last ms (iv_e L xs ρ ms p) (iv_e L xs ρ ms j))) := by
      unfold iv_av
      rw [Int.toNat_of_nonneg hp.1, Int.toNat_of_nonneg j0]
      split
      · next e => exact absurd e n1
      · next e => exact absurd e n5
      · rfl
    rw [hav] at key
    exact iv_mgo hd P2 (P3 _ _ _) key g1 g2 B g3 (iv_pushi hs (by rw [he]) (by rw [he]; exact iv_rg0 hN n1))
/-- a row of others read -/
theorem iv_c_aldo (hL : L ≤ 3072) {t : Nat} {p j : iv_E} {r : List iv_V} (hd : decode (sx_fi y).2.1 pc = .ok (ins, 1)) (hl : (t = 16 ∧ iv_lft ins 0 = true) ∨ (t = 17 ∧ iv_lft ins 2 = true)) (h : iv_ast W I 6 j (.tag 43 (.append p .nil)) (fun I => iv_go I W y full tl lv ((0, .tag 40 (.append p j)) :: r) K (pc + 1)) = some l) (hG : ∀ x ∈ l, iv_GX L xs vz Q ρ μ d x) (B : iv_B L xs ρ μ ms W y full tl lv K lc Kc) (hI : iv_hI L xs ρ ms I) (hs : iv_gs L xs ρ ms ((0, j) :: (t + 2, p) :: r) sc) : mm_T 38 (mm_zs vz) Q Kc (d - K.length) (sx_fi y) (pc, lc, sc, iv_m L xs (iv_last ms), cb, sb) := by
  obtain ⟨s1, rfl, bj, hs⟩ := iv_int hs
  obtain ⟨s2, rfl, hp, hs⟩ := iv_rfv hs
  obtain ⟨vs, v1, v2, v3, v4⟩ := iv_oth (L := L) (xs := xs) (μ := iv_last ms) hL hp (by rcases hl with h | h; exact Or.inl h.1; exact Or.inr h.1)
  obtain ⟨h0, I', l', g1, g2, g3⟩ := iv_ast_ok h hG B.1 hI (iv_3264 bj) (by rw [iv_e_43, v2]; unfold iv_i64; omega)
  rw [iv_e_43, v2] at h0
  obtain ⟨j0, j1⟩ : 0 ≤ iv_e L xs ρ ms j ∧ iv_e L xs ρ ms j < (vs.length : Int) := h0
  obtain ⟨jx, jn⟩ := iv_jx bj j0 j1
  obtain ⟨x, x1, x2⟩ := v4 _ j0 j1
  have key : ∃ P : FieldType → Bool, P (if t = 16 then .int else .byte) = true ∧ mm_isR ins = false ∧ (∀ (nL : Nat) (lc : List (Nat × Value)) (sc : List Value), mm_pure nL ins 1 pc lc sc = none) ∧ ∀ (o : Nat) (ini : Bool) (zs : List mm_Zt) (σ : mm_S), mm_mem o 38 ini zs ins 1 σ = mm_aldS P 1 σ := by
    rcases hl with ⟨rfl, hl⟩ | ⟨rfl, hl⟩
    · exact iv_lft_ok (a := (0, 0, 0, 0, 0)) (ft := 0) hl (by decide)
    · exact iv_lft_ok (a := (2, 0, 0, 0, 0)) (ft := 0) hl (by decide)
  obtain ⟨P, P1, P2, P3, P4⟩ := key
  refine iv_mgo (sc' := .int x :: s2) hd P2 (P3 _ _ _) ?_ g1 g2 B g3 (iv_pushi hs (by rw [iv_e_40, x2, Int32.ofInt_toInt]) (by rw [iv_e_40, x2]; exact iv_t32 x))
  rw [P4]
  unfold mm_aldS
  dsimp only
  rw [v1]
  dsimp only
  rw [List.length_map, if_pos ⟨rfl, P1, jx⟩, jn, List.getElem?_map, x1]
  rfl
end IVP
