/-! ===== printed by wip/iv/gen_st5.py: the start: what both constructors make, as values ===== -/
def iv_tab0 : List (List Int) := [[], [], [], [], [], [], [], [], [], [], [], [], [], [], [], [], [], [], [], [], [], [], [], [], [], [], [], [], [], [], [], [], [], [], [], [], [], [], [], [], [], [], [], [], [], [], [], [], [], [], [], [], [], [], [], [], [], [], [], [], [], [], [], [], [], [0, 0, 0, 0, 0, 0, 1], [0, 0, 0, 0, 0, 0, 1], [0, 0, 0, 0, 0, 0, 1], [0, 0, 0, 0, 0, 0, 1], [0, 0, 0, 0, 0, 0, 1], [0, 0, 0, 0, 0, 0, 1], [0, 0, 0, 0, 0, 0, 1], [0, 0, 0, 0, 0, 0, 1], [0, 0, 0, 0, 0, 0, 1], [0, 0, 0, 0, 0, 0, 1], [0, 0, 0, 0, 0, 0, 1], [0, 0, 0, 0, 0, 0, 1], [0, 0, 0, 0, 0, 0, 1], [0, 0, 0, 0, 0, 0, 1], [], [], [], [], [], [], [], [], [], [], [], [], [], [], [], [], [], [], [], [], [], [], [], [], [], [], [], [], [], [], [], [], [], [], [], [], [], [], [], [], [], [], [], [], [], [], [], [], [], [], [], [], [], [0, 0, 0, 0, 0, 0, 1], [0, 0, 0, 0, 0, 0, 1], [0, 0, 0, 0, 0, 0, 1], [0, 0, 0, 0, 0, 0, 1], [0, 0, 0, 0, 0, 0, 1], [0, 0, 0, 0, 0, 0, 1], [0, 0, 0, 0, 0, 0, 1], [0, 0, 0, 0, 0, 0, 1], [0, 0, 0, 0, 0, 0, 1], [0, 0, 0, 0, 0, 0, 1], [0, 0, 0, 0, 0, 0, 1], [0, 0, 0, 0, 0, 0, 1], [0, 0, 0, 0, 0, 0, 1], [0, 0, 0, 0, 0, 0, 1], [], [], [], [], [], [], [], [], [], [], [], [], [], [], [], [], [], [], [], [], [], [], [], [], [], [], [], [], [], [], [], [], [], [], [], [], [], [], [], [], [], [], [], [], [], [], [], [], [], [], [], [], [], [], [119, 97, 118, 101, 115, 108, 111, 97, 100, 115, 116, 114, 101, 110, 103, 116, 104, 97, 103, 101, 107, 105, 110, 104, 101, 97, 100, 115, 119, 97, 116, 101, 114, 100, 97, 121, 98, 111, 114, 110, 116, 105, 101, 99, 117, 116, 115, 112, 101, 97, 107, 111, 114, 97, 110, 100, 110, 111, 116], [0, 5, 9, 17, 20, 23, 28, 33, 36, 40, 43, 46, 51, 53, 56, 59], [], [], [], [], [], [], [], [], [], [], []]
def iv_mu0 : iv_M := fun p k => (iv_tab0.getD p.toNat []).getD k.toNat 0
def iv_sv (v : sx_V) (x : Value) : Bool := match v, x with
  | .inl (.int a), .int b => decide (a = b)
  | .inl (.long a), .long b => decide (a = b)
  | .inl (.ref a), .ref b => Nat.beq a b
  | _, _ => false
def iv_scl (up : List (Nat × sx_V)) (df : sx_V) : Nat → List Value → Bool
  | _, [] => true
  | j, x :: t => iv_sv (sx_rd up j df) x && iv_scl up df (j + 1) t
def iv_scs : List sx_V → List Value → Bool
  | [], [] => true
  | a :: s, x :: t => iv_sv a x && iv_scs s t
  | _, _ => false
def iv_sc0 (c : sx_C) (c' : mm_C) : Bool := match c, c' with
  | .inl (el, n, df, up), .inl (t, xs) => decide (el = t) && (Nat.beq n xs.length && iv_scl up df 0 xs)
  | .inr (ci, fs), .inr (ci', fs') => Nat.beq ci ci' && iv_scs fs fs'
  | _, _ => false
def iv_scm : List sx_C → List mm_C → Bool
  | [], [] => true
  | a :: s, x :: t => iv_sc0 a x && iv_scm s t
  | _, _ => false
theorem iv_sv_ok {env : Nat → Int32} {v : sx_V} {x y : Value} (h : iv_sv v x = true) (hg : sx_g env v y) : y = x := by
  unfold iv_sv at h
  split at h
  · rw [of_decide_eq_true h] at hg; exact hg
  · rw [of_decide_eq_true h] at hg; exact hg
  · rw [Nat.eq_of_beq_eq_true h] at hg; exact hg
  · cases h
theorem iv_scl_ok {env : Nat → Int32} {up : List (Nat × sx_V)} {df : sx_V} : ∀ {xs ys : List Value} {j : Nat}, iv_scl up df j xs = true → ys.length = xs.length → (∀ i, i < xs.length → ∃ y, ys[i]? = some y ∧ sx_g env (sx_rd up (j + i) df) y) → ys = xs
  | [], ys, j, _, hl, _ => List.eq_nil_of_length_eq_zero hl
  | x :: t, [], j, _, hl, _ => by cases hl
  | x :: t, y :: s, j, h, hl, hg => by
    unfold iv_scl at h
    rw [Bool.and_eq_true] at h
    obtain ⟨y', e1, e2⟩ := hg 0 (Nat.zero_lt_succ _)
    cases e1
    rw [iv_sv_ok h.1 e2, iv_scl_ok (ys := s) h.2 (by simpa using hl) (fun i hi => by
      obtain ⟨y2, g1, g2⟩ := hg (i + 1) (by simpa using hi)
      exact ⟨y2, by simpa using g1, by rw [show j + 1 + i = j + (i + 1) by omega]; exact g2⟩)]
theorem iv_scs_ok {env : Nat → Int32} : ∀ {fs : List sx_V} {xs ys : List Value}, iv_scs fs xs = true → sx_r2 (sx_g env) fs ys → ys = xs
  | [], [], ys, _, hg => sx_r2_nil hg
  | a :: s, x :: t, [], h, hg => hg.elim
  | a :: s, x :: t, y :: u, h, hg => by
    unfold iv_scs at h
    rw [Bool.and_eq_true] at h
    rw [iv_sv_ok h.1 hg.1, iv_scs_ok h.2 hg.2]
  | [], _ :: _, _, h, _ => by cases h
  | _ :: _, [], _, h, _ => by cases h
theorem iv_sc0_ok {env : Nat → Int32} {c : sx_C} {c' d : mm_C} (h : iv_sc0 c c' = true) (hg : sx_gc env c d) : d = c' := by
  unfold iv_sc0 at h
  split at h
  · next el n df up t xs =>
    rw [Bool.and_eq_true, Bool.and_eq_true, decide_eq_true_eq] at h
    obtain ⟨h1, h2, h3⟩ := h
    have h2 := Nat.eq_of_beq_eq_true h2
    cases d with
    | inr a => exact hg.elim
    | inl a =>
      obtain ⟨t', ys⟩ := a
      obtain ⟨g1, g2, g3⟩ := hg
      have e := iv_scl_ok (env := env) (up := up) (df := df) (xs := xs) (ys := ys) (j := 0) h3 (by omega) (fun i hi => by
        obtain ⟨y, q1, q2⟩ := g3 i (by omega)
        exact ⟨y, q1, by rw [Nat.zero_add]; exact q2⟩)
      rw [e, ← g1, h1]
  · next ci fs ci' fs' =>
    rw [Bool.and_eq_true] at h
    cases d with
    | inl a => exact hg.elim
    | inr a =>
      obtain ⟨t', ys⟩ := a
      obtain ⟨g1, g2⟩ := hg
      rw [iv_scs_ok h.2 g2, ← g1, Nat.eq_of_beq_eq_true h.1]
  · cases h
theorem iv_scm_ok {env : Nat → Int32} : ∀ {cs : List sx_C} {m m' : List mm_C}, iv_scm cs m' = true → sx_r2 (sx_gc env) cs m → m = m'
  | [], m, [], _, hg => sx_r2_nil hg
  | a :: s, [], x :: t, h, hg => hg.elim
  | a :: s, y :: u, x :: t, h, hg => by
    unfold iv_scm at h
    rw [Bool.and_eq_true] at h
    rw [iv_sc0_ok h.1 hg.1, iv_scm_ok h.2 hg.2]
  | [], _, _ :: _, h, _ => by cases h
  | _ :: _, _, [], h, _ => by cases h
def iv_all (code0 code218 : List sx_I) (n0 n218 : Nat) : Bool := match st_to 38 st_zs 12 (st_S 0 38 code0 n0 st_m1) with
  | some S1 => (st_h S1 && Nat.beq S1.2.1.length 195) && (match st_to 38 st_zs 12 (st_S 218 195 code218 n218 (S1.2.1 ++ [.inr (12, ((List.range 26).map (fun k => defaultValue (mm_ty 12 k))).map .inl)])) with
    | some S2 => st_h S2 && (st_chk S2.2.1 && iv_scm S2.2.1.tail (iv_m 0 (fun _ => 0) iv_mu0).tail)
    | none => false)
  | none => false
set_option maxRecDepth 100000 in
theorem iv_all_ok : iv_all sx_c0 sx_c218 2 1 = true := by decide +kernel
theorem iv_st_m {env : Nat → Int32} {cs : List sx_C} {F : mm_C} {m : List mm_C} (h : iv_scm cs.tail (iv_m 0 (fun _ => 0) iv_mu0).tail = true) (hm : sx_r2 (sx_gc env) cs (F :: m)) : m = (iv_m 0 (fun _ => 0) iv_mu0).tail := by
  cases cs with
  | nil => exact hm.elim
  | cons c cs => exact iv_scm_ok h hm.2
theorem iv_run0 {L : Nat} {xs : Nat → Int32} {v : Value} (hgo : br_J L xs iv_mu0 → mm_T 38 (mm_zs v) la_Q [] 521 (sx_fi 330) (18, [(3, .int (Int32.ofInt 0)), (2, .ref 195), (1, .ref 38), (0, .ref 0)], [], iv_m L xs iv_mu0, 599825, 7287421)) : mm_T 38 (mm_zs v) la_Q [] 521 (sx_fi 330) (0, [(0, .ref 0)], [], mm_m0 L xs, 600000, 7302250) := by
  have hall := iv_all_ok
  unfold iv_all at hall
  split at hall
  · next S1 e1 =>
    rw [Bool.and_eq_true, Bool.and_eq_true] at hall
    obtain ⟨⟨a1, a2⟩, hall⟩ := hall
    have a2 := Nat.eq_of_beq_eq_true a2
    split at hall
    · next S2 e2 =>
      rw [Bool.and_eq_true, Bool.and_eq_true] at hall
      obtain ⟨b1, b2, b3⟩ := hall
      obtain ⟨t0, ht0⟩ : ∃ t, mm_mths[0]? = some t := ⟨_, rfl⟩
      have hf0 : (mm_mths[0]?).map (fun t => (t.2.2.2.1, t.2.2.2.2.1, t.2.2.2.2.2.1, t.2.2.2.2.2.2.1)) = some (2, none, 0, 2) := rfl
      rw [ht0] at hf0
      have hf0 := Option.some.inj hf0
      obtain ⟨t1, ht1⟩ : ∃ t, mm_mths[218]? = some t := ⟨_, rfl⟩
      have hf1 : (mm_mths[218]?).map (fun t => (t.2.2.2.1, t.2.2.2.2.1, t.2.2.2.2.2.1, t.2.2.2.2.2.2.1)) = some (1, none, 0, 2) := rfl
      rw [ht1] at hf1
      have hf1 := Option.some.inj hf1
      have n0 : t0.2.2.2.1 = 2 := congrArg (fun a => a.1) hf0
      have n1 : t0.2.2.2.2.1 = none := congrArg (fun a => a.2.1) hf0
      have n2 : t0.2.2.2.2.2.1 = 0 := congrArg (fun a => a.2.2.1) hf0
      have n3 : t0.2.2.2.2.2.2.1 = 2 := congrArg (fun a => a.2.2.2) hf0
      have k0 : t1.2.2.2.1 = 1 := congrArg (fun a => a.1) hf1
      have k1 : t1.2.2.2.2.1 = none := congrArg (fun a => a.2.1) hf1
      have k2 : t1.2.2.2.2.2.1 = 0 := congrArg (fun a => a.2.2.1) hf1
      have k3 : t1.2.2.2.2.2.2.1 = 2 := congrArg (fun a => a.2.2.2) hf1
      obtain ⟨p0, lk0⟩ : ∃ pl, mm_look (sx_fi 330).1 7 = some (7, 4, 11, 1023, 1001, pl) := ⟨_, rfl⟩
      obtain ⟨p1, lk1⟩ : ∃ pl, mm_look (sx_fi 330).1 9 = some (9, 2, 0, 0, 0, pl) := ⟨_, rfl⟩
      obtain ⟨p2, lk2⟩ : ∃ pl, mm_look (sx_fi 330).1 10 = some (10, 4, 12, 6138, 1013, pl) := ⟨_, rfl⟩
      obtain ⟨p3, lk3⟩ : ∃ pl, mm_look (sx_fi 330).1 12 = some (12, 2, 218, 0, 0, pl) := ⟨_, rfl⟩
      have hm0 : mm_m0 L xs = .inl (.int, mm_scr L xs) :: (mm_m0 0 (fun _ => 0)).tail := rfl
      have hl0 : (mm_m0 0 (fun _ => 0)).tail.length = 37 := rfl
      rw [hm0]
      have hr0 : sx_r2 (sx_gc (fun _ => 0)) st_m1 (fr_F :: ((mm_m0 0 (fun _ => 0)).tail ++ [st_d 11 8])) := ⟨⟨rfl, trivial⟩, sx_r2_cat (st_ofs _ _) ⟨⟨rfl, st_inl _ _⟩, trivial⟩⟩
      generalize (mm_m0 0 (fun _ => 0)).tail = m0 at hl0 hr0
      obtain ⟨B, hB⟩ : ∃ B : mm_C, B = .inl (.int, mm_scr L xs) := ⟨_, rfl⟩
      rw [← hB]
      have q0 : ∀ n : Nat, (lg_sl [Value.ref n]).length = 1 := fun _ => rfl
      obtain ⟨nA, τA, mA, rA1, rA2, rA3, env1, ev1, rA4⟩ := st_ini (v := v) (d := 520) ht0 (show sx_cods[0]? = some sx_c0 from rfl) n0 (by decide) n1 e1 a1 (env0 := fun _ => 0) rfl hr0 B (by decide)
      have hlA : (B :: mA).length = 195 := by
        have := sx_r2_len rA4
        rw [List.length_cons] at this ⊢
        omega
      have hr1 : sx_r2 (sx_gc env1) (S1.2.1 ++ [.inr (12, ((List.range 26).map (fun k => defaultValue (mm_ty 12 k))).map .inl)]) (fr_F :: (mA ++ [st_d 12 26])) := sx_r2_cat rA4 ⟨⟨rfl, st_inl _ _⟩, trivial⟩
      obtain ⟨nB, τB, mB, rB1, rB2, rB3, env2, ev2, rB4⟩ := st_ini (v := v) (d := 520) ht1 (show sx_cods[218]? = some sx_c218 from st_cod218) k0 (by decide) k1 e2 b1 ev1 hr1 B (by decide)
      obtain ⟨c1, c2⟩ := st_typed0 (B' := B) (st_typed b2 rB4)
      refine mm_T_step (σ' := (3, [(0, .ref 0)], [.ref 38], B :: (m0 ++ [st_d 11 8]), 599999, 7302242)) hd_330_0 rfl ?_ ?_
      · show mm_newS (sx_fi 330).1 3 7 (0, [(0, .ref 0)], [], B :: m0, 600000, 7302250) = _
        unfold mm_newS
        rw [lk0]
        dsimp only
        rw [show vwCl[11]? = some (RX11, TX11, 8) from rfl]
        dsimp only
        rw [if_pos ⟨rfl, rfl, rfl, by decide, by decide⟩, List.length_cons, hl0]
        rfl
      refine mm_T_step (σ' := (4, [(0, .ref 0)], [.ref 38, .ref 38], B :: (m0 ++ [st_d 11 8]), 599999, 7302242)) hd_330_3 rfl rfl ?_
      refine mm_T_call (As := [.ref 38]) (rest := [.ref 38]) (t := t0) hd_330_4 rfl (mm_stp_call (Or.inr (Or.inr rfl)) lk1 (Or.inl rfl)) ?_ ht0 ⟨by rw [n0, q0]; decide, by decide, by decide⟩ ⟨nA, τA, none, rA1, rA2, ?_⟩
      · unfold mm_cal
        dsimp only
        rw [lk1]
        dsimp only
        rw [ht0]
        dsimp only
        rw [n2]
        dsimp only [List.drop]
        rw [if_pos ⟨rfl, rfl, Or.inl rfl, n3, n1, by decide⟩]
        rfl
      show mm_T 38 (mm_zs v) la_Q [] 521 (sx_fi 330) (7, [(0, .ref 0)], [.ref 38], τA.2.2.2.1, 599843, 7298812)
      rw [rA3]
      refine mm_T_step (σ' := (8, [(1, .ref 38), (0, .ref 0)], [], B :: mA, 599843, 7298812)) hd_330_7 rfl rfl ?_
      refine mm_T_step (σ' := (11, [(1, .ref 38), (0, .ref 0)], [.ref 195], B :: (mA ++ [st_d 12 26]), 599842, 7298786)) hd_330_8 rfl ?_ ?_
      · show mm_newS (sx_fi 330).1 3 10 (8, [(1, .ref 38), (0, .ref 0)], [], B :: mA, 599843, 7298812) = _
        unfold mm_newS
        rw [lk2]
        dsimp only
        rw [show vwCl[12]? = some (RX12, TX12, 26) from rfl]
        dsimp only
        rw [if_pos ⟨rfl, rfl, rfl, by decide, by decide⟩, hlA]
        rfl
      refine mm_T_step (σ' := (12, [(1, .ref 38), (0, .ref 0)], [.ref 195, .ref 195], B :: (mA ++ [st_d 12 26]), 599842, 7298786)) hd_330_11 rfl rfl ?_
      refine mm_T_call (As := [.ref 195]) (rest := [.ref 195]) (t := t1) hd_330_12 rfl (mm_stp_call (Or.inr (Or.inr rfl)) lk3 (Or.inl rfl)) ?_ ht1 ⟨by rw [k0, q0]; decide, by decide, by decide⟩ ⟨nB, τB, none, rB1, rB2, ?_⟩
      · unfold mm_cal
        dsimp only
        rw [lk3]
        dsimp only
        rw [ht1]
        dsimp only
        rw [k2]
        dsimp only [List.drop]
        rw [if_pos ⟨rfl, rfl, Or.inl rfl, k3, k1, by decide⟩]
        rfl
      show mm_T 38 (mm_zs v) la_Q [] 521 (sx_fi 330) (15, [(1, .ref 38), (0, .ref 0)], [.ref 195], τB.2.2.2.1, 599825, 7287421)
      rw [rB3]
      refine mm_T_step (σ' := (16, [(2, .ref 195), (1, .ref 38), (0, .ref 0)], [], B :: mB, 599825, 7287421)) hd_330_15 rfl rfl ?_
      refine mm_T_step (σ' := (17, [(2, .ref 195), (1, .ref 38), (0, .ref 0)], [.int (Int32.ofInt 0)], B :: mB, 599825, 7287421)) hd_330_16 rfl rfl ?_
      refine mm_T_step (σ' := (18, [(3, .int (Int32.ofInt 0)), (2, .ref 195), (1, .ref 38), (0, .ref 0)], [], B :: mB, 599825, 7287421)) hd_330_17 rfl rfl ?_
      have hmm : B :: mB = iv_m L xs iv_mu0 := by
        rw [hB, iv_st_m b3 rB4]
        rfl
      rw [hmm] at c1 c2 ⊢
      exact hgo ⟨c1, c2⟩
    · cases hall
  · cases hall

theorem iv_N0 : iv_N iv_mu0 := by
  have hb : ∀ p k : Nat, 0 ≤ iv_mu0 p k ∧ iv_mu0 p k ≤ 65535 := by
    intro p k
    unfold iv_mu0
    rw [Int.toNat_natCast, Int.toNat_natCast, List.getD_eq_getElem?_getD, List.getD_eq_getElem?_getD]
    have ht : iv_tab0.all (fun r => r.all (fun z => decide (0 ≤ z ∧ z ≤ 65535))) = true := by decide +kernel
    cases hr : iv_tab0[p]? with
    | none => exact ⟨by simp, by simp⟩
    | some r =>
      have h1 := List.all_eq_true.mp ht r (List.mem_of_getElem? hr)
      show 0 ≤ (r[k]?).getD 0 ∧ (r[k]?).getD 0 ≤ 65535
      cases hz : r[k]? with
      | none => exact ⟨by simp, by simp⟩
      | some z =>
        have h2 := of_decide_eq_true (List.all_eq_true.mp h1 z (List.mem_of_getElem? hz))
        simpa using h2
  have h4 : (List.range 213).all (fun p => (List.range 30).all (fun k => !(Nat.beq (iv_sk (iv_pl p) k) 4) || decide (iv_mu0 p k ≤ 1))) = true := by decide +kernel
  have h36 : ∀ (p k : Nat), 30 ≤ k → iv_sk (iv_pl p) k = 4 → iv_mu0 p k ≤ 1 := by
    intro p k hk h
    have hz : iv_tab0.zipIdx.all (fun r => !(Nat.beq (iv_sk (iv_pl r.2) 30) 4) || r.1.isEmpty) = true := by decide +kernel
    have hs : iv_sk (iv_pl p) 30 = 4 := by
      unfold iv_sk at h ⊢
      cases ha : iv_ars (iv_pl p) with
      | some a => rw [ha] at h; exact h
      | none =>
        rw [ha] at h
        dsimp only at h
        rw [List.getElem?_eq_none (by have := iv_fds_len (iv_pl p); omega)] at h
        cases h
    unfold iv_mu0
    rw [Int.toNat_natCast, Int.toNat_natCast]
    cases hr : iv_tab0[p]? with
    | none =>
      have e : iv_tab0.getD p [] = [] := by rw [List.getD_eq_getElem?_getD, hr]; rfl
      rw [e]
      simp
    | some r =>
      have e : iv_tab0.getD p [] = r := by rw [List.getD_eq_getElem?_getD, hr]; rfl
      rw [e]
      have h1 := List.all_eq_true.mp hz (r, p) (List.mem_of_getElem? (i := p) (by simp [hr]))
      rw [Bool.or_eq_true, Bool.not_eq_true'] at h1
      rcases h1 with h1 | h1
      · have h1 : Nat.beq (iv_sk (iv_pl p) 30) 4 = false := h1
        rw [hs] at h1; cases h1
      · have h1 : r.isEmpty = true := h1
        rw [List.isEmpty_iff.mp h1]; simp
  intro p k
  have h1 := hb p k
  unfold iv_rg
  split
  · unfold iv_i64; omega
  · next e =>
    refine ⟨h1.1, ?_⟩
    by_cases hp : p < 213
    · by_cases hk : k < 30
      · have h2 := List.all_eq_true.mp (List.all_eq_true.mp h4 p (List.mem_range.mpr hp)) k (List.mem_range.mpr hk)
        rw [e] at h2
        exact of_decide_eq_true h2
      · exact h36 p k (by omega) e
    · exfalso
      have : iv_pl p = 999 := by
        unfold iv_pl
        rw [List.getD_eq_getElem?_getD, List.getElem?_eq_none (by rw [iv_pls_len]; omega)]
        rfl
      rw [this] at e
      cases e
  · unfold iv_i32; omega
/-- the law's run, if the pairs of calls keep J -/
theorem iv_law {L : Nat} {xs : Nat → Int32} (hL : L ≤ 3072) {v : Value} {J : iv_M → Prop} (hJ0 : br_J L xs iv_mu0 → J iv_mu0) (h : lq_all L xs v J) : mm_T 38 (mm_zs v) la_Q [] 521 (sx_fi 330) (0, [(0, .ref 0)], [], mm_m0 L xs, 600000, 7302250) := by
  refine iv_run0 (fun hb => ?_)
  have hfin : ∀ (μ : iv_M) (i : Int), iv_GQ L xs v la_Q 521 330 lq_fin [some (18, 0), some (13, 38), some (14, 195), some (0, i)] [(0, 1)] μ := by
    intro μ i D hD lc cb sb h1 h2 h3
    exact mm_T_fin lq_dfin rfl ⟨rfl, lq_dfin⟩
  have hg := lq_loop hL h hfin (L + 1) 0 iv_mu0 (Int.le_refl 0) (by omega) (by omega) (hJ0 hb) 521 (Nat.le_refl _) [(3, .int (Int32.ofInt 0)), (2, .ref 195), (1, .ref 38), (0, .ref 0)] 599825 7287421 (fun j w hj => by
    match j, hj with
    | 0, hj => cases hj; exact ⟨rfl, by decide, by decide, by decide⟩
    | 1, hj => cases hj; exact ⟨rfl, by decide, by decide, by decide⟩
    | 2, hj => cases hj; exact ⟨rfl, by decide, by decide, by decide⟩
    | 3, hj => cases hj; exact ⟨rfl, by decide, by decide⟩
    | j + 4, hj => simp at hj) (fun w hw => by cases hw) iv_N0
  exact hg
theorem iv_prun {L : Nat} {xs : Nat → Int32} (hL : L ≤ 3072) {J : iv_M → Prop} (hJ0 : br_J L xs iv_mu0 → J iv_mu0) (h : ∀ v : Value, v.category = 1 → lq_all L xs v J) : ∀ v : Value, v.category = 1 → ∃ (n d : Nat) (τ : mm_S), d ≤ 1000 ∧ mm_run 38 (mm_zs v) n d (13, code, 4, false) (0, [(0, .ref 0)], [], mm_m0 L xs, 600000, 7302250) = some τ ∧ τ.2.2.1 = [.int 1] ∧ decode code τ.1 = .ok (.ireturn, 1) := by
  intro v hv
  obtain ⟨n, τ, h1, h2, h3⟩ := iv_law (L := L) (xs := xs) hL hJ0 (h v hv)
  rw [la_fi] at h1
  exact ⟨n, 521, τ, by decide, h1, h2, h3⟩
