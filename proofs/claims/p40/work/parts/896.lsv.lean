/-! ===== the law's start: both constructors, then the loop ===== -/
theorem st_rd_map {f : Nat → sx_V} {df : sx_V} {j : Nat} : ∀ {js : List Nat}, j ∈ js → sx_rd (js.map (fun i => (i, f i))) j df = f j
  | i :: js, h => by
    simp only [List.map_cons]
    rw [sx_rd_cons]
    by_cases e : i = j
    · rw [if_pos e, e]
    · rw [if_neg e]
      rcases List.mem_cons.mp h with h | h
      · exact absurd h.symm e
      · exact st_rd_map h
theorem st_inl (env : Nat → Int32) : ∀ fs : List Value, sx_r2 (sx_g env) (fs.map .inl) fs
  | [] => trivial
  | _ :: t => ⟨rfl, st_inl env t⟩
theorem st_of_g (env : Nat → Int32) (c : mm_C) : sx_gc env (st_of c) c := by
  cases c with
  | inr a => exact ⟨rfl, st_inl env a.2⟩
  | inl a =>
    obtain ⟨t, xs⟩ := a
    refine ⟨rfl, rfl, fun j hj => ⟨xs[j], by simp [hj], ?_⟩⟩
    rw [st_rd_map (f := fun j => .inl (xs.getD j .null)) (List.mem_range.mpr hj)]
    show xs[j] = xs.getD j .null
    simp [hj]
theorem st_ofs (env : Nat → Int32) : ∀ l : List mm_C, sx_r2 (sx_gc env) (l.map st_of) l
  | [] => trivial
  | c :: t => ⟨st_of_g env c, st_ofs env t⟩
def st_d (ci n : Nat) : mm_C := .inr (ci, (List.range n).map (fun k => defaultValue (mm_ty ci k)))
set_option maxRecDepth 100000 in
theorem st_cod218 : sx_cods[218]? = some sx_c218 := rfl
/-- a constructor's run, whatever stands in the script's place -/
theorem st_ini {v : Value} {k y p nL : Nat} {cy : List sx_I} {mem : List sx_C} {S' : sx_S} {t : mm_Mt} (ht : mm_mths[y]? = some t) (hc : sx_cods[y]? = some cy) (hnL : t.2.2.2.1 = nL) (hlen : 1 ≤ nL) (hret : t.2.2.2.2.1 = none) (h : st_to 38 st_zs k (st_S y p cy nL mem) = some S') (hh : st_h S' = true) {env0 : Nat → Int32} (henv : env0 6 = env0 0 &&& 63) {m : List mm_C} (hm : sx_r2 (sx_gc env0) mem (fr_F :: m)) (B : mm_C) {d : Nat} (hd : 99 ≤ d) : ∃ (n : Nat) (τ : mm_S) (m' : List mm_C), mm_run 38 (mm_zs v) n d (mm_fi t) (mm_ent y [.ref p] (B :: m)) = some τ ∧ mm_ret t τ = some none ∧ τ.2.2.2.1 = B :: m' ∧ ∃ env, env 6 = env 0 &&& 63 ∧ sx_r2 (sx_gc env) S'.2.1 (fr_F :: m') := by
  obtain ⟨n, τ, w, r1, r2, env, e1, e2⟩ := st_con ht hc hnL hlen h hh henv hm
  obtain ⟨pc', lv', st', m', cb', sb', rfl, h2⟩ := fr_run (zs' := mm_zs v) (B := B) (st_zsz v) _ _ d _ _ _ _ _ _ _ _ hd r1
  have := st_ret hret r2
  subst this
  exact ⟨n, _, m', h2, r2, rfl, env, e1, e2⟩
theorem st_run {L : Nat} {xs : Nat → Int32} (hL : L ≤ 3072) {v : Value} (hv : v.category = 1) : mm_T 38 (mm_zs v) la_Q [] 521 (sx_fi 330) (0, [(0, .ref 0)], [], mm_m0 L xs, 600000, 7302250) := by
  have hall := st_all_ok
  unfold st_all at hall
  split at hall
  · next S1 e1 =>
    rw [Bool.and_eq_true, Bool.and_eq_true] at hall
    obtain ⟨⟨a1, a2⟩, hall⟩ := hall
    have a2 := Nat.eq_of_beq_eq_true a2
    split at hall
    · next S2 e2 =>
      rw [Bool.and_eq_true, Bool.and_eq_true] at hall
      obtain ⟨b1, b2, b3⟩ := hall
      obtain ⟨t0, ht0⟩ : ∃ t, mm_mths[0]? = some t := ⟨_, rfl⟩
      have hf0 : (mm_mths[0]?).map (fun t => (t.2.2.2.1, t.2.2.2.2.1, t.2.2.2.2.2.1, t.2.2.2.2.2.2.1)) = some (2, none, 0, 2) := rfl
      rw [ht0] at hf0
      have hf0 := Option.some.inj hf0
      obtain ⟨t1, ht1⟩ : ∃ t, mm_mths[218]? = some t := ⟨_, rfl⟩
      have hf1 : (mm_mths[218]?).map (fun t => (t.2.2.2.1, t.2.2.2.2.1, t.2.2.2.2.2.1, t.2.2.2.2.2.2.1)) = some (1, none, 0, 2) := rfl
      rw [ht1] at hf1
      have hf1 := Option.some.inj hf1
      have n0 : t0.2.2.2.1 = 2 := congrArg (fun a => a.1) hf0
      have n1 : t0.2.2.2.2.1 = none := congrArg (fun a => a.2.1) hf0
      have n2 : t0.2.2.2.2.2.1 = 0 := congrArg (fun a => a.2.2.1) hf0
      have n3 : t0.2.2.2.2.2.2.1 = 2 := congrArg (fun a => a.2.2.2) hf0
      have k0 : t1.2.2.2.1 = 1 := congrArg (fun a => a.1) hf1
      have k1 : t1.2.2.2.2.1 = none := congrArg (fun a => a.2.1) hf1
      have k2 : t1.2.2.2.2.2.1 = 0 := congrArg (fun a => a.2.2.1) hf1
      have k3 : t1.2.2.2.2.2.2.1 = 2 := congrArg (fun a => a.2.2.2) hf1
      obtain ⟨p0, lk0⟩ : ∃ pl, mm_look (sx_fi 330).1 7 = some (7, 4, 11, 1023, 1001, pl) := ⟨_, rfl⟩
      obtain ⟨p1, lk1⟩ : ∃ pl, mm_look (sx_fi 330).1 9 = some (9, 2, 0, 0, 0, pl) := ⟨_, rfl⟩
      obtain ⟨p2, lk2⟩ : ∃ pl, mm_look (sx_fi 330).1 10 = some (10, 4, 12, 6138, 1013, pl) := ⟨_, rfl⟩
      obtain ⟨p3, lk3⟩ : ∃ pl, mm_look (sx_fi 330).1 12 = some (12, 2, 218, 0, 0, pl) := ⟨_, rfl⟩
      have hm0 : mm_m0 L xs = .inl (.int, mm_scr L xs) :: (mm_m0 0 (fun _ => 0)).tail := rfl
      have hl0 : (mm_m0 0 (fun _ => 0)).tail.length = 37 := rfl
      rw [hm0]
      have hr0 : sx_r2 (sx_gc (fun _ => 0)) st_m1 (fr_F :: ((mm_m0 0 (fun _ => 0)).tail ++ [st_d 11 8])) := ⟨⟨rfl, trivial⟩, sx_r2_cat (st_ofs _ _) ⟨⟨rfl, st_inl _ _⟩, trivial⟩⟩
      generalize (mm_m0 0 (fun _ => 0)).tail = m0 at hl0 hr0
      obtain ⟨B, hB⟩ : ∃ B : mm_C, B = .inl (.int, mm_scr L xs) := ⟨_, rfl⟩
      rw [← hB]
      have q0 : ∀ n : Nat, (lg_sl [Value.ref n]).length = 1 := fun _ => rfl
      obtain ⟨nA, τA, mA, rA1, rA2, rA3, env1, ev1, rA4⟩ := st_ini (v := v) (d := 520) ht0 (show sx_cods[0]? = some sx_c0 from rfl) n0 (by decide) n1 e1 a1 (env0 := fun _ => 0) rfl hr0 B (by decide)
      have hlA : (B :: mA).length = 195 := by
        have := sx_r2_len rA4
        rw [List.length_cons] at this ⊢
        omega
      have hr1 : sx_r2 (sx_gc env1) (S1.2.1 ++ [.inr (12, ((List.range 26).map (fun k => defaultValue (mm_ty 12 k))).map .inl)]) (fr_F :: (mA ++ [st_d 12 26])) := sx_r2_cat rA4 ⟨⟨rfl, st_inl _ _⟩, trivial⟩
      obtain ⟨nB, τB, mB, rB1, rB2, rB3, env2, ev2, rB4⟩ := st_ini (v := v) (d := 520) ht1 (show sx_cods[218]? = some sx_c218 from st_cod218) k0 (by decide) k1 e2 b1 ev1 hr1 B (by decide)
      obtain ⟨c1, c2⟩ := st_typed0 (B' := B) (st_typed b2 rB4)
      refine mm_T_step (σ' := (3, [(0, .ref 0)], [.ref 38], B :: (m0 ++ [st_d 11 8]), 599999, 7302242)) hd_330_0 rfl ?_ ?_
      · show mm_newS (sx_fi 330).1 3 7 (0, [(0, .ref 0)], [], B :: m0, 600000, 7302250) = _
        unfold mm_newS
        rw [lk0]
        dsimp only
        rw [show vwCl[11]? = some (RX11, TX11, 8) from rfl]
        dsimp only
        rw [if_pos ⟨rfl, rfl, rfl, by decide, by decide⟩, List.length_cons, hl0]
        rfl
      refine mm_T_step (σ' := (4, [(0, .ref 0)], [.ref 38, .ref 38], B :: (m0 ++ [st_d 11 8]), 599999, 7302242)) hd_330_3 rfl rfl ?_
      refine mm_T_call (As := [.ref 38]) (rest := [.ref 38]) (t := t0) hd_330_4 rfl (mm_stp_call (Or.inr (Or.inr rfl)) lk1 (Or.inl rfl)) ?_ ht0 ⟨by rw [n0, q0]; decide, by decide, by decide⟩ ⟨nA, τA, none, rA1, rA2, ?_⟩
      · unfold mm_cal
        dsimp only
        rw [lk1]
        dsimp only
        rw [ht0]
        dsimp only
        rw [n2]
        dsimp only [List.drop]
        rw [if_pos ⟨rfl, rfl, Or.inl rfl, n3, n1, by decide⟩]
        rfl
      show mm_T 38 (mm_zs v) la_Q [] 521 (sx_fi 330) (7, [(0, .ref 0)], [.ref 38], τA.2.2.2.1, 599843, 7298812)
      rw [rA3]
      refine mm_T_step (σ' := (8, [(1, .ref 38), (0, .ref 0)], [], B :: mA, 599843, 7298812)) hd_330_7 rfl rfl ?_
      refine mm_T_step (σ' := (11, [(1, .ref 38), (0, .ref 0)], [.ref 195], B :: (mA ++ [st_d 12 26]), 599842, 7298786)) hd_330_8 rfl ?_ ?_
      · show mm_newS (sx_fi 330).1 3 10 (8, [(1, .ref 38), (0, .ref 0)], [], B :: mA, 599843, 7298812) = _
        unfold mm_newS
        rw [lk2]
        dsimp only
        rw [show vwCl[12]? = some (RX12, TX12, 26) from rfl]
        dsimp only
        rw [if_pos ⟨rfl, rfl, rfl, by decide, by decide⟩, hlA]
        rfl
      refine mm_T_step (σ' := (12, [(1, .ref 38), (0, .ref 0)], [.ref 195, .ref 195], B :: (mA ++ [st_d 12 26]), 599842, 7298786)) hd_330_11 rfl rfl ?_
      refine mm_T_call (As := [.ref 195]) (rest := [.ref 195]) (t := t1) hd_330_12 rfl (mm_stp_call (Or.inr (Or.inr rfl)) lk3 (Or.inl rfl)) ?_ ht1 ⟨by rw [k0, q0]; decide, by decide, by decide⟩ ⟨nB, τB, none, rB1, rB2, ?_⟩
      · unfold mm_cal
        dsimp only
        rw [lk3]
        dsimp only
        rw [ht1]
        dsimp only
        rw [k2]
        dsimp only [List.drop]
        rw [if_pos ⟨rfl, rfl, Or.inl rfl, k3, k1, by decide⟩]
        rfl
      show mm_T 38 (mm_zs v) la_Q [] 521 (sx_fi 330) (15, [(1, .ref 38), (0, .ref 0)], [.ref 195], τB.2.2.2.1, 599825, 7287421)
      rw [rB3]
      refine mm_T_step (σ' := (16, [(2, .ref 195), (1, .ref 38), (0, .ref 0)], [], B :: mB, 599825, 7287421)) hd_330_15 rfl rfl ?_
      refine mm_T_step (σ' := (17, [(2, .ref 195), (1, .ref 38), (0, .ref 0)], [.int (Int32.ofInt 0)], B :: mB, 599825, 7287421)) hd_330_16 rfl rfl ?_
      refine mm_T_step (σ' := (18, [(3, .int (Int32.ofInt 0)), (2, .ref 195), (1, .ref 38), (0, .ref 0)], [], B :: mB, 599825, 7287421)) hd_330_17 rfl rfl ?_
      exact la_loop (st_Ok v) (st_hz hv) (Nat.le_refl 520) rfl hL L 0 _ _ _ _ (Nat.le_refl L) (by decide) ⟨rfl, ⟨la_tau0, 38, 195, st_T0 b3 rB4, rfl, rfl, rfl, rfl⟩, rfl⟩ ⟨c1, c2, by rw [hB]; rfl⟩
    · cases hall
  · cases hall
theorem p2_run {L : Nat} {xs : Nat → Int32} (hL : L ≤ 3072) : ∀ v : Value, v.category = 1 → ∃ (n d : Nat) (τ : mm_S), d ≤ 1000 ∧ mm_run 38 (mm_zs v) n d (13, code, 4, false) (0, [(0, .ref 0)], [], mm_m0 L xs, 600000, 7302250) = some τ ∧ τ.2.2.1 = [.int 1] ∧ decode code τ.1 = .ok (.ireturn, 1) := by
  intro v hv
  obtain ⟨n, τ, h1, h2, h3⟩ := st_run (L := L) (xs := xs) hL hv
  rw [la_fi] at h1
  exact ⟨n, 521, τ, by decide, h1, h2, h3⟩
