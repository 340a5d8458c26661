/-! ===== the law's start as a symbolic state ===== -/
def sx_za (vs : List Value) : sx_C := .inl (.int, vs.length, .inl .null, (List.range vs.length).map (fun j => (j, .inl (vs.getD j .null))))
def sx_m0 (L : Nat) : List sx_C := [.inl (.int, L, .inl .null, (List.range L).map (fun j => (j, .inr (0, j)))), sx_za mm_za1, sx_za mm_za2, sx_za mm_za3, sx_za mm_za4]
def sx_i0 (a b : Nat) : List (Nat × Nat) := [(0, sx_M), (0, sx_M), (0, sx_M), (0, sx_M), (0, sx_M), (0, sx_M), (2147483648 + a, 2147483648 + b)]
def sx_s0 (L a b : Nat) : sx_S := (sx_i0 a b, sx_m0 L, (330, sx_c330, sx_c330, [some (.inl (.ref 0)), none, none, none], [], 600000, 7302250), [])
def sx_i1 (a b lo hi : Nat) : List (Nat × Nat) := [(0, sx_M), (lo, hi), (0, sx_M), (0, sx_M), (0, sx_M), (0, sx_M), (2147483648 + a, 2147483648 + b)]
/-- six ints, the call's number and its first argument in a range -/
def sx_s1 (a b lo hi : Nat) : sx_S := (sx_i1 a b lo hi, sx_m0 6, (330, sx_c330, sx_c330, [some (.inl (.ref 0)), none, none, none], [], 600000, 7302250), [])
def sx_P (τ : mm_S) : Prop := τ.2.2.1 = [.int 1] ∧ decode code τ.1 = .ok (.ireturn, 1)
def sx_env (xs : Nat → Int32) (k : Nat) : Int32 := if k = 6 then xs 0 &&& 63 else xs k
def sx_done : sx_R → Bool
  | some [] => true
  | _ => false
theorem sx_done_ok {k : Nat} {w : List sx_S} (h : sx_done (sx_itF 5 mm_zs k w) = true) : ∀ S ∈ w, sx_Good 5 mm_zs sx_P S := by
  rw [sx_itF_eq] at h
  unfold sx_done at h
  split at h
  · next e => exact sx_it_ok (fun τ h1 h2 => ⟨h1, h2⟩) k e (fun S hS => absurd hS List.not_mem_nil)
  · cases h
theorem sx_rd_map {f : Nat → sx_V} {df : sx_V} {j : Nat} : ∀ {js : List Nat}, j ∈ js → sx_rd (js.map (fun i => (i, f i))) j df = f j
  | i :: js, h => by
    simp only [List.map_cons]
    rw [sx_rd_cons]
    by_cases e : i = j
    · rw [if_pos e, e]
    · rw [if_neg e]
      rcases List.mem_cons.mp h with h | h
      · exact absurd h.symm e
      · exact sx_rd_map h
theorem sx_za_g (env : Nat → Int32) (vs : List Value) : sx_gc env (sx_za vs) (.inl (.int, vs)) := by
  refine ⟨rfl, rfl, fun j hj => ⟨vs[j], by simp [hj], ?_⟩⟩
  rw [sx_rd_map (f := fun j => .inl (vs.getD j .null)) (List.mem_range.mpr hj)]
  show vs[j] = vs.getD j .null
  simp [hj]
set_option maxRecDepth 100000 in
theorem sx_cod330 : sx_cods[330]? = some sx_c330 := rfl
theorem sx_start_ok {L a b : Nat} {xs : Nat → Int32} (hL : L ≤ 6) (ha : 2147483648 + a ≤ sx_off (xs 0 &&& 63)) (hb : sx_off (xs 0 &&& 63) < 2147483648 + b) (hG : sx_Good 5 mm_zs sx_P (sx_s0 L a b)) : ∃ (n d : Nat) (τ : mm_S), d ≤ 1000 ∧ mm_run 5 mm_zs n d (13, code, 4, false) (0, [(0, .ref 0)], [], mm_m0 L xs, 600000, 7302250) = some τ ∧ τ.2.2.1 = [.int 1] ∧ decode code τ.1 = .ok (.ireturn, 1) := by
  have hfi : sx_fi 330 = (13, code, 4, false) := by
    unfold sx_fi
    rw [show mm_mths[330]? = none by decide +kernel]
  have hiv : sx_iv (sx_env xs) (sx_i0 a b) := by
    refine ⟨fun k lo hi h => ?_, rfl⟩
    unfold sx_i0 at h
    match k, h with
    | 0, h => cases h; exact ⟨Nat.zero_le _, sx_off_lt _⟩
    | 1, h => cases h; exact ⟨Nat.zero_le _, sx_off_lt _⟩
    | 2, h => cases h; exact ⟨Nat.zero_le _, sx_off_lt _⟩
    | 3, h => cases h; exact ⟨Nat.zero_le _, sx_off_lt _⟩
    | 4, h => cases h; exact ⟨Nat.zero_le _, sx_off_lt _⟩
    | 5, h => cases h; exact ⟨Nat.zero_le _, sx_off_lt _⟩
    | 6, h => cases h; exact ⟨ha, hb⟩
    | k + 7, h => simp at h
  have hm : sx_r2 (sx_gc (sx_env xs)) (sx_m0 L) (mm_m0 L xs) := by
    refine ⟨⟨rfl, by simp [mm_scr], fun j hj => ⟨.int (xs j), by simp [mm_scr, hj], ?_⟩⟩, sx_za_g _ _, sx_za_g _ _, sx_za_g _ _, sx_za_g _ _, trivial⟩
    rw [sx_rd_map (f := fun j => .inr (0, j)) (List.mem_range.mpr hj)]
    show Value.int (xs j) = .int (sx_env xs j)
    unfold sx_env
    rw [if_neg (by omega)]
  have hgl : sx_gl (sx_env xs) [some (.inl (.ref 0)), none, none, none] [(0, .ref 0)] := by
    intro i v h
    match i, h with
    | 0, h => cases h; exact ⟨.ref 0, rfl, rfl⟩
    | 1, h => cases h
    | 2, h => cases h
    | 3, h => cases h
    | i + 4, h => simp at h
  obtain ⟨n, τ, h1, h2, h3⟩ := hG (sx_env xs) hiv 0 [(0, .ref 0)] [] (mm_m0 L xs) [] ⟨sx_cod330, fun _ h => h, sx_ent 330 sx_c330 sx_cod330, by rw [show (sx_s0 L a b).2.2.1.1 = 330 from rfl, hfi]; rfl, hgl, trivial⟩ hm trivial (Nat.zero_le _)
  rw [show (sx_s0 L a b).2.2.1.1 = 330 from rfl, hfi] at h1
  exact ⟨n, 100, τ, by omega, h1, h2, h3⟩
theorem sx_s1_s0 {a b : Nat} {cuts : List (Nat × Nat)} (hc : ∀ x, x < sx_M → ∃ r ∈ cuts, r.1 ≤ x ∧ x < r.2) (h : ∀ r ∈ cuts, sx_Good 5 mm_zs sx_P (sx_s1 a b r.1 r.2)) : sx_Good 5 mm_zs sx_P (sx_s0 6 a b) := by
  intro env hiv pc lc sc mc Kc hf hm hK hKl
  obtain ⟨r, hr, h1, h2⟩ := hc (sx_off (env 1)) (sx_off_lt _)
  refine h r hr env ⟨fun k lo hi hk => ?_, hiv.2⟩ pc lc sc mc Kc hf hm hK hKl
  match k, hk with
  | 0, hk => exact hiv.1 0 lo hi hk
  | 1, hk => cases hk; exact ⟨h1, h2⟩
  | 2, hk => exact hiv.1 2 lo hi hk
  | 3, hk => exact hiv.1 3 lo hi hk
  | 4, hk => exact hiv.1 4 lo hi hk
  | 5, hk => exact hiv.1 5 lo hi hk
  | 6, hk => exact hiv.1 6 lo hi hk
  | k + 7, hk => simp [sx_s1, sx_i1] at hk
theorem sx_doneA_ok {k : Nat} {w : List sx_S} (h : sx_done (sx_itA mm_zs k w) = true) : ∀ S ∈ w, sx_Good 5 mm_zs sx_P S := by
  unfold sx_done at h
  split at h
  · next e => exact sx_itA_ok (fun τ h1 h2 => ⟨h1, h2⟩) k e (fun S hS => absurd hS List.not_mem_nil)
  · cases h
