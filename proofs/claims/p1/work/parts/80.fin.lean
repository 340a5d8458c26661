/-! ===== p1: every script of at most six ints ===== -/
theorem sx_one {k : Nat} {S : sx_S} (h : sx_done (sx_itA mm_zs k [S]) = true) : sx_Good 5 mm_zs sx_P S := sx_doneA_ok h S List.mem_cons_self
theorem sx_sheet : sx_Good 5 mm_zs sx_P (sx_s0 6 34 35) := by
  refine sx_s1_s0 (cuts := [(0, 2147483649), (2147483649, 2147483650), (2147483650, 2147483651), (2147483651, 4294967296)]) (fun x hx => ?_) ?_
  · have hM : sx_M = 4294967296 := rfl
    rw [hM] at hx
    rcases Nat.lt_or_ge x 2147483649 with h1 | h1
    · exact ⟨_, List.mem_cons_self, Nat.zero_le _, h1⟩
    · rcases Nat.lt_or_ge x 2147483650 with h2 | h2
      · exact ⟨_, List.mem_cons_of_mem _ List.mem_cons_self, h1, h2⟩
      · rcases Nat.lt_or_ge x 2147483651 with h3 | h3
        · exact ⟨_, List.mem_cons_of_mem _ (List.mem_cons_of_mem _ List.mem_cons_self), h2, h3⟩
        · exact ⟨_, List.mem_cons_of_mem _ (List.mem_cons_of_mem _ (List.mem_cons_of_mem _ List.mem_cons_self)), h3, hx⟩
  · intro r hr
    simp only [List.mem_cons, List.not_mem_nil, or_false] at hr
    rcases hr with rfl | rfl | rfl | rfl
    · exact sx_one sx_t_0
    · exact sx_one sx_t_1
    · exact sx_one sx_t_2
    · exact sx_one sx_t_3
theorem sx_storm : sx_Good 5 mm_zs sx_P (sx_s0 6 30 31) := by
  refine sx_s1_s0 (cuts := [(0, 2147483669), (2147483669, 4294967296)]) (fun x hx => ?_) ?_
  · have hM : sx_M = 4294967296 := rfl
    rw [hM] at hx
    rcases Nat.lt_or_ge x 2147483669 with h1 | h1
    · exact ⟨_, List.mem_cons_self, Nat.zero_le _, h1⟩
    · exact ⟨_, List.mem_cons_of_mem _ List.mem_cons_self, h1, hx⟩
  · intro r hr
    simp only [List.mem_cons, List.not_mem_nil, or_false] at hr
    rcases hr with rfl | rfl
    · exact sx_one sx_u_0
    · exact sx_one sx_u_1
theorem sx_p1 {L : Nat} (hL : L ≤ 6) (xs : Nat → Int32) : ∃ (n d : Nat) (τ : mm_S), d ≤ 1000 ∧ mm_run 5 mm_zs n d (13, code, 4, false) (0, [(0, .ref 0)], [], mm_m0 L xs, 600000, 7302250) = some τ ∧ τ.2.2.1 = [.int 1] ∧ decode code τ.1 = .ok (.ireturn, 1) := by
  obtain ⟨j, hj, e⟩ := pk_andE (xs 0) (m := 63) 6 (by decide)
  have ho : sx_off (xs 0 &&& 63) = 2147483648 + j := by
    have hj2 : j < 64 := hj
    rw [e]
    unfold sx_off
    rw [nI_toInt (by omega)]
    omega
  have hj : j < 64 := hj
  have go : ∀ a b, sx_Good 5 mm_zs sx_P (sx_s0 L a b) → a ≤ j → j < b → ∃ (n d : Nat) (τ : mm_S), d ≤ 1000 ∧ mm_run 5 mm_zs n d (13, code, 4, false) (0, [(0, .ref 0)], [], mm_m0 L xs, 600000, 7302250) = some τ ∧ τ.2.2.1 = [.int 1] ∧ decode code τ.1 = .ok (.ireturn, 1) := fun a b hG ha hb => sx_start_ok hL (by omega) (by omega) hG
  match L, hL, go with
  | 0, _, go => exact go 0 64 (sx_one sx_r_0) (Nat.zero_le _) hj
  | 1, _, go => exact go 0 64 (sx_one sx_r_1) (Nat.zero_le _) hj
  | 2, _, go => exact go 0 64 (sx_one sx_r_2) (Nat.zero_le _) hj
  | 3, _, go => exact go 0 64 (sx_one sx_r_3) (Nat.zero_le _) hj
  | 4, _, go => exact go 0 64 (sx_one sx_r_4) (Nat.zero_le _) hj
  | 5, _, go => exact go 0 64 (sx_one sx_r_5) (Nat.zero_le _) hj
  | 6, _, go =>
    rcases Nat.lt_or_ge j 1 with h | h
    · exact go 0 1 (sx_one sx_g_c) (by omega) h
    rcases Nat.lt_or_ge j 14 with h1 | h1
    · exact go 1 14 (sx_one sx_g_b) h h1
    rcases Nat.lt_or_ge j 18 with h2 | h2
    · exact go 14 18 (sx_one sx_g_d) h1 h2
    rcases Nat.lt_or_ge j 24 with h3 | h3
    · exact go 18 24 (sx_one sx_g_e) h2 h3
    rcases Nat.lt_or_ge j 30 with h4 | h4
    · exact go 24 30 (sx_one sx_g_f) h3 h4
    rcases Nat.lt_or_ge j 31 with h5 | h5
    · exact go 30 31 sx_storm h4 h5
    rcases Nat.lt_or_ge j 34 with h6 | h6
    · exact go 31 34 (sx_one sx_g_h) h5 h6
    rcases Nat.lt_or_ge j 35 with h7 | h7
    · exact go 34 35 sx_sheet h6 h7
    rcases Nat.lt_or_ge j 37 with h8 | h8
    · exact go 35 37 (sx_one sx_g_i) h7 h8
    rcases Nat.lt_or_ge j 38 with h9 | h9
    · exact go 37 38 (sx_one sx_g_j) h8 h9
    · exact go 38 64 (sx_one sx_g_a) h9 hj
  | L + 7, hL, _ => exact absurd hL (by omega)
