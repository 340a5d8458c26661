/-! ===== printed by wip/iv/gen_c8.py: a day, days of the class by views ===== -/
def bo_ok (p k : Nat) (l h : Int) : Bool := match st_ty p with
  | some t => decide (38 ≤ p ∧ p < 213 ∧ t ≠ 56 ∧ t ≠ 103 ∧ se_seg (se_tt t).2.2.2 k = (0, l, h) ∧ iv_pl p ≤ 12) && (match (iv_fds (iv_pl p))[k]? with
    | some f => decide (f.1 ≠ 2)
    | none => false)
  | none => false
def fr_l (f : Nat → rl_S) (W : se_W) : Bool := (List.range 10).all (fun i => rl_off W (f i))
theorem fr_ok {W : se_W} {f : Nat → rl_S} {μ μ' : iv_M} (h : fr_l f W = true) (hf : ∀ p k, ¬ br_in W p k → μ' p k = μ p k) (i : Nat) (hi : i < 10) : μ' (f i).1 (f i).2 = μ (f i).1 (f i).2 := hf _ _ (rl_off_ok (List.all_eq_true.mp h i (List.mem_range.mpr hi)))
theorem fr_i {W : se_W} {c k : Nat} {μ μ' : iv_M} (h : fr_l (fun i => (i + c, k)) W = true) (hf : ∀ p k, ¬ br_in W p k → μ' p k = μ p k) {i : Int} (i0 : 0 ≤ i) (i1 : i < 10) : μ' (i + c) k = μ (i + c) k := by
  obtain ⟨j, rfl⟩ := Int.eq_ofNat_of_zero_le i0
  have := fr_ok h hf j (by omega)
  dsimp only at this
  rw [show ((j + c : Nat) : Int) = (j : Int) + c by omega] at this
  exact this
section C8
variable {L : Nat} {xs : Nat → Int32} {vz : Value} {μ : iv_M}
theorem bo1 {p k : Nat} {l h v : Int} (hk : bo_ok p k l h = true) (hJ : br_J L xs μ) (hv : l ≤ v ∧ v ≤ h) (hi : iv_i32 v) : br_J L xs (iv_upd μ p k v) := by
  unfold bo_ok at hk
  split at hk
  · next t ht =>
    rw [Bool.and_eq_true, decide_eq_true_eq] at hk
    obtain ⟨⟨h1, h2, h3, h4, h5, h6⟩, hk⟩ := hk
    split at hk
    · next f hf =>
      have hk := of_decide_eq_true hk
      have := br_J_set (k := k) hJ ht h5 hv hi (Or.inl ⟨h3, h4⟩)
      rw [← br_set_obj ⟨h1, h2⟩ h6 hf hk] at this
      exact this
    · cases hk
  · cases hk
theorem boA {c n k : Nat} {l h v i : Int} (hk : (List.range n).all (fun j => bo_ok (j + c) k l h) = true) (hJ : br_J L xs μ) (i0 : 0 ≤ i) (i1 : i < n) (hv : l ≤ v ∧ v ≤ h) (hi : iv_i32 v) : br_J L xs (iv_upd μ (i + c) k v) := by
  obtain ⟨j, rfl⟩ := Int.eq_ofNat_of_zero_le i0
  have := bo1 (List.all_eq_true.mp hk j (List.mem_range.mpr (by omega))) hJ hv hi
  rw [show ((j + c : Nat) : Int) = (j : Int) + c by omega] at this
  exact this
def ksu (a b : iv_M) : Prop := ∀ i : Int, 0 ≤ i → i < 10 → b (i + 55) 6 = a (i + 55) 6
theorem ksu_rfl (a : iv_M) : ksu a a := fun _ _ _ => rfl
theorem ksu_tr {a b c : iv_M} (h1 : ksu a b) (h2 : ksu b c) : ksu a c := fun i i0 i1 => (h2 i i0 i1).trans (h1 i i0 i1)
theorem ksu_up {a b : iv_M} {p k v : Int} (h : ksu a b) (s : (p < 55 ∨ 64 < p) ∨ k ≠ 6) : ksu a (iv_upd b p k v) := fun i i0 i1 => by
  rw [iv_upd_ne b v (show i + 55 ≠ p ∨ (6 : Int) ≠ k by omega)]
  exact h i i0 i1
theorem ksu_W {W : se_W} {a b : iv_M} (h : fr_l (fun i => (i + 55, 6)) W = true) (hf : ∀ p k, ¬ br_in W p k → b p k = a p k) : ksu a b := fun i i0 i1 => fr_i (c := 55) (k := 6) h hf i0 i1
/-- lose: nobody's raft is sunk by it -/
theorem c_lose {d : Nat} (hL : L ≤ 3072) (hv : vz.category = 1) (hd : 30 ≤ d) (hJ : br_J L xs μ) {p w : Int} : iv_C L xs vz d 112 [(12, 39), (0, p), (0, w)] μ (fun r μ' => r = none ∧ br_J L xs μ' ∧ ksu μ μ') := by
  refine iv_C_of (sg_112_0 hL (by omega) ?_)
  refine iv_call (want := 1) (y := 112) (pc := 11) (z := 62) (cls := 1) (sa := [(0, w), (0, μ 39 9), (0, p), (0, 5)]) (th := [(3, 47)]) (r := []) (d' := d - 1) (show iv_cck 1 112 11 62 = true by decide +kernel) (Or.inl ⟨rfl, _, rfl⟩) (show iv_mck 1 62 4 1 5 = true by decide +kernel) (show (0 : Nat) ≤ 8 by decide) (by omega) (iv_C_mono (pb_62 hv (by omega) hJ) (fun v μ1 hp => ?_))
  obtain ⟨j1, f1, rfl⟩ := hp
  have k1 : ksu μ μ1 := ksu_W (by decide +kernel) f1
  refine sg_112_14 hL (by omega) ?_ ?_ ?_ <;> intros
  · exact ⟨rfl, bo1 (p := 65) (k := 6) (l := 0) (h := 1) (by decide +kernel) j1 ⟨by decide, by decide⟩ ⟨by decide, by decide⟩, ksu_up k1 (Or.inl (by omega))⟩
  · exact ⟨rfl, bo1 (p := 65) (k := 6) (l := 0) (h := 1) (by decide +kernel) j1 ⟨by decide, by decide⟩ ⟨by decide, by decide⟩, ksu_up k1 (Or.inl (by omega))⟩
  · exact ⟨rfl, boA (c := 65) (n := 14) (k := 6) (l := 0) (h := 1) (by decide +kernel) j1 (by omega) (by omega) ⟨by decide, by decide⟩ ⟨by decide, by decide⟩, ksu_up k1 (Or.inl (by omega))⟩
theorem c_partOf {d : Nat} (hL : L ≤ 3072) (hv : vz.category = 1) (hd : 30 ≤ d) (hJ : br_J L xs μ) {x : Int} : iv_C L xs vz d 34 [(4, 187), (0, x)] μ (fun r μ' => (∃ z, r = some (0, z)) ∧ μ' = μ) := by
  refine iv_C_of (sg_34_0 hL (by omega) ?_)
  refine iv_call (want := 1) (y := 34) (pc := 8) (z := 35) (cls := 2) (sa := [(0, μ 187 4), (0, iv_shl 1 x)]) (th := [(4, 187)]) (r := []) (d' := d - 1) (show iv_cck 1 34 8 35 = true by decide +kernel) (Or.inl ⟨rfl, _, rfl⟩) (show iv_mck 1 35 2 2 3 = true by decide +kernel) (show (0 : Nat) ≤ 8 by decide) (by omega) (iv_C_mono (pb_35 hv (by omega) hJ) (fun v μ1 hp => ?_))
  obtain ⟨j1, f1, z, rfl, -⟩ := hp
  have e1 := br_nil rfl f1
  exact sg_34_11 hL (by omega) ⟨⟨z, rfl⟩, e1⟩
theorem c_leastOf {d : Nat} (hL : L ≤ 3072) (hv : vz.category = 1) (hd : 30 ≤ d) (hJ : br_J L xs μ) {x : Int} : iv_C L xs vz d 36 [(0, x)] μ (fun r μ' => (∃ z, r = some (0, z) ∧ iv_i32 z) ∧ μ' = μ) := by
  refine iv_C_of (sg_36_0 hL (by omega) ?_)
  refine iv_call (want := 0) (y := 36) (pc := 1) (z := 37) (cls := 0) (sa := [(0, x)]) (th := []) (r := []) (d' := d - 1) (show iv_cck 0 36 1 37 = true by decide +kernel) (Or.inr ⟨rfl, rfl⟩) (show iv_mck 0 37 1 0 1 = true by decide +kernel) (show (0 : Nat) ≤ 8 by decide) (by omega) (iv_C_mono (pb_37 hv (by omega) hJ) (fun v μ1 hp => ?_))
  obtain ⟨j1, f1, z, rfl, hz, -, -⟩ := hp
  have e1 := br_nil rfl f1
  exact sg_36_4 hL (by omega) ⟨⟨z, rfl, hz⟩, e1⟩
theorem c_sink151 {d : Nat} (hL : L ≤ 3072) (hv : vz.category = 1) (hd : 30 ≤ d) {f a b q : Int} (hf : 0 ≤ f ∧ f ≤ 9) (hq : 0 ≤ q) {P : iv_P} {μ0 : iv_M} (hP : ∀ μ', ksu μ0 μ' → P none μ') : ∀ (n : Nat) (l : Int) (μ : iv_M), 0 ≤ l → 12 ≤ l + n → br_J L xs μ → ksu μ0 μ → iv_G L xs vz d 115 151 [some (12, 39), some (0, f), some (4, 187), some (0, a), some (0, b), some (6, q), some (0, l)] [] μ P := by
  intro n
  have fin : ∀ (l : Int) (μ : iv_M), br_J L xs μ → ksu μ0 μ → iv_G L xs vz d 115 191 [some (12, 39), some (0, f), some (4, 187), some (0, a), some (0, b), some (6, q), some (0, l)] [(12, 39), (4, 187)] μ P := fun l μ hJ hk => by
    refine iv_call (want := 1) (y := 115) (pc := 191) (z := 27) (cls := 2) (sa := [(12, 39)]) (th := [(4, 187)]) (r := []) (d' := d - 1) (show iv_cck 1 115 191 27 = true by decide +kernel) (Or.inl ⟨rfl, _, rfl⟩) (show iv_mck 1 27 1 2 2 = true by decide +kernel) (show (0 : Nat) ≤ 8 by decide) (by omega) (iv_C_mono (pb_27 hv (by omega) hJ) (fun v μ1 hp => ?_))
    obtain ⟨j1, f1, rfl⟩ := hp
    exact sg_115_194 hL (by omega) hf.1 hf.2 (hP _ (ksu_tr hk (ksu_W (by decide +kernel) f1)))
  have out : ∀ (l : Int) (μ : iv_M), 0 ≤ l → l < 12 → br_J L xs μ → br_J L xs (iv_upd μ (l + 79) 7 0) := fun l μ h0 h1 hJ => boA (c := 79) (n := 12) (k := 7) (l := 0) (h := 1) (by decide +kernel) hJ h0 h1 ⟨by decide, by decide⟩ ⟨by decide, by decide⟩
  induction n with
  | zero =>
    intro l μ h0 h1 hJ hk
    refine sg_115_151 hL (by omega) hf.1 hf.2 hq h0 ?_ ?_ ?_ ?_ ?_ <;> intros <;> first | omega | exact fin _ _ hJ hk
  | succ n ih =>
    intro l μ h0 h1 hJ hk
    refine sg_115_151 hL (by omega) hf.1 hf.2 hq h0 ?_ ?_ ?_ ?_ ?_ <;> intros
    · exact fin _ _ hJ hk
    · exact ih _ _ (by omega) (by omega) hJ hk
    · exact ih _ _ (by omega) (by omega) (out _ _ h0 (by omega) hJ) (ksu_up hk (Or.inr (by decide)))
    · exact ih _ _ (by omega) (by omega) hJ hk
    · exact ih _ _ (by omega) (by omega) (out _ _ h0 (by omega) hJ) (ksu_up hk (Or.inr (by decide)))
def csu (f : Int) (a b : iv_M) : Prop := b (f + 55) 6 = 1 ∧ ∀ i : Int, 0 ≤ i → i < 10 → i ≠ f → b (i + 55) 6 = a (i + 55) 6
theorem c_sink32 {d : Nat} (hL : L ≤ 3072) (hv : vz.category = 1) (hd : 40 ≤ d) {f a b : Int} (hf : 0 ≤ f ∧ f ≤ 9) {P : iv_P} {μ0 : iv_M} (hP : ∀ μ', csu f μ0 μ' → P none μ') : ∀ (n : Nat) (l : Int) (μ : iv_M), 0 ≤ l → 14 ≤ l + n → br_J L xs μ → ksu μ0 μ → iv_G L xs vz d 115 32 [some (12, 39), some (0, f), some (4, 187), some (0, a), some (0, b), some (0, l), none] [] μ P := by
  intro n
  have fin : ∀ (μ : iv_M) (v : Int), iv_i32 v → br_J L xs μ → ksu μ0 μ → iv_G L xs vz d 115 151 [some (12, 39), some (0, f), some (4, 187), some (0, a), some (0, b), some (6, f + 55), some (0, 0)] [] (iv_upd (iv_upd (iv_upd (iv_upd μ 39 11 v) (f + 55) 4 0) (f + 55) 5 0) (f + 55) 6 1) P := fun μ v hi hJ hk => by
    refine c_sink151 hL hv (by omega) hf (by omega) (μ0 := iv_upd (iv_upd (iv_upd (iv_upd μ 39 11 v) (f + 55) 4 0) (f + 55) 5 0) (f + 55) 6 1) (fun μ' h => hP μ' ⟨(h f hf.1 (by omega)).trans (iv_upd_same _ _ _ _), fun i i0 i1 hne => ?_⟩) 12 0 _ (by decide) (by decide) ?_ (ksu_rfl _)
    · rw [h i i0 i1, iv_upd_ne _ _ (Or.inl (by omega)), iv_upd_ne _ _ (Or.inl (by omega)), iv_upd_ne _ _ (Or.inl (by omega)), iv_upd_ne _ _ (Or.inl (by omega))]
      exact hk i i0 i1
    · have j1 := bo1 (p := 39) (k := 11) (l := -2147483648) (h := 2147483647) (by decide +kernel) hJ hi hi
      have j2 := boA (c := 55) (n := 10) (k := 4) (l := -2147483648) (h := 2147483647) (i := f) (v := 0) (by decide +kernel) j1 hf.1 (by omega) ⟨by decide, by decide⟩ ⟨by decide, by decide⟩
      have j3 := boA (c := 55) (n := 10) (k := 5) (l := -2147483648) (h := 2147483647) (i := f) (v := 0) (by decide +kernel) j2 hf.1 (by omega) ⟨by decide, by decide⟩ ⟨by decide, by decide⟩
      exact boA (c := 55) (n := 10) (k := 6) (l := 0) (h := 1) (i := f) (v := 1) (by decide +kernel) j3 hf.1 (by omega) ⟨by decide, by decide⟩ ⟨by decide, by decide⟩
  induction n with
  | zero =>
    intro l μ h0 h1 hJ hk
    refine sg_115_32 hL (by omega) hf.1 hf.2 h0 ?_ ?_ ?_ ?_ ?_ <;> intros <;> first | omega | exact fin _ _ (iv_w_i32 _) hJ hk
  | succ n ih =>
    intro l μ h0 h1 hJ hk
    refine sg_115_32 hL (by omega) hf.1 hf.2 h0 ?_ ?_ ?_ ?_ ?_ <;> intros
    · exact fin _ _ (iv_w_i32 _) hJ hk
    · exact ih _ _ (by omega) (by omega) hJ hk
    · exact ih _ _ (by omega) (by omega) hJ hk
    · refine iv_call (want := 1) (y := 115) (pc := 94) (z := 112) (cls := 10) (sa := [(0, a), (0, l)]) (th := [(12, 39)]) (r := []) (d' := d - 1) (show iv_cck 1 115 94 112 = true by decide +kernel) (Or.inl ⟨rfl, _, rfl⟩) (show iv_mck 1 112 2 10 3 = true by decide +kernel) (show (0 : Nat) ≤ 8 by decide) (by omega) (iv_C_mono (c_lose hL hv (by omega) hJ) (fun v μ1 hp => ?_))
      obtain ⟨rfl, j1, k1⟩ := hp
      exact sg_115_97 hL (by omega) h0 (by omega) hf.1 hf.2 (ih _ _ (by omega) (by omega) j1 (ksu_tr hk k1))
    · refine iv_call (want := 0) (y := 115) (pc := 67) (z := 36) (cls := 0) (sa := [(0, b)]) (th := []) (r := [(5, l + 65)]) (d' := d - 1) (show iv_cck 0 115 67 36 = true by decide +kernel) (Or.inr ⟨rfl, rfl⟩) (show iv_mck 0 36 1 0 1 = true by decide +kernel) (show (1 : Nat) ≤ 8 by decide) (by omega) (iv_C_mono (c_leastOf hL hv (by omega) hJ) (fun v μ1 hp => ?_))
      obtain ⟨⟨z, rfl, hz⟩, rfl⟩ := hp
      exact sg_115_70 hL (by omega) h0 (by omega) hf.1 hf.2 (ih _ _ (by omega) (by omega) (boA (c := 65) (n := 14) (k := 0) (l := -2147483648) (h := 2147483647) (by decide +kernel) hJ h0 (by omega) hz hz) (ksu_up hk (Or.inl (by omega))))
theorem c_sink {d : Nat} (hL : L ≤ 3072) (hv : vz.category = 1) (hd : 45 ≤ d) (hJ : br_J L xs μ) {f : Int} (hf : 0 ≤ f ∧ f ≤ 9) : iv_C L xs vz d 115 [(12, 39), (0, f), (4, 187)] μ (fun _ μ' => csu f μ μ') := by
  refine iv_C_of (sg_115_0 hL (by omega) ?_)
  refine iv_call (want := 1) (y := 115) (pc := 2) (z := 34) (cls := 2) (sa := [(0, f)]) (th := [(4, 187)]) (r := []) (d' := d - 1) (show iv_cck 1 115 2 34 = true by decide +kernel) (Or.inl ⟨rfl, _, rfl⟩) (show iv_mck 1 34 1 2 2 = true by decide +kernel) (show (0 : Nat) ≤ 8 by decide) (by omega) (iv_C_mono (c_partOf hL hv (by omega) hJ) (fun v μ1 hp => ?_))
  obtain ⟨⟨z, rfl⟩, rfl⟩ := hp
  refine sg_115_5 hL (by omega) hf.1 hf.2 ?_
  refine iv_call (want := 1) (y := 115) (pc := 26) (z := 62) (cls := 1) (sa := [(0, z), (0, μ1 39 9), (0, f), (0, 4)]) (th := [(3, 47)]) (r := []) (d' := d - 1) (show iv_cck 1 115 26 62 = true by decide +kernel) (Or.inl ⟨rfl, _, rfl⟩) (show iv_mck 1 62 4 1 5 = true by decide +kernel) (show (0 : Nat) ≤ 8 by decide) (by omega) (iv_C_mono (pb_62 hv (by omega) hJ) (fun v μ2 hp => ?_))
  obtain ⟨j2, f2, rfl⟩ := hp
  refine sg_115_29 hL (by omega) hf.1 hf.2 ?_
  exact c_sink32 hL hv (by omega) hf (fun μ' h => h) 14 0 μ2 (by decide) (by decide) j2 (ksu_W (by decide +kernel) f2)
end C8
