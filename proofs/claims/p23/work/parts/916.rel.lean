/-! ===== a relation of slots; ranges by types; what an update keeps ===== -/
abbrev rl_S : Type := Nat × Nat
def rl_of (R : List (rl_S × rl_S)) (μ : iv_M) : Prop := ∀ e ∈ R, μ e.1.1 e.1.2 = μ e.2.1 e.2.2
/-- a slot that a contract does not write -/
def rl_off (W : se_W) (s : rl_S) : Bool := match st_ty s.1 with
  | some t => W.all (fun u => !(Nat.beq u.1 t) || (Nat.blt s.2 u.2.1 || Nat.ble u.2.2 s.2))
  | none => true
theorem rl_off_ok {W : se_W} {s : rl_S} (h : rl_off W s = true) : ¬ br_in W (s.1 : Int) (s.2 : Int) := by
  rintro ⟨-, -, t, h1, u, h2, h3, h4, h5⟩
  rw [Int.toNat_natCast] at h1 h4 h5
  unfold rl_off at h
  rw [h1] at h
  have h6 := List.all_eq_true.mp h u h2
  rw [Bool.or_eq_true, Bool.or_eq_true] at h6
  rcases h6 with h6 | h6 | h6
  · rw [h3] at h6; simp at h6
  · have := Nat.blt_eq.mp h6; omega
  · have := Nat.le_of_ble_eq_true h6; omega
/-- slots that stay -/
def rl_same (S : List rl_S) (μ μ' : iv_M) : Prop := ∀ s ∈ S, μ' s.1 s.2 = μ s.1 s.2
theorem rl_same_of {W : se_W} {S : List rl_S} {μ μ' : iv_M} (h : S.all (rl_off W) = true) (hf : ∀ p k, ¬ br_in W p k → μ' p k = μ p k) : rl_same S μ μ' := fun s hs => hf _ _ (rl_off_ok (List.all_eq_true.mp h s hs))
theorem rl_same_tr {S : List rl_S} {μ1 μ2 μ3 : iv_M} (h1 : rl_same S μ1 μ2) (h2 : rl_same S μ2 μ3) : rl_same S μ1 μ3 := fun s hs => (h2 s hs).trans (h1 s hs)
def rl_sl (R : List (rl_S × rl_S)) : List rl_S := R.map Prod.fst ++ R.map Prod.snd
theorem rl_keep {R : List (rl_S × rl_S)} {μ μ' : iv_M} (h : rl_of R μ) (hs : rl_same (rl_sl R) μ μ') : rl_of R μ' := by
  intro e he
  rw [hs e.1 (List.mem_append.mpr (Or.inl (List.mem_map_of_mem he))), hs e.2 (List.mem_append.mpr (Or.inr (List.mem_map_of_mem he)))]
  exact h e he
/-- the same of another picture of the same memory -/
theorem rl_same_m {L : Nat} {xs : Nat → Int32} {S : List rl_S} {μ μ1 μ2 : iv_M} (hS : S.all (fun s => iv_slot s.1 s.2) = true) (h : iv_m L xs μ1 = iv_m L xs μ2) (hN1 : iv_N μ1) (hN2 : iv_N μ2) (hs : rl_same S μ μ2) : rl_same S μ μ1 := fun s hm => by
  rw [iv_m_slot h hN1 hN2 (List.all_eq_true.mp hS s hm)]
  exact hs s hm
section REL
variable {L : Nat} {xs : Nat → Int32} {vz : Value} {μ : iv_M}
theorem br_rg (hJ : br_J L xs μ) (hN : iv_N μ) {p k t : Nat} {l h : Int} (ht : st_ty p = some t) (hp : 38 ≤ p ∧ p < 213) (hk : k < (se_tt t).2.2.1) (hs : se_seg (se_tt t).2.2.2 k = (0, l, h)) : l ≤ μ p k ∧ μ p k ≤ h := by
  obtain ⟨x, h1, h2⟩ := se_tc_get (hJ.1 p t ht) hk
  rw [hs] at h2
  obtain ⟨n, rfl, h3, h4⟩ := h2
  rw [← (br_get0 (L := L) (xs := xs) hp.1 hp.2 hN).1 n h1]
  exact ⟨h3, h4⟩
theorem br_set_arr {p : Nat} {a : Nat × Nat × Nat × Int × Int} {k v : Int} (hp : 38 ≤ p ∧ p < 213) (h1 : 100 ≤ iv_pl p) (ha : iv_ars (iv_pl p) = some a) (h0 : 0 ≤ k) (h5 : a.1 ≠ 5) (h1a : a.1 ≠ 1) : iv_m L xs (iv_upd μ p k v) = se_set (iv_m L xs μ) p k.toNat (.int (Int32.ofInt v)) := by
  have hne : iv_pl p ≠ 999 := fun q => by
    rw [q] at ha
    cases ha
  rw [← iv_set_arr (L := L) (xs := xs) (μ := μ) (x := .int (Int32.ofInt v)) rfl ⟨h1, hne⟩ ha h0 h5 (by rw [if_neg h1a])]
  unfold se_set
  rw [iv_m_own hp.1 hp.2, iv_cl_arr rfl ha]
theorem br_set_obj {p k : Nat} {f : Nat × Nat × Int} {v : Int} (hp : 38 ≤ p ∧ p < 213) (h1 : iv_pl p ≤ 12) (hf : (iv_fds (iv_pl p))[k]? = some f) (h2 : f.1 ≠ 2) : iv_m L xs (iv_upd μ p k v) = se_set (iv_m L xs μ) p k (.int (Int32.ofInt v)) := by
  have ha : iv_ars (iv_pl p) = none := iv_ars_obj (by omega)
  rw [← iv_set_obj (L := L) (xs := xs) (μ := μ) (v := v) rfl h1 hf h2 ha]
  unfold se_set
  rw [iv_m_own hp.1 hp.2, iv_cl_obj rfl ha]
theorem br_J_set {p t k : Nat} {v l h : Int} (hJ : br_J L xs μ) (ht : st_ty p = some t) (hs : se_seg (se_tt t).2.2.2 k = (0, l, h)) (hv : l ≤ v ∧ v ≤ h) (hi : iv_i32 v) (hZ : (t ≠ 56 ∧ t ≠ 103) ∨ k < 528) : se_tm st_ty se_tt (se_set (iv_m L xs μ) p k (.int (Int32.ofInt v))) ∧ rw_J st_ty (se_set (iv_m L xs μ) p k (.int (Int32.ofInt v))) := by
  refine ⟨se_tm_set hJ.1 ht ?_, rw_Jz st_ty (iv_m L xs μ) _ (fun q u i hq hu => ?_) hJ.2⟩
  · rw [hs]
    exact ⟨_, rfl, by rw [iv_of32 hi]; exact hv.1, by rw [iv_of32 hi]; exact hv.2⟩
  · refine se_get_set_ne ?_
    by_cases e : q = p
    · refine Or.inr (fun e2 => ?_)
      subst e e2
      rw [ht] at hq
      cases hq
      obtain ⟨w, h1, h2, h3, -⟩ := hu
      rcases List.mem_cons.mp h1 with rfl | h1
      · have h2 : 56 = t := h2
        have h3 : 528 ≤ i := h3
        omega
      · rcases List.mem_cons.mp h1 with rfl | h1
        · have h2 : 103 = t := h2
          have h3 : 528 ≤ i := h3
          omega
        · cases h1
    · exact Or.inl e
/-- a number of now, ahead of the texts, is another -/
theorem br_J_now {k v l h : Int} (hJ : br_J L xs μ) (h0 : 0 ≤ k) (h1 : k < 528) (hs : se_seg (se_tt 56).2.2.2 k.toNat = (0, l, h)) (hv : l ≤ v ∧ v ≤ h) (hi : iv_i32 v) : br_J L xs (iv_upd μ 196 k v) := by
  have := br_J_set (k := k.toNat) hJ (show st_ty 196 = some 56 from rfl) hs hv hi (Or.inr (by omega))
  rw [← br_set_arr (p := 196) (a := (0, 2973, 0, 0, 0)) (k := k) (v := v) ⟨by decide, by decide⟩ (by decide) rfl h0 (by decide) (by decide)] at this
  exact this
end REL
