/-! ===== printed by wip/iv/gen_e8.py: a day, days of the class by views ===== -/
section E8
variable {L : Nat} {xs : Nat → Int32} {vz : Value} {μ : iv_M}
theorem c_tail {d : Nat} (hL : L ≤ 3072) (hv : vz.category = 1) (hd : 70 ≤ d) (hc : 0 ≤ μ 39 2 ∧ μ 39 2 ≤ 10) {a b c : Int} {μ6 : iv_M} (j6 : br_J L xs μ6) (k6 : fq μ μ6) : iv_G L xs vz d 104 40 [some (12, 39), some (0, a), some (0, b), some (4, 187), some (0, c)] [] μ6 (fun r μ' => pas rpC rsC (vC μ) (vC μ') ∧ br_J L xs μ' ∧ ∃ z, r = some (0, z)) := by
  have n6 : μ6 39 2 = μ 39 2 := k6.1.1
  refine sg_104_40 hL (by omega) ?_
  refine iv_call (want := 1) (y := 104) (pc := 42) (z := 114) (cls := 10) (sa := [(4, 187)]) (th := [(12, 39)]) (r := []) (d' := d - 1) (show iv_cck 1 104 42 114 = true by decide +kernel) (Or.inl ⟨rfl, _, rfl⟩) (show iv_mck 1 114 1 10 2 = true by decide +kernel) (show (0 : Nat) ≤ 8 by decide) (by omega) (iv_C_mono (c_rot hL hv (by omega) j6 (by rw [n6]; exact hc)) (fun v μ7 hp => ?_))
  obtain ⟨r7, j7, k7, rfl⟩ := hp
  refine sg_104_45 hL (by omega) ?_
  refine iv_call (want := 1) (y := 104) (pc := 46) (z := 117) (cls := 10) (sa := []) (th := [(12, 39)]) (r := []) (d' := d - 1) (show iv_cck 1 104 46 117 = true by decide +kernel) (Or.inl ⟨rfl, _, rfl⟩) (show iv_mck 1 117 0 10 1 = true by decide +kernel) (show (0 : Nat) ≤ 8 by decide) (by omega) (iv_C_mono (pb_117 hv (by omega) j7) (fun v μ8 hp => ?_))
  obtain ⟨j8, f8, rfl⟩ := hp
  have k8 : fq μ7 μ8 := fq_of (by decide +kernel) f8
  have kk := fk_tr (fk_tr k6.1 k7) k8.1
  have e : ∀ (v p j : Int), j ≠ 9 → iv_upd μ8 39 9 v p j = μ8 p j := fun v p j hj => iv_upd_ne _ _ (Or.inr hj)
  rw [k6.1.2.2.1, n6] at r7
  refine sg_104_49 hL (by omega) ⟨⟨(e (iv_w (μ8 39 9 + 1)) 39 2 (by decide)).trans kk.1, (e (iv_w (μ8 39 9 + 1)) 39 4 (by decide)).trans kk.2.1, ?_, fun i i0 i1 => (e (iv_w (μ8 39 9 + 1)) (i + 55) 0 (by decide)).trans (kk.2.2.2 i i0 i1), ?_⟩, bo1 (p := 39) (k := 9) (l := -2147483648) (h := 2147483647) (by decide +kernel) j8 (iv_w_i32 _) (iv_w_i32 _), _, rfl⟩
  · show iv_upd μ8 39 9 (iv_w (μ8 39 9 + 1)) 39 9 = iv_w (μ 39 9 + 1)
    rw [iv_upd_same, kk.2.2.1]
  · exact rinv_cong r7 (fun i i0 i1 => ⟨(k6.1.2.2.2 i i0 i1).symm, (k6.2.1 i i0 i1).symm, (k6.2.2 i i0 i1).symm, (e (iv_w (μ8 39 9 + 1)) (i + 55) 2 (by decide)).trans (k8.2.1 i i0 i1), (e (iv_w (μ8 39 9 + 1)) (i + 55) 6 (by decide)).trans (k8.2.2 i i0 i1)⟩)
theorem c_pass {d : Nat} (hL : L ≤ 3072) (hv : vz.category = 1) (hd : 80 ≤ d) (hJ : br_J L xs μ) (hc : 0 ≤ μ 39 2 ∧ μ 39 2 ≤ 10) {a b : Int} : iv_C L xs vz d 104 [(12, 39), (0, a), (0, b), (4, 187)] μ (fun r μ' => pas rpC rsC (vC μ) (vC μ') ∧ br_J L xs μ' ∧ ∃ z, r = some (0, z)) := by
  refine iv_C_of (sg_104_0 hL (by omega) ?_)
  refine iv_call (want := 1) (y := 104) (pc := 2) (z := 27) (cls := 2) (sa := [(12, 39)]) (th := [(4, 187)]) (r := []) (d' := d - 1) (show iv_cck 1 104 2 27 = true by decide +kernel) (Or.inl ⟨rfl, _, rfl⟩) (show iv_mck 1 27 1 2 2 = true by decide +kernel) (show (0 : Nat) ≤ 8 by decide) (by omega) (iv_C_mono (pb_27 hv (by omega) hJ) (fun v μ1 hp => ?_))
  obtain ⟨j1, f1, rfl⟩ := hp
  have k1 : fq μ μ1 := fq_of (by decide +kernel) f1
  refine sg_104_5 hL (by omega) ?_
  refine iv_call (want := 1) (y := 104) (pc := 8) (z := 105) (cls := 10) (sa := [(4, 187), (0, a)]) (th := [(12, 39)]) (r := []) (d' := d - 1) (show iv_cck 1 104 8 105 = true by decide +kernel) (Or.inl ⟨rfl, _, rfl⟩) (show iv_mck 1 105 2 10 3 = true by decide +kernel) (show (0 : Nat) ≤ 8 by decide) (by omega) (iv_C_mono (pb_105 hv (by omega) j1) (fun v μ2 hp => ?_))
  obtain ⟨j2, f2, z, rfl, -⟩ := hp
  have k2 : fq μ μ2 := fq_tr k1 (fq_of (by decide +kernel) f2)
  refine sg_104_11 hL (by omega) ?_
  refine iv_call (want := 1) (y := 104) (pc := 15) (z := 107) (cls := 10) (sa := [(0, b)]) (th := [(12, 39)]) (r := []) (d' := d - 1) (show iv_cck 1 104 15 107 = true by decide +kernel) (Or.inl ⟨rfl, _, rfl⟩) (show iv_mck 1 107 1 10 2 = true by decide +kernel) (show (0 : Nat) ≤ 8 by decide) (by omega) (iv_C_mono (pb_107 hv (by omega) j2) (fun v μ3 hp => ?_))
  obtain ⟨j3, f3, rfl⟩ := hp
  have k3 : fq μ μ3 := fq_tr k2 (fq_of (by decide +kernel) f3)
  refine sg_104_18 hL (by omega) ?_
  refine iv_call (want := 1) (y := 104) (pc := 19) (z := 108) (cls := 10) (sa := []) (th := [(12, 39)]) (r := []) (d' := d - 1) (show iv_cck 1 104 19 108 = true by decide +kernel) (Or.inl ⟨rfl, _, rfl⟩) (show iv_mck 1 108 0 10 1 = true by decide +kernel) (show (0 : Nat) ≤ 8 by decide) (by omega) (iv_C_mono (pb_108 hv (by omega) j3) (fun v μ4 hp => ?_))
  obtain ⟨j4, f4, rfl⟩ := hp
  have k4 : fq μ μ4 := fq_tr k3 (fq_of (by decide +kernel) f4)
  refine sg_104_22 hL (by omega) ?_
  refine iv_call (want := 1) (y := 104) (pc := 24) (z := 109) (cls := 10) (sa := [(4, 187)]) (th := [(12, 39)]) (r := []) (d' := d - 1) (show iv_cck 1 104 24 109 = true by decide +kernel) (Or.inl ⟨rfl, _, rfl⟩) (show iv_mck 1 109 1 10 2 = true by decide +kernel) (show (0 : Nat) ≤ 8 by decide) (by omega) (iv_C_mono (pb_109 hv (by omega) j4) (fun v μ5 hp => ?_))
  obtain ⟨j5, f5, rfl⟩ := hp
  have k5 : fq μ μ5 := fq_tr k4 (fq_of (by decide +kernel) f5)
  refine sg_104_27 hL (by omega) (fun _ => ?_) (fun _ => ?_)
  · refine iv_call (want := 1) (y := 104) (pc := 37) (z := 113) (cls := 10) (sa := [(0, 0)]) (th := [(12, 39)]) (r := []) (d' := d - 1) (show iv_cck 1 104 37 113 = true by decide +kernel) (Or.inl ⟨rfl, _, rfl⟩) (show iv_mck 1 113 1 10 2 = true by decide +kernel) (show (0 : Nat) ≤ 8 by decide) (by omega) (iv_C_mono (pb_113 hv (by omega) j5 ⟨by decide, by decide⟩) (fun v μ6 hp => ?_))
    obtain ⟨j6, f6, rfl⟩ := hp
    exact c_tail hL hv (by omega) hc j6 (fq_tr k5 (fq_of (by decide +kernel) f6))
  · refine iv_call (want := 1) (y := 104) (pc := 37) (z := 113) (cls := 10) (sa := [(0, 1)]) (th := [(12, 39)]) (r := []) (d' := d - 1) (show iv_cck 1 104 37 113 = true by decide +kernel) (Or.inl ⟨rfl, _, rfl⟩) (show iv_mck 1 113 1 10 2 = true by decide +kernel) (show (0 : Nat) ≤ 8 by decide) (by omega) (iv_C_mono (pb_113 hv (by omega) j5 ⟨by decide, by decide⟩) (fun v μ6 hp => ?_))
    obtain ⟨j6, f6, rfl⟩ := hp
    exact c_tail hL hv (by omega) hc j6 (fq_tr k5 (fq_of (by decide +kernel) f6))
theorem c_day {d : Nat} (hL : L ≤ 3072) (hv : vz.category = 1) (hd : 90 ≤ d) (hJ : br_J L xs μ) (hc : 0 ≤ μ 39 2 ∧ μ 39 2 ≤ 10) {a b : Int} : iv_C L xs vz d 102 [(13, 38), (0, a), (0, b)] μ (fun _ μ' => (¬ gday a b → vC μ' = vC μ) ∧ (gday a b → pas rpC rsC (vC μ) (vC μ'))) := by
  refine iv_C_of ?_
  refine sg_102_0 hL (by omega) ?_ ?_ ?_ ?_ ?_ <;> intros <;> first | exact ⟨fun _ => vC_upd, fun q => by unfold gday at q; omega⟩ | skip
  refine iv_call (want := 1) (y := 102) (pc := 31) (z := 104) (cls := 10) (sa := [(4, 187), (0, b), (0, a)]) (th := [(12, 39)]) (r := []) (d' := d - 1) (show iv_cck 1 102 31 104 = true by decide +kernel) (Or.inl ⟨rfl, _, rfl⟩) (show iv_mck 1 104 3 10 4 = true by decide +kernel) (show (0 : Nat) ≤ 8 by decide) (by omega) (iv_C_mono (c_pass hL hv (by omega) hJ hc) (fun v μ1 hp => ?_))
  obtain ⟨k1, j1, z, rfl⟩ := hp
  exact sg_102_34 hL (by omega) ⟨fun q => absurd (show gday a b from ⟨by omega, by omega, by omega, by omega⟩) q, fun _ => k1⟩
theorem c_days57 {d : Nat} (hL : L ≤ 3072) (hv : vz.category = 1) (hd : 90 ≤ d) {n s q : Int} (hn : n ≤ 30) : ∀ (m : Nat) (k w r c : Int) (μ : iv_M), 0 ≤ k → n = k + m → br_J L xs μ → 0 ≤ μ 39 2 ∧ μ 39 2 ≤ 10 → iv_G L xs vz d 121 57 [some (13, 38), some (0, n), some (0, s), some (9, q), some (0, w), some (0, r), some (0, c), some (0, k), none, none] [] μ (fun _ μ' => pasn rpC rsC m (vC μ) (vC μ')) := by
  intro m
  induction m with
  | zero =>
    intro k w r c μ h0 h1 hJ hc
    refine sg_121_57 hL (by omega) h0 (by omega) hn h0 ?_ ?_ ?_ ?_ ?_ ?_ ?_ ?_ ?_ ?_ ?_ ?_ ?_ ?_ ?_ ?_ ?_ <;> intros <;> first | exact rfl | omega
  | succ m ih =>
    intro k w r c μ h0 h1 hJ hc
    have go : ∀ (w' r' x y : Int), iv_G L xs vz d 121 125 [some (13, 38), some (0, n), some (0, s), some (9, q), some (0, w'), some (0, r'), some (0, c), some (0, k), some (0, x), some (0, y)] [(4, 187), (0, r'), (0, w'), (12, 39), (0, c)] μ (fun _ μ' => pasn rpC rsC (m + 1) (vC μ) (vC μ')) := by
      intro w' r' x y
      refine iv_call (want := 1) (y := 121) (pc := 125) (z := 104) (cls := 10) (sa := [(4, 187), (0, r'), (0, w')]) (th := [(12, 39)]) (r := [(0, c)]) (d' := d - 1) (show iv_cck 1 121 125 104 = true by decide +kernel) (Or.inl ⟨rfl, _, rfl⟩) (show iv_mck 1 104 3 10 4 = true by decide +kernel) (show (1 : Nat) ≤ 8 by decide) (by omega) (iv_C_mono (c_pass hL hv (by omega) hJ hc) (fun v μ1 hp => ?_))
      obtain ⟨k1, j1, z, rfl⟩ := hp
      have e1 : μ1 39 2 = μ 39 2 := k1.1
      refine sg_121_128 hL (by omega) h0 (by omega) hn ?_
      exact iv_wk (ls' := [some (13, 38), some (0, n), some (0, s), some (9, q), some (0, w'), some (0, r'), some (0, iv_w (c + z)), some (0, k + 1), none, none]) (iv_G_mono (ih (k + 1) w' r' _ μ1 (by omega) (by omega) j1 (by rw [e1]; exact hc)) (Nat.le_refl _) (fun r μ' _ _ hq => ⟨_, k1, hq⟩)) ⟨Or.inr rfl, Or.inr rfl, Or.inr rfl, Or.inr rfl, Or.inr rfl, Or.inr rfl, Or.inr rfl, Or.inr rfl, Or.inl rfl, Or.inl rfl, trivial⟩
    refine sg_121_57 hL (by omega) h0 (by omega) hn h0 (fun q => ?_) ?_ ?_ ?_ ?_ ?_ ?_ ?_ ?_ ?_ ?_ ?_ ?_ ?_ ?_ ?_ ?_ <;> intros <;> first | exact go _ _ _ _ | (exfalso; omega)
theorem c_days {d : Nat} (hL : L ≤ 3072) (hv : vz.category = 1) (hd : 90 ≤ d) (hJ : br_J L xs μ) (hc : 0 ≤ μ 39 2 ∧ μ 39 2 ≤ 10) {a b : Int} : iv_C L xs vz d 121 [(13, 38), (0, a), (0, b)] μ (fun _ μ' => (¬ gdays a b (μ (b * 2 + 174) 0) → vC μ' = vC μ) ∧ (gdays a b (μ (b * 2 + 174) 0) → pasn rpC rsC a.toNat (vC μ) (vC μ'))) := by
  refine iv_C_of ?_
  refine sg_121_0 hL (by omega) ?_ ?_ ?_ ?_ ?_ ?_ <;> intros <;> first | exact ⟨fun _ => vC_upd, fun q => by unfold gdays at q; omega⟩ | skip
  exact iv_G_mono (c_days57 hL hv (by omega) (by omega) a.toNat 0 0 0 0 μ (by decide) (by omega) hJ hc) (Nat.le_refl _) (fun r μ' _ _ hq => ⟨fun q => absurd (show gdays a b (μ (b * 2 + 174) 0) from ⟨by omega, by omega, by omega, by omega, by omega⟩) q, fun _ => hq⟩)
end E8
