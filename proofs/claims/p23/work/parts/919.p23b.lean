/-! ===== printed by wip/iv/gen_p23.py: every pair of calls keeps the tapes alike ===== -/
section P23B
variable {L : Nat} {xs : Nat → Int32} {vz : Value}
/-- what comes back is an int -/
theorem iv_C_r {d z : Nat} {As : List iv_Z} {μ : iv_M} {P1 : iv_P} {c : se_C} (h1 : iv_C L xs vz d z As μ P1) (h2 : iv_C L xs vz d z As μ (br_P L xs c μ)) (hr : ∀ r, br_rv c r → ∃ w, r = some (0, w)) : iv_C L xs vz d z As μ (fun r μ' => P1 r μ' ∧ ∃ w, r = some (0, w)) :=
  iv_C_and h1 h2 (fun r μ' => ∃ w, r = some (0, w)) (fun r m1 r' m2 a1 a2 n1 n2 a3 => by
    obtain ⟨w, hw⟩ := hr r' a3.2.2
    exact iv_cz_int a1 hw)
theorem ar_0 (hL : L ≤ 3072) (hv : vz.category = 1) : lq_p0 L xs vz (p23_J L xs) := by
  intro μ x1 x2 x3 hx1 hx2 hx3 hJ
  refine iv_C_mono (pb_12 hv (by decide) hJ.1) (fun r μ1 hp => ?_)
  obtain ⟨j1, f1, v, rfl, -⟩ := hp
  refine ⟨v, rfl, iv_C_mono (pb_219 hv (by decide) j1) (fun r2 μ2 hp2 => ?_)⟩
  obtain ⟨j2, f2, w, rfl, -⟩ := hp2
  exact ⟨w, rfl, p23_keep hJ j2 (rl_same_tr (rl_same_of (by decide +kernel) f1) (rl_same_of (by decide +kernel) f2)) (rl_same_tr (rl_same_of (by decide +kernel) f1) (rl_same_of (by decide +kernel) f2))⟩
theorem ar_1 (hL : L ≤ 3072) (hv : vz.category = 1) : lq_p1 L xs vz (p23_J L xs) := by
  intro μ x1 x2 x3 x4 hx1 hx2 hx3 hx4 hJ
  refine iv_C_mono (pb_17 hv (by decide) hJ.1) (fun r μ1 hp => ?_)
  obtain ⟨j1, f1, v, rfl, -⟩ := hp
  refine ⟨v, rfl, iv_C_mono (pb_222 hv (by decide) j1) (fun r2 μ2 hp2 => ?_)⟩
  obtain ⟨j2, f2, w, rfl, -⟩ := hp2
  exact ⟨w, rfl, p23_keep hJ j2 (rl_same_tr (rl_same_of (by decide +kernel) f1) (rl_same_of (by decide +kernel) f2)) (rl_same_tr (rl_same_of (by decide +kernel) f1) (rl_same_of (by decide +kernel) f2))⟩
theorem ar_2 (hL : L ≤ 3072) (hv : vz.category = 1) : lq_p2 L xs vz (p23_J L xs) := by
  intro μ x1 x2 hx1 hx2 hJ
  refine iv_C_mono (pb_22 hv (by decide) hJ.1) (fun r μ1 hp => ?_)
  obtain ⟨j1, f1, v, rfl, -⟩ := hp
  refine ⟨v, rfl, iv_C_mono (pb_224 hv (by decide) j1) (fun r2 μ2 hp2 => ?_)⟩
  obtain ⟨j2, f2, w, rfl, -⟩ := hp2
  exact ⟨w, rfl, p23_keep hJ j2 (rl_same_tr (rl_same_of (by decide +kernel) f1) (rl_same_of (by decide +kernel) f2)) (rl_same_tr (rl_same_of (by decide +kernel) f1) (rl_same_of (by decide +kernel) f2))⟩
theorem ar_3 (hL : L ≤ 3072) (hv : vz.category = 1) : lq_p3 L xs vz (p23_J L xs) := by
  intro μ x1 x2 hx1 hx2 hJ
  refine iv_C_mono (pb_25 hv (by decide) hJ.1) (fun r μ1 hp => ?_)
  obtain ⟨j1, f1, v, rfl, -⟩ := hp
  refine ⟨v, rfl, iv_C_mono (pb_227 hv (by decide) j1) (fun r2 μ2 hp2 => ?_)⟩
  obtain ⟨j2, f2, w, rfl, -⟩ := hp2
  exact ⟨w, rfl, p23_keep hJ j2 (rl_same_tr (rl_same_of (by decide +kernel) f1) (rl_same_of (by decide +kernel) f2)) (rl_same_tr (rl_same_of (by decide +kernel) f1) (rl_same_of (by decide +kernel) f2))⟩
theorem ar_4 (hL : L ≤ 3072) (hv : vz.category = 1) : lq_p4 L xs vz (p23_J L xs) := by
  intro μ x1 x2 b hx1 hx2 hb hJ
  refine iv_C_mono (pb_38 hv (by decide) hJ.1 hb) (fun r μ1 hp => ?_)
  obtain ⟨j1, f1, v, rfl, -⟩ := hp
  refine ⟨v, rfl, iv_C_mono (pb_238 hv (by decide) j1 hb) (fun r2 μ2 hp2 => ?_)⟩
  obtain ⟨j2, f2, w, rfl, -⟩ := hp2
  exact ⟨w, rfl, p23_keep hJ j2 (rl_same_tr (rl_same_of (by decide +kernel) f1) (rl_same_of (by decide +kernel) f2)) (rl_same_tr (rl_same_of (by decide +kernel) f1) (rl_same_of (by decide +kernel) f2))⟩
theorem ar_5 (hL : L ≤ 3072) (hv : vz.category = 1) : lq_p5 L xs vz (p23_J L xs) := by
  intro μ x1 x2 x3 b hx1 hx2 hx3 hb hJ
  refine iv_C_mono (pb_42 hv (by decide) hJ.1 hb) (fun r μ1 hp => ?_)
  obtain ⟨j1, f1, v, rfl, -⟩ := hp
  refine ⟨v, rfl, iv_C_mono (pb_241 hv (by decide) j1 hb) (fun r2 μ2 hp2 => ?_)⟩
  obtain ⟨j2, f2, w, rfl, -⟩ := hp2
  exact ⟨w, rfl, p23_keep hJ j2 (rl_same_tr (rl_same_of (by decide +kernel) f1) (rl_same_of (by decide +kernel) f2)) (rl_same_tr (rl_same_of (by decide +kernel) f1) (rl_same_of (by decide +kernel) f2))⟩
theorem ar_6 (hL : L ≤ 3072) (hv : vz.category = 1) : lq_p6 L xs vz (p23_J L xs) := by
  intro μ x1 x2 x3 x4 hx1 hx2 hx3 hx4 hJ
  refine iv_C_mono (pb_45 hv (by decide) hJ.1) (fun r μ1 hp => ?_)
  obtain ⟨j1, f1, v, rfl, -⟩ := hp
  refine ⟨v, rfl, iv_C_mono (pb_242 hv (by decide) j1) (fun r2 μ2 hp2 => ?_)⟩
  obtain ⟨j2, f2, w, rfl, -⟩ := hp2
  exact ⟨w, rfl, p23_keep hJ j2 (rl_same_tr (rl_same_of (by decide +kernel) f1) (rl_same_of (by decide +kernel) f2)) (rl_same_tr (rl_same_of (by decide +kernel) f1) (rl_same_of (by decide +kernel) f2))⟩
theorem ar_7 (hL : L ≤ 3072) (hv : vz.category = 1) : lq_p7 L xs vz (p23_J L xs) := by
  intro μ x1 x2 hx1 hx2 hJ
  refine iv_C_mono (pb_49 hv (by decide) hJ.1) (fun r μ1 hp => ?_)
  obtain ⟨j1, f1, v, rfl, -⟩ := hp
  refine ⟨v, rfl, iv_C_mono (pb_243 hv (by decide) j1) (fun r2 μ2 hp2 => ?_)⟩
  obtain ⟨j2, f2, w, rfl, -⟩ := hp2
  exact ⟨w, rfl, p23_keep hJ j2 (rl_same_tr (rl_same_of (by decide +kernel) f1) (rl_same_of (by decide +kernel) f2)) (rl_same_tr (rl_same_of (by decide +kernel) f1) (rl_same_of (by decide +kernel) f2))⟩
theorem ar_8 (hL : L ≤ 3072) (hv : vz.category = 1) : lq_p8 L xs vz (p23_J L xs) := by
  intro μ x1 x2 hx1 hx2 hJ
  refine iv_C_mono (pb_51 hv (by decide) hJ.1) (fun r μ1 hp => ?_)
  obtain ⟨j1, f1, v, rfl, -⟩ := hp
  refine ⟨v, rfl, iv_C_mono (pb_245 hv (by decide) j1) (fun r2 μ2 hp2 => ?_)⟩
  obtain ⟨j2, f2, w, rfl, -⟩ := hp2
  exact ⟨w, rfl, p23_keep hJ j2 (rl_same_tr (rl_same_of (by decide +kernel) f1) (rl_same_of (by decide +kernel) f2)) (rl_same_tr (rl_same_of (by decide +kernel) f1) (rl_same_of (by decide +kernel) f2))⟩
theorem ar_9 (hL : L ≤ 3072) (hv : vz.category = 1) : lq_p9 L xs vz (p23_J L xs) := by
  intro μ x1 x2 hx1 hx2 hJ
  refine iv_C_mono (pb_52 hv (by decide) hJ.1) (fun r μ1 hp => ?_)
  obtain ⟨j1, f1, v, rfl, -⟩ := hp
  refine ⟨v, rfl, iv_C_mono (pb_246 hv (by decide) j1) (fun r2 μ2 hp2 => ?_)⟩
  obtain ⟨j2, f2, w, rfl, -⟩ := hp2
  exact ⟨w, rfl, p23_keep hJ j2 (rl_same_tr (rl_same_of (by decide +kernel) f1) (rl_same_of (by decide +kernel) f2)) (rl_same_tr (rl_same_of (by decide +kernel) f1) (rl_same_of (by decide +kernel) f2))⟩
theorem ar_10 (hL : L ≤ 3072) (hv : vz.category = 1) : lq_p10 L xs vz (p23_J L xs) := by
  intro μ x1 x2 x3 x4 x5 hx1 hx2 hx3 hx4 hx5 hJ
  refine iv_C_mono (pb_56 hv (by decide) hJ.1) (fun r μ1 hp => ?_)
  obtain ⟨j1, f1, v, rfl, -⟩ := hp
  refine ⟨v, rfl, iv_C_mono (pb_252 hv (by decide) j1) (fun r2 μ2 hp2 => ?_)⟩
  obtain ⟨j2, f2, w, rfl, -⟩ := hp2
  exact ⟨w, rfl, p23_keep hJ j2 (rl_same_tr (rl_same_of (by decide +kernel) f1) (rl_same_of (by decide +kernel) f2)) (rl_same_tr (rl_same_of (by decide +kernel) f1) (rl_same_of (by decide +kernel) f2))⟩
theorem ar_11 (hL : L ≤ 3072) (hv : vz.category = 1) : lq_p11 L xs vz (p23_J L xs) := by
  intro μ x1 hx1 hJ
  refine iv_C_mono (pb_65 hv (by decide) hJ.1) (fun r μ1 hp => ?_)
  obtain ⟨j1, f1, v, rfl, -⟩ := hp
  refine ⟨v, rfl, iv_C_mono (pb_304 hv (by decide) j1) (fun r2 μ2 hp2 => ?_)⟩
  obtain ⟨j2, f2, w, rfl, -⟩ := hp2
  exact ⟨w, rfl, p23_keep hJ j2 (rl_same_tr (rl_same_of (by decide +kernel) f1) (rl_same_of (by decide +kernel) f2)) (rl_same_tr (rl_same_of (by decide +kernel) f1) (rl_same_of (by decide +kernel) f2))⟩
theorem ar_12 (hL : L ≤ 3072) (hv : vz.category = 1) : lq_p12 L xs vz (p23_J L xs) := by
  intro μ x1 x2 hx1 hx2 hJ
  refine iv_C_mono (pb_93 hv (by decide) hJ.1) (fun r μ1 hp => ?_)
  obtain ⟨j1, f1, v, rfl, -⟩ := hp
  refine ⟨v, rfl, iv_C_mono (pb_256 hv (by decide) j1) (fun r2 μ2 hp2 => ?_)⟩
  obtain ⟨j2, f2, w, rfl, -⟩ := hp2
  exact ⟨w, rfl, p23_keep hJ j2 (rl_same_tr (rl_same_of (by decide +kernel) f1) (rl_same_of (by decide +kernel) f2)) (rl_same_tr (rl_same_of (by decide +kernel) f1) (rl_same_of (by decide +kernel) f2))⟩
theorem ar_13 (hL : L ≤ 3072) (hv : vz.category = 1) : lq_p13 L xs vz (p23_J L xs) := by
  intro μ x1 x2 hx1 hx2 hJ
  refine iv_C_mono (pb_94 hv (by decide) hJ.1) (fun r μ1 hp => ?_)
  obtain ⟨j1, f1, v, rfl, -⟩ := hp
  refine ⟨v, rfl, iv_C_mono (pb_262 hv (by decide) j1) (fun r2 μ2 hp2 => ?_)⟩
  obtain ⟨j2, f2, w, rfl, -⟩ := hp2
  exact ⟨w, rfl, p23_keep hJ j2 (rl_same_tr (rl_same_of (by decide +kernel) f1) (rl_same_of (by decide +kernel) f2)) (rl_same_tr (rl_same_of (by decide +kernel) f1) (rl_same_of (by decide +kernel) f2))⟩
theorem ar_14 (hL : L ≤ 3072) (hv : vz.category = 1) : lq_p14 L xs vz (p23_J L xs) := by
  intro μ hJ
  refine iv_C_mono (pb_96 hv (by decide) hJ.1) (fun r μ1 hp => ?_)
  obtain ⟨j1, f1, v, rfl, -⟩ := hp
  refine ⟨v, rfl, iv_C_mono (pb_249 hv (by decide) j1) (fun r2 μ2 hp2 => ?_)⟩
  obtain ⟨j2, f2, w, rfl, -⟩ := hp2
  exact ⟨w, rfl, p23_keep hJ j2 (rl_same_tr (rl_same_of (by decide +kernel) f1) (rl_same_of (by decide +kernel) f2)) (rl_same_tr (rl_same_of (by decide +kernel) f1) (rl_same_of (by decide +kernel) f2))⟩
theorem ar_15 (hL : L ≤ 3072) (hv : vz.category = 1) : lq_p15 L xs vz (p23_J L xs) := by
  intro μ x1 hx1 hJ
  refine iv_C_mono (pb_97 hv (by decide) hJ.1) (fun r μ1 hp => ?_)
  obtain ⟨j1, f1, v, rfl, -⟩ := hp
  refine ⟨v, rfl, iv_C_mono (pb_251 hv (by decide) j1) (fun r2 μ2 hp2 => ?_)⟩
  obtain ⟨j2, f2, w, rfl, -⟩ := hp2
  exact ⟨w, rfl, p23_keep hJ j2 (rl_same_tr (rl_same_of (by decide +kernel) f1) (rl_same_of (by decide +kernel) f2)) (rl_same_tr (rl_same_of (by decide +kernel) f1) (rl_same_of (by decide +kernel) f2))⟩
theorem ar_16 (hL : L ≤ 3072) (hv : vz.category = 1) : lq_p16 L xs vz (p23_J L xs) := by
  intro μ x1 x2 hx1 hx2 hJ
  refine iv_C_mono (pb_98 hv (by decide) hJ.1) (fun r μ1 hp => ?_)
  obtain ⟨j1, f1, v, rfl, -⟩ := hp
  refine ⟨v, rfl, iv_C_mono (pb_265 hv (by decide) j1) (fun r2 μ2 hp2 => ?_)⟩
  obtain ⟨j2, f2, w, rfl, -⟩ := hp2
  exact ⟨w, rfl, p23_keep hJ j2 (rl_same_tr (rl_same_of (by decide +kernel) f1) (rl_same_of (by decide +kernel) f2)) (rl_same_tr (rl_same_of (by decide +kernel) f1) (rl_same_of (by decide +kernel) f2))⟩
theorem ar_17 (hL : L ≤ 3072) (hv : vz.category = 1) : lq_p17 L xs vz (p23_J L xs) := by
  intro μ x1 x2 hx1 hx2 hJ
  refine iv_C_mono (pb_102 hv (by decide) hJ.1) (fun r μ1 hp => ?_)
  obtain ⟨j1, f1, v, rfl, -⟩ := hp
  refine ⟨v, rfl, iv_C_mono (pb_269 hv (by decide) j1) (fun r2 μ2 hp2 => ?_)⟩
  obtain ⟨j2, f2, w, rfl, -⟩ := hp2
  exact ⟨w, rfl, p23_keep hJ j2 (rl_same_tr (rl_same_of (by decide +kernel) f1) (rl_same_of (by decide +kernel) f2)) (rl_same_tr (rl_same_of (by decide +kernel) f1) (rl_same_of (by decide +kernel) f2))⟩
theorem ar_18 (hL : L ≤ 3072) (hv : vz.category = 1) : lq_p18 L xs vz (p23_J L xs) := by
  intro μ x1 x2 hx1 hx2 hJ
  refine iv_C_mono (pb_121 hv (by decide) hJ.1) (fun r μ1 hp => ?_)
  obtain ⟨j1, f1, v, rfl, -⟩ := hp
  refine ⟨v, rfl, iv_C_mono (pb_281 hv (by decide) j1) (fun r2 μ2 hp2 => ?_)⟩
  obtain ⟨j2, f2, w, rfl, -⟩ := hp2
  exact ⟨w, rfl, p23_keep hJ j2 (rl_same_tr (rl_same_of (by decide +kernel) f1) (rl_same_of (by decide +kernel) f2)) (rl_same_tr (rl_same_of (by decide +kernel) f1) (rl_same_of (by decide +kernel) f2))⟩
theorem ar_19 (hL : L ≤ 3072) (hv : vz.category = 1) : lq_p19 L xs vz (p23_J L xs) := by
  intro μ x1 hx1 hJ
  refine iv_C_mono (pb_125 hv (by decide) hJ.1) (fun r μ1 hp => ?_)
  obtain ⟨j1, f1, v, rfl, -⟩ := hp
  refine ⟨v, rfl, iv_C_mono (pb_283 hv (by decide) j1) (fun r2 μ2 hp2 => ?_)⟩
  obtain ⟨j2, f2, w, rfl, -⟩ := hp2
  exact ⟨w, rfl, p23_keep hJ j2 (rl_same_tr (rl_same_of (by decide +kernel) f1) (rl_same_of (by decide +kernel) f2)) (rl_same_tr (rl_same_of (by decide +kernel) f1) (rl_same_of (by decide +kernel) f2))⟩
theorem ar_20 (hL : L ≤ 3072) (hv : vz.category = 1) : lq_p20 L xs vz (p23_J L xs) := by
  intro μ x1 y hx1 hy hJ
  obtain ⟨-, b, n, a, c⟩ := id hJ
  refine iv_C_mono (br_and3 tp_R tp_Rs (by decide +kernel) (iv_C_r (fd_c hL (by decide) a (x := x1) (y := y)) (pb_127 hv (by decide) hJ.1) (fun r hr => by obtain ⟨w, e, -⟩ := hr; exact ⟨w, e⟩)) (pb_127 hv (by decide) hJ.1)) (fun r μ1 hp => ?_)
  obtain ⟨⟨a1, v, rfl⟩, j1, s1⟩ := hp
  refine ⟨v, rfl, iv_C_mono (br_and3 tp_C tp_Cs (by decide +kernel) (iv_C_r (fd_r hL (by decide) (tp_rr s1 c) (x := x1) (y := y)) (pb_286 hv (by decide) j1) (fun r hr => by obtain ⟨w, e, -⟩ := hr; exact ⟨w, e⟩)) (pb_286 hv (by decide) j1)) (fun r2 μ2 hp2 => ?_)⟩
  obtain ⟨⟨a2, w, rfl⟩, j2, s2⟩ := hp2
  exact ⟨w, rfl, j2, _, _, tp_rd s2 a1, a2⟩
theorem ar_21 (hL : L ≤ 3072) (hv : vz.category = 1) : lq_p21 L xs vz (p23_J L xs) := by
  intro μ x1 hx1 hJ
  obtain ⟨-, b, n, a, c⟩ := id hJ
  refine iv_C_mono (br_and3 tp_R tp_Rs (by decide +kernel) (tx_c hL hv (by decide) a (x := x1)) (pb_130 hv (by decide) hJ.1)) (fun r μ1 hp => ?_)
  obtain ⟨⟨⟨v, rfl, hv1⟩, a1⟩, j1, s1⟩ := hp
  refine ⟨v, rfl, iv_C_mono (br_and3 tp_C tp_Cs (by decide +kernel) (tx_r hL (by decide) (tp_rr s1 c) (x := x1)) (pb_287 hv (by decide) j1)) (fun r2 μ2 hp2 => ?_)⟩
  obtain ⟨⟨⟨w, rfl, hw1⟩, a2⟩, j2, s2⟩ := hp2
  exact ⟨w, rfl, tx_A_one hv1 hw1, j2, _, _, tp_rd s2 a1, a2⟩
theorem ar_22 (hL : L ≤ 3072) (hv : vz.category = 1) : lq_p22 L xs vz (p23_J L xs) := by
  intro μ x1 x2 hx1 hx2 hJ
  refine iv_C_mono (pb_165 hv (by decide) hJ.1) (fun r μ1 hp => ?_)
  obtain ⟨j1, f1, v, rfl, -⟩ := hp
  refine ⟨v, rfl, iv_C_mono (pb_301 hv (by decide) j1) (fun r2 μ2 hp2 => ?_)⟩
  obtain ⟨j2, f2, w, rfl, -⟩ := hp2
  exact ⟨w, rfl, p23_keep hJ j2 (rl_same_tr (rl_same_of (by decide +kernel) f1) (rl_same_of (by decide +kernel) f2)) (rl_same_tr (rl_same_of (by decide +kernel) f1) (rl_same_of (by decide +kernel) f2))⟩
theorem ar_23 (hL : L ≤ 3072) (hv : vz.category = 1) : lq_p23 L xs vz (p23_J L xs) := by
  intro μ x1 hx1 hJ
  refine iv_C_mono (pb_167 hv (by decide) hJ.1) (fun r μ1 hp => ?_)
  obtain ⟨j1, f1, v, rfl, -⟩ := hp
  refine ⟨v, rfl, iv_C_mono (pb_302 hv (by decide) j1) (fun r2 μ2 hp2 => ?_)⟩
  obtain ⟨j2, f2, w, rfl, -⟩ := hp2
  exact ⟨w, rfl, p23_keep hJ j2 (rl_same_tr (rl_same_of (by decide +kernel) f1) (rl_same_of (by decide +kernel) f2)) (rl_same_tr (rl_same_of (by decide +kernel) f1) (rl_same_of (by decide +kernel) f2))⟩
theorem ar_24 (hL : L ≤ 3072) (hv : vz.category = 1) : lq_p24 L xs vz (p23_J L xs) := by
  intro μ x1 x2 hx1 hx2 hJ
  refine iv_C_mono (pb_169 hv (by decide) hJ.1) (fun r μ1 hp => ?_)
  obtain ⟨j1, f1, v, rfl, -⟩ := hp
  refine ⟨v, rfl, iv_C_mono (pb_310 hv (by decide) j1) (fun r2 μ2 hp2 => ?_)⟩
  obtain ⟨j2, f2, w, rfl, -⟩ := hp2
  exact ⟨w, rfl, p23_keep hJ j2 (rl_same_tr (rl_same_of (by decide +kernel) f1) (rl_same_of (by decide +kernel) f2)) (rl_same_tr (rl_same_of (by decide +kernel) f1) (rl_same_of (by decide +kernel) f2))⟩
theorem ar_25 (hL : L ≤ 3072) (hv : vz.category = 1) : lq_p25 L xs vz (p23_J L xs) := by
  intro μ x1 x2 hx1 hx2 hJ
  refine iv_C_mono (pb_170 hv (by decide) hJ.1) (fun r μ1 hp => ?_)
  obtain ⟨j1, f1, v, rfl, -⟩ := hp
  refine ⟨v, rfl, iv_C_mono (pb_311 hv (by decide) j1) (fun r2 μ2 hp2 => ?_)⟩
  obtain ⟨j2, f2, w, rfl, -⟩ := hp2
  exact ⟨w, rfl, p23_keep hJ j2 (rl_same_tr (rl_same_of (by decide +kernel) f1) (rl_same_of (by decide +kernel) f2)) (rl_same_tr (rl_same_of (by decide +kernel) f1) (rl_same_of (by decide +kernel) f2))⟩
theorem ar_26 (hL : L ≤ 3072) (hv : vz.category = 1) : lq_p26 L xs vz (p23_J L xs) := by
  intro μ x1 hx1 hJ
  refine iv_C_mono (pb_172 hv (by decide) hJ.1) (fun r μ1 hp => ?_)
  obtain ⟨j1, f1, v, rfl, -⟩ := hp
  refine ⟨v, rfl, iv_C_mono (pb_312 hv (by decide) j1) (fun r2 μ2 hp2 => ?_)⟩
  obtain ⟨j2, f2, w, rfl, -⟩ := hp2
  exact ⟨w, rfl, p23_keep hJ j2 (rl_same_tr (rl_same_of (by decide +kernel) f1) (rl_same_of (by decide +kernel) f2)) (rl_same_tr (rl_same_of (by decide +kernel) f1) (rl_same_of (by decide +kernel) f2))⟩
theorem ar_27 (hL : L ≤ 3072) (hv : vz.category = 1) : lq_p27 L xs vz (p23_J L xs) := by
  intro μ x1 hx1 hJ
  refine iv_C_mono (pb_174 hv (by decide) hJ.1) (fun r μ1 hp => ?_)
  obtain ⟨j1, f1, v, rfl, -⟩ := hp
  refine ⟨v, rfl, iv_C_mono (pb_267 hv (by decide) j1) (fun r2 μ2 hp2 => ?_)⟩
  obtain ⟨j2, f2, w, rfl, -⟩ := hp2
  exact ⟨w, rfl, p23_keep hJ j2 (rl_same_tr (rl_same_of (by decide +kernel) f1) (rl_same_of (by decide +kernel) f2)) (rl_same_tr (rl_same_of (by decide +kernel) f1) (rl_same_of (by decide +kernel) f2))⟩
theorem ar_28 (hL : L ≤ 3072) (hv : vz.category = 1) : lq_p28 L xs vz (p23_J L xs) := by
  intro μ x1 x2 hx1 hx2 hJ
  refine iv_C_mono (pb_176 hv (by decide) hJ.1) (fun r μ1 hp => ?_)
  obtain ⟨j1, f1, v, rfl, -⟩ := hp
  refine ⟨v, rfl, iv_C_mono (pb_268 hv (by decide) j1) (fun r2 μ2 hp2 => ?_)⟩
  obtain ⟨j2, f2, w, rfl, -⟩ := hp2
  exact ⟨w, rfl, p23_keep hJ j2 (rl_same_tr (rl_same_of (by decide +kernel) f1) (rl_same_of (by decide +kernel) f2)) (rl_same_tr (rl_same_of (by decide +kernel) f1) (rl_same_of (by decide +kernel) f2))⟩
theorem ar_29 (hL : L ≤ 3072) (hv : vz.category = 1) : lq_p29 L xs vz (p23_J L xs) := by
  intro μ x1 x2 hx1 hx2 hJ
  refine iv_C_mono (pb_178 hv (by decide) hJ.1) (fun r μ1 hp => ?_)
  obtain ⟨j1, f1, v, rfl, -⟩ := hp
  refine ⟨v, rfl, iv_C_mono (pb_313 hv (by decide) j1) (fun r2 μ2 hp2 => ?_)⟩
  obtain ⟨j2, f2, w, rfl, -⟩ := hp2
  exact ⟨w, rfl, p23_keep hJ j2 (rl_same_tr (rl_same_of (by decide +kernel) f1) (rl_same_of (by decide +kernel) f2)) (rl_same_tr (rl_same_of (by decide +kernel) f1) (rl_same_of (by decide +kernel) f2))⟩
theorem ar_30 (hL : L ≤ 3072) (hv : vz.category = 1) : lq_p30 L xs vz (p23_J L xs) := by
  intro μ x1 b hx1 hb hJ
  refine iv_C_mono (pb_186 hv (by decide) hJ.1 hb) (fun r μ1 hp => ?_)
  obtain ⟨j1, f1, v, rfl, -⟩ := hp
  refine ⟨v, rfl, iv_C_mono (pb_316 hv (by decide) j1 hb) (fun r2 μ2 hp2 => ?_)⟩
  obtain ⟨j2, f2, w, rfl, -⟩ := hp2
  exact ⟨w, rfl, p23_keep hJ j2 (rl_same_tr (rl_same_of (by decide +kernel) f1) (rl_same_of (by decide +kernel) f2)) (rl_same_tr (rl_same_of (by decide +kernel) f1) (rl_same_of (by decide +kernel) f2))⟩
theorem ar_31 (hL : L ≤ 3072) (hv : vz.category = 1) : lq_p31 L xs vz (p23_J L xs) := by
  intro μ x1 x2 x3 hx1 hx2 hx3 hJ
  refine iv_C_mono (pb_190 hv (by decide) hJ.1) (fun r μ1 hp => ?_)
  obtain ⟨j1, f1, v, rfl, -⟩ := hp
  refine ⟨v, rfl, iv_C_mono (pb_318 hv (by decide) j1) (fun r2 μ2 hp2 => ?_)⟩
  obtain ⟨j2, f2, w, rfl, -⟩ := hp2
  exact ⟨w, rfl, p23_keep hJ j2 (rl_same_tr (rl_same_of (by decide +kernel) f1) (rl_same_of (by decide +kernel) f2)) (rl_same_tr (rl_same_of (by decide +kernel) f1) (rl_same_of (by decide +kernel) f2))⟩
theorem ar_32 (hL : L ≤ 3072) (hv : vz.category = 1) : lq_p32 L xs vz (p23_J L xs) := by
  intro μ x1 x2 hx1 hx2 hJ
  refine iv_C_mono (pb_192 hv (by decide) hJ.1) (fun r μ1 hp => ?_)
  obtain ⟨j1, f1, v, rfl, -⟩ := hp
  refine ⟨v, rfl, iv_C_mono (pb_319 hv (by decide) j1) (fun r2 μ2 hp2 => ?_)⟩
  obtain ⟨j2, f2, w, rfl, -⟩ := hp2
  exact ⟨w, rfl, p23_keep hJ j2 (rl_same_tr (rl_same_of (by decide +kernel) f1) (rl_same_of (by decide +kernel) f2)) (rl_same_tr (rl_same_of (by decide +kernel) f1) (rl_same_of (by decide +kernel) f2))⟩
theorem ar_33 (hL : L ≤ 3072) (hv : vz.category = 1) : lq_p33 L xs vz (p23_J L xs) := by
  intro μ x1 x2 hx1 hx2 hJ
  refine iv_C_mono (pb_197 hv (by decide) hJ.1) (fun r μ1 hp => ?_)
  obtain ⟨j1, f1, v, rfl, -⟩ := hp
  refine ⟨v, rfl, iv_C_mono (pb_323 hv (by decide) j1) (fun r2 μ2 hp2 => ?_)⟩
  obtain ⟨j2, f2, w, rfl, -⟩ := hp2
  exact ⟨w, rfl, p23_keep hJ j2 (rl_same_tr (rl_same_of (by decide +kernel) f1) (rl_same_of (by decide +kernel) f2)) (rl_same_tr (rl_same_of (by decide +kernel) f1) (rl_same_of (by decide +kernel) f2))⟩
theorem ar_34 (hL : L ≤ 3072) (hv : vz.category = 1) : lq_p34 L xs vz (p23_J L xs) := by
  intro μ x1 x2 x3 hx1 hx2 hx3 hJ
  refine iv_C_mono (pb_199 hv (by decide) hJ.1) (fun r μ1 hp => ?_)
  obtain ⟨j1, f1, v, rfl, -⟩ := hp
  refine ⟨v, rfl, iv_C_mono (pb_324 hv (by decide) j1) (fun r2 μ2 hp2 => ?_)⟩
  obtain ⟨j2, f2, w, rfl, -⟩ := hp2
  exact ⟨w, rfl, p23_keep hJ j2 (rl_same_tr (rl_same_of (by decide +kernel) f1) (rl_same_of (by decide +kernel) f2)) (rl_same_tr (rl_same_of (by decide +kernel) f1) (rl_same_of (by decide +kernel) f2))⟩
theorem ar_35 (hL : L ≤ 3072) (hv : vz.category = 1) : lq_p35 L xs vz (p23_J L xs) := by
  intro μ x1 x2 x3 hx1 hx2 hx3 hJ
  refine iv_C_mono (pb_201 hv (by decide) hJ.1) (fun r μ1 hp => ?_)
  obtain ⟨j1, f1, v, rfl, -⟩ := hp
  refine ⟨v, rfl, iv_C_mono (pb_325 hv (by decide) j1) (fun r2 μ2 hp2 => ?_)⟩
  obtain ⟨j2, f2, w, rfl, -⟩ := hp2
  exact ⟨w, rfl, p23_keep hJ j2 (rl_same_tr (rl_same_of (by decide +kernel) f1) (rl_same_of (by decide +kernel) f2)) (rl_same_tr (rl_same_of (by decide +kernel) f1) (rl_same_of (by decide +kernel) f2))⟩
theorem ar_36 (hL : L ≤ 3072) (hv : vz.category = 1) : lq_p36 L xs vz (p23_J L xs) := by
  intro μ x1 x2 x3 x4 x5 hx1 hx2 hx3 hx4 hx5 hJ
  refine iv_C_mono (pb_203 hv (by decide) hJ.1) (fun r μ1 hp => ?_)
  obtain ⟨j1, f1, v, rfl, -⟩ := hp
  refine ⟨v, rfl, iv_C_mono (pb_326 hv (by decide) j1) (fun r2 μ2 hp2 => ?_)⟩
  obtain ⟨j2, f2, w, rfl, -⟩ := hp2
  exact ⟨w, rfl, p23_keep hJ j2 (rl_same_tr (rl_same_of (by decide +kernel) f1) (rl_same_of (by decide +kernel) f2)) (rl_same_tr (rl_same_of (by decide +kernel) f1) (rl_same_of (by decide +kernel) f2))⟩
theorem ar_37 (hL : L ≤ 3072) (hv : vz.category = 1) : lq_p37 L xs vz (p23_J L xs) := by
  intro μ hJ
  refine iv_C_mono (pb_205 hv (by decide) hJ.1) (fun r μ1 hp => ?_)
  obtain ⟨j1, f1, v, rfl, -⟩ := hp
  refine ⟨v, rfl, iv_C_mono (pb_327 hv (by decide) j1) (fun r2 μ2 hp2 => ?_)⟩
  obtain ⟨j2, f2, w, rfl, -⟩ := hp2
  exact ⟨w, rfl, p23_keep hJ j2 (rl_same_tr (rl_same_of (by decide +kernel) f1) (rl_same_of (by decide +kernel) f2)) (rl_same_tr (rl_same_of (by decide +kernel) f1) (rl_same_of (by decide +kernel) f2))⟩
theorem ar_38 (hL : L ≤ 3072) (hv : vz.category = 1) : lq_p38 L xs vz (p23_J L xs) := by
  intro μ hJ
  refine iv_C_mono (pb_212 hv (by decide) hJ.1) (fun r μ1 hp => ?_)
  obtain ⟨j1, f1, v, rfl, -⟩ := hp
  refine ⟨v, rfl, iv_C_mono (pb_328 hv (by decide) j1) (fun r2 μ2 hp2 => ?_)⟩
  obtain ⟨j2, f2, w, rfl, -⟩ := hp2
  exact ⟨w, rfl, p23_keep hJ j2 (rl_same_tr (rl_same_of (by decide +kernel) f1) (rl_same_of (by decide +kernel) f2)) (rl_same_tr (rl_same_of (by decide +kernel) f1) (rl_same_of (by decide +kernel) f2))⟩
theorem ar_39 (hL : L ≤ 3072) (hv : vz.category = 1) : lq_p39 L xs vz (p23_J L xs) := by
  intro μ x1 hx1 hJ
  refine iv_C_mono (pb_213 hv (by decide) hJ.1) (fun r μ1 hp => ?_)
  obtain ⟨j1, f1, v, rfl, -⟩ := hp
  refine ⟨v, rfl, iv_C_mono (pb_329 hv (by decide) j1) (fun r2 μ2 hp2 => ?_)⟩
  obtain ⟨j2, f2, w, rfl, -⟩ := hp2
  exact ⟨w, rfl, p23_keep hJ j2 (rl_same_tr (rl_same_of (by decide +kernel) f1) (rl_same_of (by decide +kernel) f2)) (rl_same_tr (rl_same_of (by decide +kernel) f1) (rl_same_of (by decide +kernel) f2))⟩
theorem p23_all (hL : L ≤ 3072) (hv : vz.category = 1) : lq_all L xs vz (p23_J L xs) := ⟨ar_0 hL hv, ar_1 hL hv, ar_2 hL hv, ar_3 hL hv, ar_4 hL hv, ar_5 hL hv, ar_6 hL hv, ar_7 hL hv, ar_8 hL hv, ar_9 hL hv, ar_10 hL hv, ar_11 hL hv, ar_12 hL hv, ar_13 hL hv, ar_14 hL hv, ar_15 hL hv, ar_16 hL hv, ar_17 hL hv, ar_18 hL hv, ar_19 hL hv, ar_20 hL hv, ar_21 hL hv, ar_22 hL hv, ar_23 hL hv, ar_24 hL hv, ar_25 hL hv, ar_26 hL hv, ar_27 hL hv, ar_28 hL hv, ar_29 hL hv, ar_30 hL hv, ar_31 hL hv, ar_32 hL hv, ar_33 hL hv, ar_34 hL hv, ar_35 hL hv, ar_36 hL hv, ar_37 hL hv, ar_38 hL hv, ar_39 hL hv⟩
end P23B
theorem p2_run {L : Nat} {xs : Nat → Int32} (hL : L ≤ 3072) : ∀ v : Value, v.category = 1 → ∃ (n d : Nat) (τ : mm_S), d ≤ 1000 ∧ mm_run 38 (mm_zs v) n d (13, code, 4, false) (0, [(0, .ref 0)], [], mm_m0 L xs, 600000, 7302250) = some τ ∧ τ.2.2.1 = [.int 1] ∧ decode code τ.1 = .ok (.ireturn, 1) :=
  iv_prun hL (J := p23_J L xs) p23_start (fun _ hv => p23_all hL hv)
