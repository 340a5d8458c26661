/-! ===== printed by wip/iv/gen_p4b.py: every pair of calls keeps the kinds of floats alike ===== -/
section P4C
variable {L : Nat} {xs : Nat → Int32} {vz : Value}
theorem ar_0 (hL : L ≤ 3072) (hv : vz.category = 1) : lq_p0 L xs vz (p4_J L xs) := by
  intro μ x1 x2 x3 hx1 hx2 hx3 hJ
  refine iv_C_mono (pb_12 hv (by decide) hJ.1) (fun r μ1 hp => ?_)
  obtain ⟨j1, f1, v, rfl, -⟩ := hp
  refine ⟨v, rfl, iv_C_mono (pb_219 hv (by decide) j1) (fun r2 μ2 hp2 => ?_)⟩
  obtain ⟨j2, f2, w, rfl, -⟩ := hp2
  exact ⟨w, rfl, p4_keep hJ j2 (fA_tr (fA_of (by decide +kernel) f1) (fA_of (by decide +kernel) f2)) (fB_tr (fB_of (by decide +kernel) f1) (fB_of (by decide +kernel) f2)) (fC_tr (fC_of (by decide +kernel) f1) (fC_of (by decide +kernel) f2)) (fD_tr (fD_of (by decide +kernel) f1) (fD_of (by decide +kernel) f2)) (fE_tr (fE_of (by decide +kernel) f1) (fE_of (by decide +kernel) f2)) (fF_tr (fF_of (by decide +kernel) f1) (fF_of (by decide +kernel) f2)) (fG_tr (fG_of (by decide +kernel) f1) (fG_of (by decide +kernel) f2))⟩
theorem ar_1 (hL : L ≤ 3072) (hv : vz.category = 1) : lq_p1 L xs vz (p4_J L xs) := by
  intro μ x1 x2 x3 x4 hx1 hx2 hx3 hx4 hJ
  refine iv_C_N (fun hN _ => ?_)
  have hc := kn0 hJ.1 hN
  rw [← hJ.2.1] at hc
  refine iv_C_mono (br_and (raft_c hL (by decide) hc) (pb_17 hv (by decide) hJ.1) (fun r hr => by obtain ⟨w, e, -⟩ := hr; exact ⟨w, e⟩)) (fun r μ1 hp => ?_)
  obtain ⟨q, j1, cA1, cB1, cC1, cD1, cE1, cF1, cG1, v, rfl⟩ := hp
  refine ⟨v, rfl, iv_C_mono (br_and (raft_r hL (by decide) j1) (pb_222 hv (by decide) j1) (fun r hr => by obtain ⟨w, e, -⟩ := hr; exact ⟨w, e⟩)) (fun r2 μ2 hp2 => ?_)⟩
  obtain ⟨q2, j2, cA2, cB2, cC2, cD2, cE2, cF2, cG2, w, rfl⟩ := hp2
  refine ⟨w, rfl, ?_⟩
  have D1 : μ1 196 0 = μ 196 0 := cD1 (by decide +kernel)
  have E1 := cE1 (by decide +kernel)
  have A2 := cA2 (by decide +kernel)
  have B := fB_tr (cB1 (by decide +kernel)) (cB2 (by decide +kernel))
  have C := fC_tr (cC1 (by decide +kernel)) (cC2 (by decide +kernel))
  have F := fF_tr (cF1 (by decide +kernel)) (cF2 (by decide +kernel))
  have G := fG_tr (cG1 (by decide +kernel)) (cG2 (by decide +kernel))
  by_cases hr : rok (μ 39 2) x1 x2 x3 x4
  · obtain ⟨a1, a2⟩ := q.1 hr
    obtain ⟨b1, b2⟩ := q2.1 (by rw [D1, ← hJ.2.1]; exact hr)
    refine ⟨j2, by rw [A2.1, a1, b1, D1, hJ.2.1], by rw [B.1, F.1, hJ.2.2.1], by rw [(show μ2 38 2 = μ 38 2 from C), (show μ2 195 2 = μ 195 2 from G), hJ.2.2.2.1], fun i i0 i1 => ?_, fun i i0 i1 => ?_⟩
    · rw [A2.2 i i0 i1, a2 i i0 i1, b2 i i0 i1, E1 i i0 i1, D1, ← hJ.2.1]
      by_cases hi : i = μ 39 2
      · rw [if_pos hi, if_pos hi]
        exact ⟨rfl, hr.1, hr.2.1⟩
      · rw [if_neg hi, if_neg hi]
        exact hJ.2.2.2.2.1 i i0 i1
    · rw [B.2 i i0 i1, F.2 i i0 i1]
      exact hJ.2.2.2.2.2 i i0 i1
  · obtain ⟨a1, a2⟩ := q.2 hr
    obtain ⟨b1, b2⟩ := q2.2 (by rw [D1, ← hJ.2.1]; exact hr)
    exact p4_keep hJ j2 (fA_tr ⟨a1, a2⟩ A2) B C (fD_tr D1 b1) (fE_tr E1 b2) F G
theorem ar_2 (hL : L ≤ 3072) (hv : vz.category = 1) : lq_p2 L xs vz (p4_J L xs) := by
  intro μ x1 x2 hx1 hx2 hJ
  refine iv_C_N (fun hN _ => ?_)
  have hc := kn0 hJ.1 hN
  rw [← hJ.2.1] at hc
  refine iv_C_mono (br_and (as_c hL (by decide) hc (fun i i0 i1 => (hJ.2.2.2.2.1 i i0 i1).2)) (pb_22 hv (by decide) hJ.1) (fun r hr => by obtain ⟨w, e, -⟩ := hr; exact ⟨w, e⟩)) (fun r μ1 hp => ?_)
  obtain ⟨q, j1, cA1, cB1, cC1, cD1, cE1, cF1, cG1, v, rfl⟩ := hp
  refine ⟨v, rfl, iv_C_mono (br_and (as_r hL (by decide) j1) (pb_224 hv (by decide) j1) (fun r hr => by obtain ⟨w, e, -⟩ := hr; exact ⟨w, e⟩)) (fun r2 μ2 hp2 => ?_)⟩
  obtain ⟨q2, j2, cA2, cB2, cC2, cD2, cE2, cF2, cG2, w, rfl⟩ := hp2
  refine ⟨w, rfl, ?_, ?_⟩
  · have e1 := congrArg Prod.snd (Option.some.inj q)
    have e2 := congrArg Prod.snd (Option.some.inj q2)
    dsimp only at e1 e2
    have D1 : μ1 196 0 = μ 196 0 := cD1 (by decide +kernel)
    have E1 := cE1 (by decide +kernel)
    have h0 := hJ.2.1
    rw [e1, e2, D1, ← h0]
    by_cases ha : 0 ≤ x1 ∧ x1 < 10
    · rw [E1 x1 ha.1 ha.2, (hJ.2.2.2.2.1 x1 ha.1 ha.2).1]
    · unfold asf
      rw [if_pos (by omega), if_pos (by omega)]
  · exact p4_keep hJ j2 (fA_tr (cA1 (by decide +kernel)) (cA2 (by decide +kernel))) (fB_tr (cB1 (by decide +kernel)) (cB2 (by decide +kernel))) (fC_tr (cC1 (by decide +kernel)) (cC2 (by decide +kernel))) (fD_tr (cD1 (by decide +kernel)) (cD2 (by decide +kernel))) (fE_tr (cE1 (by decide +kernel)) (cE2 (by decide +kernel))) (fF_tr (cF1 (by decide +kernel)) (cF2 (by decide +kernel))) (fG_tr (cG1 (by decide +kernel)) (cG2 (by decide +kernel)))
theorem ar_3 (hL : L ≤ 3072) (hv : vz.category = 1) : lq_p3 L xs vz (p4_J L xs) := by
  intro μ x1 x2 hx1 hx2 hJ
  refine iv_C_mono (pb_25 hv (by decide) hJ.1) (fun r μ1 hp => ?_)
  obtain ⟨j1, f1, v, rfl, -⟩ := hp
  refine ⟨v, rfl, iv_C_mono (pb_227 hv (by decide) j1) (fun r2 μ2 hp2 => ?_)⟩
  obtain ⟨j2, f2, w, rfl, -⟩ := hp2
  exact ⟨w, rfl, p4_keep hJ j2 (fA_tr (fA_of (by decide +kernel) f1) (fA_of (by decide +kernel) f2)) (fB_tr (fB_of (by decide +kernel) f1) (fB_of (by decide +kernel) f2)) (fC_tr (fC_of (by decide +kernel) f1) (fC_of (by decide +kernel) f2)) (fD_tr (fD_of (by decide +kernel) f1) (fD_of (by decide +kernel) f2)) (fE_tr (fE_of (by decide +kernel) f1) (fE_of (by decide +kernel) f2)) (fF_tr (fF_of (by decide +kernel) f1) (fF_of (by decide +kernel) f2)) (fG_tr (fG_of (by decide +kernel) f1) (fG_of (by decide +kernel) f2))⟩
theorem ar_4 (hL : L ≤ 3072) (hv : vz.category = 1) : lq_p4 L xs vz (p4_J L xs) := by
  intro μ x1 x2 b hx1 hx2 hb hJ
  refine iv_C_mono (pb_38 hv (by decide) hJ.1 hb) (fun r μ1 hp => ?_)
  obtain ⟨j1, f1, v, rfl, -⟩ := hp
  refine ⟨v, rfl, iv_C_mono (br_and (k_load hL (by decide) j1) (pb_238 hv (by decide) j1 hb) (fun r hr => by obtain ⟨w, e, -⟩ := hr; exact ⟨w, e⟩)) (fun r2 μ2 hp2 => ?_)⟩
  obtain ⟨q, j2, cA2, cB2, cC2, cD2, cE2, cF2, cG2, w, rfl⟩ := hp2
  exact ⟨w, rfl, p4_keep hJ j2 (fA_tr (fA_of (by decide +kernel) f1) (cA2 (by decide +kernel))) (fB_tr (fB_of (by decide +kernel) f1) (cB2 (by decide +kernel))) (fC_tr (fC_of (by decide +kernel) f1) (cC2 (by decide +kernel))) (fD_tr (fD_of (by decide +kernel) f1) (cD2 (by decide +kernel))) (fE_tr (fE_of (by decide +kernel) f1) (fE_k (kq_31 q))) (fF_tr (fF_of (by decide +kernel) f1) (cF2 (by decide +kernel))) (fG_tr (fG_of (by decide +kernel) f1) (cG2 (by decide +kernel)))⟩
theorem ar_5 (hL : L ≤ 3072) (hv : vz.category = 1) : lq_p5 L xs vz (p4_J L xs) := by
  intro μ x1 x2 x3 b hx1 hx2 hx3 hb hJ
  refine iv_C_mono (pb_42 hv (by decide) hJ.1 hb) (fun r μ1 hp => ?_)
  obtain ⟨j1, f1, v, rfl, -⟩ := hp
  refine ⟨v, rfl, iv_C_mono (br_and (k_trade hL hv (by decide) j1) (pb_241 hv (by decide) j1 hb) (fun r hr => by obtain ⟨w, e, -⟩ := hr; exact ⟨w, e⟩)) (fun r2 μ2 hp2 => ?_)⟩
  obtain ⟨q, j2, cA2, cB2, cC2, cD2, cE2, cF2, cG2, w, rfl⟩ := hp2
  exact ⟨w, rfl, p4_keep hJ j2 (fA_tr (fA_of (by decide +kernel) f1) (cA2 (by decide +kernel))) (fB_tr (fB_of (by decide +kernel) f1) (cB2 (by decide +kernel))) (fC_tr (fC_of (by decide +kernel) f1) (cC2 (by decide +kernel))) (fD_tr (fD_of (by decide +kernel) f1) (cD2 (by decide +kernel))) (fE_tr (fE_of (by decide +kernel) f1) (fE_k (kq_31 q))) (fF_tr (fF_of (by decide +kernel) f1) (cF2 (by decide +kernel))) (fG_tr (fG_of (by decide +kernel) f1) (cG2 (by decide +kernel)))⟩
theorem ar_6 (hL : L ≤ 3072) (hv : vz.category = 1) : lq_p6 L xs vz (p4_J L xs) := by
  intro μ x1 x2 x3 x4 hx1 hx2 hx3 hx4 hJ
  refine iv_C_mono (pb_45 hv (by decide) hJ.1) (fun r μ1 hp => ?_)
  obtain ⟨j1, f1, v, rfl, -⟩ := hp
  refine ⟨v, rfl, iv_C_mono (pb_242 hv (by decide) j1) (fun r2 μ2 hp2 => ?_)⟩
  obtain ⟨j2, f2, w, rfl, -⟩ := hp2
  exact ⟨w, rfl, p4_keep hJ j2 (fA_tr (fA_of (by decide +kernel) f1) (fA_of (by decide +kernel) f2)) (fB_tr (fB_of (by decide +kernel) f1) (fB_of (by decide +kernel) f2)) (fC_tr (fC_of (by decide +kernel) f1) (fC_of (by decide +kernel) f2)) (fD_tr (fD_of (by decide +kernel) f1) (fD_of (by decide +kernel) f2)) (fE_tr (fE_of (by decide +kernel) f1) (fE_of (by decide +kernel) f2)) (fF_tr (fF_of (by decide +kernel) f1) (fF_of (by decide +kernel) f2)) (fG_tr (fG_of (by decide +kernel) f1) (fG_of (by decide +kernel) f2))⟩
theorem ar_7 (hL : L ≤ 3072) (hv : vz.category = 1) : lq_p7 L xs vz (p4_J L xs) := by
  intro μ x1 x2 hx1 hx2 hJ
  refine iv_C_mono (pb_49 hv (by decide) hJ.1) (fun r μ1 hp => ?_)
  obtain ⟨j1, f1, v, rfl, -⟩ := hp
  refine ⟨v, rfl, iv_C_mono (pb_243 hv (by decide) j1) (fun r2 μ2 hp2 => ?_)⟩
  obtain ⟨j2, f2, w, rfl, -⟩ := hp2
  exact ⟨w, rfl, p4_keep hJ j2 (fA_tr (fA_of (by decide +kernel) f1) (fA_of (by decide +kernel) f2)) (fB_tr (fB_of (by decide +kernel) f1) (fB_of (by decide +kernel) f2)) (fC_tr (fC_of (by decide +kernel) f1) (fC_of (by decide +kernel) f2)) (fD_tr (fD_of (by decide +kernel) f1) (fD_of (by decide +kernel) f2)) (fE_tr (fE_of (by decide +kernel) f1) (fE_of (by decide +kernel) f2)) (fF_tr (fF_of (by decide +kernel) f1) (fF_of (by decide +kernel) f2)) (fG_tr (fG_of (by decide +kernel) f1) (fG_of (by decide +kernel) f2))⟩
theorem ar_8 (hL : L ≤ 3072) (hv : vz.category = 1) : lq_p8 L xs vz (p4_J L xs) := by
  intro μ x1 x2 hx1 hx2 hJ
  refine iv_C_mono (pb_51 hv (by decide) hJ.1) (fun r μ1 hp => ?_)
  obtain ⟨j1, f1, v, rfl, -⟩ := hp
  refine ⟨v, rfl, iv_C_mono (pb_245 hv (by decide) j1) (fun r2 μ2 hp2 => ?_)⟩
  obtain ⟨j2, f2, w, rfl, -⟩ := hp2
  exact ⟨w, rfl, p4_keep hJ j2 (fA_tr (fA_of (by decide +kernel) f1) (fA_of (by decide +kernel) f2)) (fB_tr (fB_of (by decide +kernel) f1) (fB_of (by decide +kernel) f2)) (fC_tr (fC_of (by decide +kernel) f1) (fC_of (by decide +kernel) f2)) (fD_tr (fD_of (by decide +kernel) f1) (fD_of (by decide +kernel) f2)) (fE_tr (fE_of (by decide +kernel) f1) (fE_of (by decide +kernel) f2)) (fF_tr (fF_of (by decide +kernel) f1) (fF_of (by decide +kernel) f2)) (fG_tr (fG_of (by decide +kernel) f1) (fG_of (by decide +kernel) f2))⟩
theorem ar_9 (hL : L ≤ 3072) (hv : vz.category = 1) : lq_p9 L xs vz (p4_J L xs) := by
  intro μ x1 x2 hx1 hx2 hJ
  refine iv_C_mono (pb_52 hv (by decide) hJ.1) (fun r μ1 hp => ?_)
  obtain ⟨j1, f1, v, rfl, -⟩ := hp
  refine ⟨v, rfl, iv_C_mono (pb_246 hv (by decide) j1) (fun r2 μ2 hp2 => ?_)⟩
  obtain ⟨j2, f2, w, rfl, -⟩ := hp2
  exact ⟨w, rfl, p4_keep hJ j2 (fA_tr (fA_of (by decide +kernel) f1) (fA_of (by decide +kernel) f2)) (fB_tr (fB_of (by decide +kernel) f1) (fB_of (by decide +kernel) f2)) (fC_tr (fC_of (by decide +kernel) f1) (fC_of (by decide +kernel) f2)) (fD_tr (fD_of (by decide +kernel) f1) (fD_of (by decide +kernel) f2)) (fE_tr (fE_of (by decide +kernel) f1) (fE_of (by decide +kernel) f2)) (fF_tr (fF_of (by decide +kernel) f1) (fF_of (by decide +kernel) f2)) (fG_tr (fG_of (by decide +kernel) f1) (fG_of (by decide +kernel) f2))⟩
theorem ar_10 (hL : L ≤ 3072) (hv : vz.category = 1) : lq_p10 L xs vz (p4_J L xs) := by
  intro μ x1 x2 x3 x4 x5 hx1 hx2 hx3 hx4 hx5 hJ
  refine iv_C_mono (pb_56 hv (by decide) hJ.1) (fun r μ1 hp => ?_)
  obtain ⟨j1, f1, v, rfl, -⟩ := hp
  refine ⟨v, rfl, iv_C_mono (pb_252 hv (by decide) j1) (fun r2 μ2 hp2 => ?_)⟩
  obtain ⟨j2, f2, w, rfl, -⟩ := hp2
  exact ⟨w, rfl, p4_keep hJ j2 (fA_tr (fA_of (by decide +kernel) f1) (fA_of (by decide +kernel) f2)) (fB_tr (fB_of (by decide +kernel) f1) (fB_of (by decide +kernel) f2)) (fC_tr (fC_of (by decide +kernel) f1) (fC_of (by decide +kernel) f2)) (fD_tr (fD_of (by decide +kernel) f1) (fD_of (by decide +kernel) f2)) (fE_tr (fE_of (by decide +kernel) f1) (fE_of (by decide +kernel) f2)) (fF_tr (fF_of (by decide +kernel) f1) (fF_of (by decide +kernel) f2)) (fG_tr (fG_of (by decide +kernel) f1) (fG_of (by decide +kernel) f2))⟩
theorem ar_11 (hL : L ≤ 3072) (hv : vz.category = 1) : lq_p11 L xs vz (p4_J L xs) := by
  intro μ x1 hx1 hJ
  refine iv_C_mono (pb_65 hv (by decide) hJ.1) (fun r μ1 hp => ?_)
  obtain ⟨j1, f1, v, rfl, -⟩ := hp
  refine ⟨v, rfl, iv_C_mono (pb_304 hv (by decide) j1) (fun r2 μ2 hp2 => ?_)⟩
  obtain ⟨j2, f2, w, rfl, -⟩ := hp2
  exact ⟨w, rfl, p4_keep hJ j2 (fA_tr (fA_of (by decide +kernel) f1) (fA_of (by decide +kernel) f2)) (fB_tr (fB_of (by decide +kernel) f1) (fB_of (by decide +kernel) f2)) (fC_tr (fC_of (by decide +kernel) f1) (fC_of (by decide +kernel) f2)) (fD_tr (fD_of (by decide +kernel) f1) (fD_of (by decide +kernel) f2)) (fE_tr (fE_of (by decide +kernel) f1) (fE_of (by decide +kernel) f2)) (fF_tr (fF_of (by decide +kernel) f1) (fF_of (by decide +kernel) f2)) (fG_tr (fG_of (by decide +kernel) f1) (fG_of (by decide +kernel) f2))⟩
theorem ar_12 (hL : L ≤ 3072) (hv : vz.category = 1) : lq_p12 L xs vz (p4_J L xs) := by
  intro μ x1 x2 hx1 hx2 hJ
  refine iv_C_mono (pb_93 hv (by decide) hJ.1) (fun r μ1 hp => ?_)
  obtain ⟨j1, f1, v, rfl, -⟩ := hp
  refine ⟨v, rfl, iv_C_mono (pb_256 hv (by decide) j1) (fun r2 μ2 hp2 => ?_)⟩
  obtain ⟨j2, f2, w, rfl, -⟩ := hp2
  exact ⟨w, rfl, p4_keep hJ j2 (fA_tr (fA_of (by decide +kernel) f1) (fA_of (by decide +kernel) f2)) (fB_tr (fB_of (by decide +kernel) f1) (fB_of (by decide +kernel) f2)) (fC_tr (fC_of (by decide +kernel) f1) (fC_of (by decide +kernel) f2)) (fD_tr (fD_of (by decide +kernel) f1) (fD_of (by decide +kernel) f2)) (fE_tr (fE_of (by decide +kernel) f1) (fE_of (by decide +kernel) f2)) (fF_tr (fF_of (by decide +kernel) f1) (fF_of (by decide +kernel) f2)) (fG_tr (fG_of (by decide +kernel) f1) (fG_of (by decide +kernel) f2))⟩
theorem ar_13 (hL : L ≤ 3072) (hv : vz.category = 1) : lq_p13 L xs vz (p4_J L xs) := by
  intro μ x1 x2 hx1 hx2 hJ
  refine iv_C_mono (pb_94 hv (by decide) hJ.1) (fun r μ1 hp => ?_)
  obtain ⟨j1, f1, v, rfl, -⟩ := hp
  refine ⟨v, rfl, iv_C_mono (pb_262 hv (by decide) j1) (fun r2 μ2 hp2 => ?_)⟩
  obtain ⟨j2, f2, w, rfl, -⟩ := hp2
  exact ⟨w, rfl, p4_keep hJ j2 (fA_tr (fA_of (by decide +kernel) f1) (fA_of (by decide +kernel) f2)) (fB_tr (fB_of (by decide +kernel) f1) (fB_of (by decide +kernel) f2)) (fC_tr (fC_of (by decide +kernel) f1) (fC_of (by decide +kernel) f2)) (fD_tr (fD_of (by decide +kernel) f1) (fD_of (by decide +kernel) f2)) (fE_tr (fE_of (by decide +kernel) f1) (fE_of (by decide +kernel) f2)) (fF_tr (fF_of (by decide +kernel) f1) (fF_of (by decide +kernel) f2)) (fG_tr (fG_of (by decide +kernel) f1) (fG_of (by decide +kernel) f2))⟩
theorem ar_14 (hL : L ≤ 3072) (hv : vz.category = 1) : lq_p14 L xs vz (p4_J L xs) := by
  intro μ hJ
  refine iv_C_mono (pb_96 hv (by decide) hJ.1) (fun r μ1 hp => ?_)
  obtain ⟨j1, f1, v, rfl, -⟩ := hp
  refine ⟨v, rfl, iv_C_mono (pb_249 hv (by decide) j1) (fun r2 μ2 hp2 => ?_)⟩
  obtain ⟨j2, f2, w, rfl, -⟩ := hp2
  exact ⟨w, rfl, p4_keep hJ j2 (fA_tr (fA_of (by decide +kernel) f1) (fA_of (by decide +kernel) f2)) (fB_tr (fB_of (by decide +kernel) f1) (fB_of (by decide +kernel) f2)) (fC_tr (fC_of (by decide +kernel) f1) (fC_of (by decide +kernel) f2)) (fD_tr (fD_of (by decide +kernel) f1) (fD_of (by decide +kernel) f2)) (fE_tr (fE_of (by decide +kernel) f1) (fE_of (by decide +kernel) f2)) (fF_tr (fF_of (by decide +kernel) f1) (fF_of (by decide +kernel) f2)) (fG_tr (fG_of (by decide +kernel) f1) (fG_of (by decide +kernel) f2))⟩
theorem ar_15 (hL : L ≤ 3072) (hv : vz.category = 1) : lq_p15 L xs vz (p4_J L xs) := by
  intro μ x1 hx1 hJ
  refine iv_C_mono (pb_97 hv (by decide) hJ.1) (fun r μ1 hp => ?_)
  obtain ⟨j1, f1, v, rfl, -⟩ := hp
  refine ⟨v, rfl, iv_C_mono (pb_251 hv (by decide) j1) (fun r2 μ2 hp2 => ?_)⟩
  obtain ⟨j2, f2, w, rfl, -⟩ := hp2
  exact ⟨w, rfl, p4_keep hJ j2 (fA_tr (fA_of (by decide +kernel) f1) (fA_of (by decide +kernel) f2)) (fB_tr (fB_of (by decide +kernel) f1) (fB_of (by decide +kernel) f2)) (fC_tr (fC_of (by decide +kernel) f1) (fC_of (by decide +kernel) f2)) (fD_tr (fD_of (by decide +kernel) f1) (fD_of (by decide +kernel) f2)) (fE_tr (fE_of (by decide +kernel) f1) (fE_of (by decide +kernel) f2)) (fF_tr (fF_of (by decide +kernel) f1) (fF_of (by decide +kernel) f2)) (fG_tr (fG_of (by decide +kernel) f1) (fG_of (by decide +kernel) f2))⟩
theorem ar_16 (hL : L ≤ 3072) (hv : vz.category = 1) : lq_p16 L xs vz (p4_J L xs) := by
  intro μ x1 x2 hx1 hx2 hJ
  refine iv_C_mono (pb_98 hv (by decide) hJ.1) (fun r μ1 hp => ?_)
  obtain ⟨j1, f1, v, rfl, -⟩ := hp
  refine ⟨v, rfl, iv_C_mono (pb_265 hv (by decide) j1) (fun r2 μ2 hp2 => ?_)⟩
  obtain ⟨j2, f2, w, rfl, -⟩ := hp2
  exact ⟨w, rfl, p4_keep hJ j2 (fA_tr (fA_of (by decide +kernel) f1) (fA_of (by decide +kernel) f2)) (fB_tr (fB_of (by decide +kernel) f1) (fB_of (by decide +kernel) f2)) (fC_tr (fC_of (by decide +kernel) f1) (fC_of (by decide +kernel) f2)) (fD_tr (fD_of (by decide +kernel) f1) (fD_of (by decide +kernel) f2)) (fE_tr (fE_of (by decide +kernel) f1) (fE_of (by decide +kernel) f2)) (fF_tr (fF_of (by decide +kernel) f1) (fF_of (by decide +kernel) f2)) (fG_tr (fG_of (by decide +kernel) f1) (fG_of (by decide +kernel) f2))⟩
theorem ar_17 (hL : L ≤ 3072) (hv : vz.category = 1) : lq_p17 L xs vz (p4_J L xs) := by
  intro μ x1 x2 hx1 hx2 hJ
  refine iv_C_mono (pb_102 hv (by decide) hJ.1) (fun r μ1 hp => ?_)
  obtain ⟨j1, f1, v, rfl, -⟩ := hp
  refine ⟨v, rfl, iv_C_mono (br_and (k_day hL hv (by decide) j1) (pb_269 hv (by decide) j1) (fun r hr => by obtain ⟨w, e, -⟩ := hr; exact ⟨w, e⟩)) (fun r2 μ2 hp2 => ?_)⟩
  obtain ⟨q, j2, cA2, cB2, cC2, cD2, cE2, cF2, cG2, w, rfl⟩ := hp2
  exact ⟨w, rfl, p4_keep hJ j2 (fA_tr (fA_of (by decide +kernel) f1) (cA2 (by decide +kernel))) (fB_tr (fB_of (by decide +kernel) f1) (cB2 (by decide +kernel))) (fC_tr (fC_of (by decide +kernel) f1) (cC2 (by decide +kernel))) (fD_tr (fD_of (by decide +kernel) f1) (cD2 (by decide +kernel))) (fE_tr (fE_of (by decide +kernel) f1) (fE_k q)) (fF_tr (fF_of (by decide +kernel) f1) (cF2 (by decide +kernel))) (fG_tr (fG_of (by decide +kernel) f1) (cG2 (by decide +kernel)))⟩
theorem ar_18 (hL : L ≤ 3072) (hv : vz.category = 1) : lq_p18 L xs vz (p4_J L xs) := by
  intro μ x1 x2 hx1 hx2 hJ
  refine iv_C_mono (pb_121 hv (by decide) hJ.1) (fun r μ1 hp => ?_)
  obtain ⟨j1, f1, v, rfl, -⟩ := hp
  refine ⟨v, rfl, iv_C_mono (br_and (k_days hL hv (by decide) j1) (pb_281 hv (by decide) j1) (fun r hr => by obtain ⟨w, e, -⟩ := hr; exact ⟨w, e⟩)) (fun r2 μ2 hp2 => ?_)⟩
  obtain ⟨q, j2, cA2, cB2, cC2, cD2, cE2, cF2, cG2, w, rfl⟩ := hp2
  exact ⟨w, rfl, p4_keep hJ j2 (fA_tr (fA_of (by decide +kernel) f1) (cA2 (by decide +kernel))) (fB_tr (fB_of (by decide +kernel) f1) (cB2 (by decide +kernel))) (fC_tr (fC_of (by decide +kernel) f1) (cC2 (by decide +kernel))) (fD_tr (fD_of (by decide +kernel) f1) (cD2 (by decide +kernel))) (fE_tr (fE_of (by decide +kernel) f1) (fE_k q)) (fF_tr (fF_of (by decide +kernel) f1) (cF2 (by decide +kernel))) (fG_tr (fG_of (by decide +kernel) f1) (cG2 (by decide +kernel)))⟩
theorem ar_19 (hL : L ≤ 3072) (hv : vz.category = 1) : lq_p19 L xs vz (p4_J L xs) := by
  intro μ x1 hx1 hJ
  refine iv_C_mono (pb_125 hv (by decide) hJ.1) (fun r μ1 hp => ?_)
  obtain ⟨j1, f1, v, rfl, -⟩ := hp
  refine ⟨v, rfl, iv_C_mono (pb_283 hv (by decide) j1) (fun r2 μ2 hp2 => ?_)⟩
  obtain ⟨j2, f2, w, rfl, -⟩ := hp2
  exact ⟨w, rfl, p4_keep hJ j2 (fA_tr (fA_of (by decide +kernel) f1) (fA_of (by decide +kernel) f2)) (fB_tr (fB_of (by decide +kernel) f1) (fB_of (by decide +kernel) f2)) (fC_tr (fC_of (by decide +kernel) f1) (fC_of (by decide +kernel) f2)) (fD_tr (fD_of (by decide +kernel) f1) (fD_of (by decide +kernel) f2)) (fE_tr (fE_of (by decide +kernel) f1) (fE_of (by decide +kernel) f2)) (fF_tr (fF_of (by decide +kernel) f1) (fF_of (by decide +kernel) f2)) (fG_tr (fG_of (by decide +kernel) f1) (fG_of (by decide +kernel) f2))⟩
theorem ar_20 (hL : L ≤ 3072) (hv : vz.category = 1) : lq_p20 L xs vz (p4_J L xs) := by
  intro μ x1 y hx1 hy hJ
  refine iv_C_mono (pb_127 hv (by decide) hJ.1) (fun r μ1 hp => ?_)
  obtain ⟨j1, f1, v, rfl, -⟩ := hp
  refine ⟨v, rfl, iv_C_mono (pb_286 hv (by decide) j1) (fun r2 μ2 hp2 => ?_)⟩
  obtain ⟨j2, f2, w, rfl, -⟩ := hp2
  exact ⟨w, rfl, p4_keep hJ j2 (fA_tr (fA_of (by decide +kernel) f1) (fA_of (by decide +kernel) f2)) (fB_tr (fB_of (by decide +kernel) f1) (fB_of (by decide +kernel) f2)) (fC_tr (fC_of (by decide +kernel) f1) (fC_of (by decide +kernel) f2)) (fD_tr (fD_of (by decide +kernel) f1) (fD_of (by decide +kernel) f2)) (fE_tr (fE_of (by decide +kernel) f1) (fE_of (by decide +kernel) f2)) (fF_tr (fF_of (by decide +kernel) f1) (fF_of (by decide +kernel) f2)) (fG_tr (fG_of (by decide +kernel) f1) (fG_of (by decide +kernel) f2))⟩
theorem ar_21 (hL : L ≤ 3072) (hv : vz.category = 1) : lq_p21 L xs vz (p4_J L xs) := by
  intro μ x1 hx1 hJ
  refine iv_C_mono (pb_130 hv (by decide) hJ.1) (fun r μ1 hp => ?_)
  obtain ⟨j1, f1, v, rfl, -⟩ := hp
  refine ⟨v, rfl, iv_C_mono (pb_287 hv (by decide) j1) (fun r2 μ2 hp2 => ?_)⟩
  obtain ⟨j2, f2, w, rfl, -⟩ := hp2
  exact ⟨w, rfl, p4_keep hJ j2 (fA_tr (fA_of (by decide +kernel) f1) (fA_of (by decide +kernel) f2)) (fB_tr (fB_of (by decide +kernel) f1) (fB_of (by decide +kernel) f2)) (fC_tr (fC_of (by decide +kernel) f1) (fC_of (by decide +kernel) f2)) (fD_tr (fD_of (by decide +kernel) f1) (fD_of (by decide +kernel) f2)) (fE_tr (fE_of (by decide +kernel) f1) (fE_of (by decide +kernel) f2)) (fF_tr (fF_of (by decide +kernel) f1) (fF_of (by decide +kernel) f2)) (fG_tr (fG_of (by decide +kernel) f1) (fG_of (by decide +kernel) f2))⟩
theorem ar_22 (hL : L ≤ 3072) (hv : vz.category = 1) : lq_p22 L xs vz (p4_J L xs) := by
  intro μ x1 x2 hx1 hx2 hJ
  refine iv_C_mono (pb_165 hv (by decide) hJ.1) (fun r μ1 hp => ?_)
  obtain ⟨j1, f1, v, rfl, -⟩ := hp
  refine ⟨v, rfl, iv_C_mono (pb_301 hv (by decide) j1) (fun r2 μ2 hp2 => ?_)⟩
  obtain ⟨j2, f2, w, rfl, -⟩ := hp2
  exact ⟨w, rfl, p4_keep hJ j2 (fA_tr (fA_of (by decide +kernel) f1) (fA_of (by decide +kernel) f2)) (fB_tr (fB_of (by decide +kernel) f1) (fB_of (by decide +kernel) f2)) (fC_tr (fC_of (by decide +kernel) f1) (fC_of (by decide +kernel) f2)) (fD_tr (fD_of (by decide +kernel) f1) (fD_of (by decide +kernel) f2)) (fE_tr (fE_of (by decide +kernel) f1) (fE_of (by decide +kernel) f2)) (fF_tr (fF_of (by decide +kernel) f1) (fF_of (by decide +kernel) f2)) (fG_tr (fG_of (by decide +kernel) f1) (fG_of (by decide +kernel) f2))⟩
theorem ar_23 (hL : L ≤ 3072) (hv : vz.category = 1) : lq_p23 L xs vz (p4_J L xs) := by
  intro μ x1 hx1 hJ
  refine iv_C_mono (pb_167 hv (by decide) hJ.1) (fun r μ1 hp => ?_)
  obtain ⟨j1, f1, v, rfl, -⟩ := hp
  refine ⟨v, rfl, iv_C_mono (pb_302 hv (by decide) j1) (fun r2 μ2 hp2 => ?_)⟩
  obtain ⟨j2, f2, w, rfl, -⟩ := hp2
  exact ⟨w, rfl, p4_keep hJ j2 (fA_tr (fA_of (by decide +kernel) f1) (fA_of (by decide +kernel) f2)) (fB_tr (fB_of (by decide +kernel) f1) (fB_of (by decide +kernel) f2)) (fC_tr (fC_of (by decide +kernel) f1) (fC_of (by decide +kernel) f2)) (fD_tr (fD_of (by decide +kernel) f1) (fD_of (by decide +kernel) f2)) (fE_tr (fE_of (by decide +kernel) f1) (fE_of (by decide +kernel) f2)) (fF_tr (fF_of (by decide +kernel) f1) (fF_of (by decide +kernel) f2)) (fG_tr (fG_of (by decide +kernel) f1) (fG_of (by decide +kernel) f2))⟩
theorem ar_24 (hL : L ≤ 3072) (hv : vz.category = 1) : lq_p24 L xs vz (p4_J L xs) := by
  intro μ x1 x2 hx1 hx2 hJ
  refine iv_C_mono (pb_169 hv (by decide) hJ.1) (fun r μ1 hp => ?_)
  obtain ⟨j1, f1, v, rfl, -⟩ := hp
  refine ⟨v, rfl, iv_C_mono (pb_310 hv (by decide) j1) (fun r2 μ2 hp2 => ?_)⟩
  obtain ⟨j2, f2, w, rfl, -⟩ := hp2
  exact ⟨w, rfl, p4_keep hJ j2 (fA_tr (fA_of (by decide +kernel) f1) (fA_of (by decide +kernel) f2)) (fB_tr (fB_of (by decide +kernel) f1) (fB_of (by decide +kernel) f2)) (fC_tr (fC_of (by decide +kernel) f1) (fC_of (by decide +kernel) f2)) (fD_tr (fD_of (by decide +kernel) f1) (fD_of (by decide +kernel) f2)) (fE_tr (fE_of (by decide +kernel) f1) (fE_of (by decide +kernel) f2)) (fF_tr (fF_of (by decide +kernel) f1) (fF_of (by decide +kernel) f2)) (fG_tr (fG_of (by decide +kernel) f1) (fG_of (by decide +kernel) f2))⟩
theorem ar_25 (hL : L ≤ 3072) (hv : vz.category = 1) : lq_p25 L xs vz (p4_J L xs) := by
  intro μ x1 x2 hx1 hx2 hJ
  refine iv_C_mono (pb_170 hv (by decide) hJ.1) (fun r μ1 hp => ?_)
  obtain ⟨j1, f1, v, rfl, -⟩ := hp
  refine ⟨v, rfl, iv_C_mono (pb_311 hv (by decide) j1) (fun r2 μ2 hp2 => ?_)⟩
  obtain ⟨j2, f2, w, rfl, -⟩ := hp2
  exact ⟨w, rfl, p4_keep hJ j2 (fA_tr (fA_of (by decide +kernel) f1) (fA_of (by decide +kernel) f2)) (fB_tr (fB_of (by decide +kernel) f1) (fB_of (by decide +kernel) f2)) (fC_tr (fC_of (by decide +kernel) f1) (fC_of (by decide +kernel) f2)) (fD_tr (fD_of (by decide +kernel) f1) (fD_of (by decide +kernel) f2)) (fE_tr (fE_of (by decide +kernel) f1) (fE_of (by decide +kernel) f2)) (fF_tr (fF_of (by decide +kernel) f1) (fF_of (by decide +kernel) f2)) (fG_tr (fG_of (by decide +kernel) f1) (fG_of (by decide +kernel) f2))⟩
theorem ar_26 (hL : L ≤ 3072) (hv : vz.category = 1) : lq_p26 L xs vz (p4_J L xs) := by
  intro μ x1 hx1 hJ
  refine iv_C_mono (pb_172 hv (by decide) hJ.1) (fun r μ1 hp => ?_)
  obtain ⟨j1, f1, v, rfl, -⟩ := hp
  refine ⟨v, rfl, iv_C_mono (pb_312 hv (by decide) j1) (fun r2 μ2 hp2 => ?_)⟩
  obtain ⟨j2, f2, w, rfl, -⟩ := hp2
  exact ⟨w, rfl, p4_keep hJ j2 (fA_tr (fA_of (by decide +kernel) f1) (fA_of (by decide +kernel) f2)) (fB_tr (fB_of (by decide +kernel) f1) (fB_of (by decide +kernel) f2)) (fC_tr (fC_of (by decide +kernel) f1) (fC_of (by decide +kernel) f2)) (fD_tr (fD_of (by decide +kernel) f1) (fD_of (by decide +kernel) f2)) (fE_tr (fE_of (by decide +kernel) f1) (fE_of (by decide +kernel) f2)) (fF_tr (fF_of (by decide +kernel) f1) (fF_of (by decide +kernel) f2)) (fG_tr (fG_of (by decide +kernel) f1) (fG_of (by decide +kernel) f2))⟩
theorem ar_27 (hL : L ≤ 3072) (hv : vz.category = 1) : lq_p27 L xs vz (p4_J L xs) := by
  intro μ x1 hx1 hJ
  refine iv_C_mono (pb_174 hv (by decide) hJ.1) (fun r μ1 hp => ?_)
  obtain ⟨j1, f1, v, rfl, -⟩ := hp
  refine ⟨v, rfl, iv_C_mono (pb_267 hv (by decide) j1) (fun r2 μ2 hp2 => ?_)⟩
  obtain ⟨j2, f2, w, rfl, -⟩ := hp2
  exact ⟨w, rfl, p4_keep hJ j2 (fA_tr (fA_of (by decide +kernel) f1) (fA_of (by decide +kernel) f2)) (fB_tr (fB_of (by decide +kernel) f1) (fB_of (by decide +kernel) f2)) (fC_tr (fC_of (by decide +kernel) f1) (fC_of (by decide +kernel) f2)) (fD_tr (fD_of (by decide +kernel) f1) (fD_of (by decide +kernel) f2)) (fE_tr (fE_of (by decide +kernel) f1) (fE_of (by decide +kernel) f2)) (fF_tr (fF_of (by decide +kernel) f1) (fF_of (by decide +kernel) f2)) (fG_tr (fG_of (by decide +kernel) f1) (fG_of (by decide +kernel) f2))⟩
theorem ar_28 (hL : L ≤ 3072) (hv : vz.category = 1) : lq_p28 L xs vz (p4_J L xs) := by
  intro μ x1 x2 hx1 hx2 hJ
  refine iv_C_mono (pb_176 hv (by decide) hJ.1) (fun r μ1 hp => ?_)
  obtain ⟨j1, f1, v, rfl, -⟩ := hp
  refine ⟨v, rfl, iv_C_mono (pb_268 hv (by decide) j1) (fun r2 μ2 hp2 => ?_)⟩
  obtain ⟨j2, f2, w, rfl, -⟩ := hp2
  exact ⟨w, rfl, p4_keep hJ j2 (fA_tr (fA_of (by decide +kernel) f1) (fA_of (by decide +kernel) f2)) (fB_tr (fB_of (by decide +kernel) f1) (fB_of (by decide +kernel) f2)) (fC_tr (fC_of (by decide +kernel) f1) (fC_of (by decide +kernel) f2)) (fD_tr (fD_of (by decide +kernel) f1) (fD_of (by decide +kernel) f2)) (fE_tr (fE_of (by decide +kernel) f1) (fE_of (by decide +kernel) f2)) (fF_tr (fF_of (by decide +kernel) f1) (fF_of (by decide +kernel) f2)) (fG_tr (fG_of (by decide +kernel) f1) (fG_of (by decide +kernel) f2))⟩
theorem ar_29 (hL : L ≤ 3072) (hv : vz.category = 1) : lq_p29 L xs vz (p4_J L xs) := by
  intro μ x1 x2 hx1 hx2 hJ
  refine iv_C_mono (pb_178 hv (by decide) hJ.1) (fun r μ1 hp => ?_)
  obtain ⟨j1, f1, v, rfl, -⟩ := hp
  refine ⟨v, rfl, iv_C_mono (pb_313 hv (by decide) j1) (fun r2 μ2 hp2 => ?_)⟩
  obtain ⟨j2, f2, w, rfl, -⟩ := hp2
  exact ⟨w, rfl, p4_keep hJ j2 (fA_tr (fA_of (by decide +kernel) f1) (fA_of (by decide +kernel) f2)) (fB_tr (fB_of (by decide +kernel) f1) (fB_of (by decide +kernel) f2)) (fC_tr (fC_of (by decide +kernel) f1) (fC_of (by decide +kernel) f2)) (fD_tr (fD_of (by decide +kernel) f1) (fD_of (by decide +kernel) f2)) (fE_tr (fE_of (by decide +kernel) f1) (fE_of (by decide +kernel) f2)) (fF_tr (fF_of (by decide +kernel) f1) (fF_of (by decide +kernel) f2)) (fG_tr (fG_of (by decide +kernel) f1) (fG_of (by decide +kernel) f2))⟩
theorem ar_30 (hL : L ≤ 3072) (hv : vz.category = 1) : lq_p30 L xs vz (p4_J L xs) := by
  intro μ x1 b hx1 hb hJ
  refine iv_C_mono (pb_186 hv (by decide) hJ.1 hb) (fun r μ1 hp => ?_)
  obtain ⟨j1, f1, v, rfl, -⟩ := hp
  refine ⟨v, rfl, iv_C_mono (pb_316 hv (by decide) j1 hb) (fun r2 μ2 hp2 => ?_)⟩
  obtain ⟨j2, f2, w, rfl, -⟩ := hp2
  exact ⟨w, rfl, p4_keep hJ j2 (fA_tr (fA_of (by decide +kernel) f1) (fA_of (by decide +kernel) f2)) (fB_tr (fB_of (by decide +kernel) f1) (fB_of (by decide +kernel) f2)) (fC_tr (fC_of (by decide +kernel) f1) (fC_of (by decide +kernel) f2)) (fD_tr (fD_of (by decide +kernel) f1) (fD_of (by decide +kernel) f2)) (fE_tr (fE_of (by decide +kernel) f1) (fE_of (by decide +kernel) f2)) (fF_tr (fF_of (by decide +kernel) f1) (fF_of (by decide +kernel) f2)) (fG_tr (fG_of (by decide +kernel) f1) (fG_of (by decide +kernel) f2))⟩
theorem ar_31 (hL : L ≤ 3072) (hv : vz.category = 1) : lq_p31 L xs vz (p4_J L xs) := by
  intro μ x1 x2 x3 hx1 hx2 hx3 hJ
  refine iv_C_mono (pb_190 hv (by decide) hJ.1) (fun r μ1 hp => ?_)
  obtain ⟨j1, f1, v, rfl, -⟩ := hp
  refine ⟨v, rfl, iv_C_mono (pb_318 hv (by decide) j1) (fun r2 μ2 hp2 => ?_)⟩
  obtain ⟨j2, f2, w, rfl, -⟩ := hp2
  exact ⟨w, rfl, p4_keep hJ j2 (fA_tr (fA_of (by decide +kernel) f1) (fA_of (by decide +kernel) f2)) (fB_tr (fB_of (by decide +kernel) f1) (fB_of (by decide +kernel) f2)) (fC_tr (fC_of (by decide +kernel) f1) (fC_of (by decide +kernel) f2)) (fD_tr (fD_of (by decide +kernel) f1) (fD_of (by decide +kernel) f2)) (fE_tr (fE_of (by decide +kernel) f1) (fE_of (by decide +kernel) f2)) (fF_tr (fF_of (by decide +kernel) f1) (fF_of (by decide +kernel) f2)) (fG_tr (fG_of (by decide +kernel) f1) (fG_of (by decide +kernel) f2))⟩
theorem ar_32 (hL : L ≤ 3072) (hv : vz.category = 1) : lq_p32 L xs vz (p4_J L xs) := by
  intro μ x1 x2 hx1 hx2 hJ
  refine iv_C_mono (pb_192 hv (by decide) hJ.1) (fun r μ1 hp => ?_)
  obtain ⟨j1, f1, v, rfl, -⟩ := hp
  refine ⟨v, rfl, iv_C_mono (pb_319 hv (by decide) j1) (fun r2 μ2 hp2 => ?_)⟩
  obtain ⟨j2, f2, w, rfl, -⟩ := hp2
  exact ⟨w, rfl, p4_keep hJ j2 (fA_tr (fA_of (by decide +kernel) f1) (fA_of (by decide +kernel) f2)) (fB_tr (fB_of (by decide +kernel) f1) (fB_of (by decide +kernel) f2)) (fC_tr (fC_of (by decide +kernel) f1) (fC_of (by decide +kernel) f2)) (fD_tr (fD_of (by decide +kernel) f1) (fD_of (by decide +kernel) f2)) (fE_tr (fE_of (by decide +kernel) f1) (fE_of (by decide +kernel) f2)) (fF_tr (fF_of (by decide +kernel) f1) (fF_of (by decide +kernel) f2)) (fG_tr (fG_of (by decide +kernel) f1) (fG_of (by decide +kernel) f2))⟩
theorem ar_33 (hL : L ≤ 3072) (hv : vz.category = 1) : lq_p33 L xs vz (p4_J L xs) := by
  intro μ x1 x2 hx1 hx2 hJ
  refine iv_C_mono (pb_197 hv (by decide) hJ.1) (fun r μ1 hp => ?_)
  obtain ⟨j1, f1, v, rfl, -⟩ := hp
  refine ⟨v, rfl, iv_C_mono (pb_323 hv (by decide) j1) (fun r2 μ2 hp2 => ?_)⟩
  obtain ⟨j2, f2, w, rfl, -⟩ := hp2
  exact ⟨w, rfl, p4_keep hJ j2 (fA_tr (fA_of (by decide +kernel) f1) (fA_of (by decide +kernel) f2)) (fB_tr (fB_of (by decide +kernel) f1) (fB_of (by decide +kernel) f2)) (fC_tr (fC_of (by decide +kernel) f1) (fC_of (by decide +kernel) f2)) (fD_tr (fD_of (by decide +kernel) f1) (fD_of (by decide +kernel) f2)) (fE_tr (fE_of (by decide +kernel) f1) (fE_of (by decide +kernel) f2)) (fF_tr (fF_of (by decide +kernel) f1) (fF_of (by decide +kernel) f2)) (fG_tr (fG_of (by decide +kernel) f1) (fG_of (by decide +kernel) f2))⟩
theorem ar_34 (hL : L ≤ 3072) (hv : vz.category = 1) : lq_p34 L xs vz (p4_J L xs) := by
  intro μ x1 x2 x3 hx1 hx2 hx3 hJ
  refine iv_C_mono (pb_199 hv (by decide) hJ.1) (fun r μ1 hp => ?_)
  obtain ⟨j1, f1, v, rfl, -⟩ := hp
  refine ⟨v, rfl, iv_C_mono (pb_324 hv (by decide) j1) (fun r2 μ2 hp2 => ?_)⟩
  obtain ⟨j2, f2, w, rfl, -⟩ := hp2
  exact ⟨w, rfl, p4_keep hJ j2 (fA_tr (fA_of (by decide +kernel) f1) (fA_of (by decide +kernel) f2)) (fB_tr (fB_of (by decide +kernel) f1) (fB_of (by decide +kernel) f2)) (fC_tr (fC_of (by decide +kernel) f1) (fC_of (by decide +kernel) f2)) (fD_tr (fD_of (by decide +kernel) f1) (fD_of (by decide +kernel) f2)) (fE_tr (fE_of (by decide +kernel) f1) (fE_of (by decide +kernel) f2)) (fF_tr (fF_of (by decide +kernel) f1) (fF_of (by decide +kernel) f2)) (fG_tr (fG_of (by decide +kernel) f1) (fG_of (by decide +kernel) f2))⟩
theorem ar_35 (hL : L ≤ 3072) (hv : vz.category = 1) : lq_p35 L xs vz (p4_J L xs) := by
  intro μ x1 x2 x3 hx1 hx2 hx3 hJ
  refine iv_C_mono (pb_201 hv (by decide) hJ.1) (fun r μ1 hp => ?_)
  obtain ⟨j1, f1, v, rfl, -⟩ := hp
  refine ⟨v, rfl, iv_C_mono (pb_325 hv (by decide) j1) (fun r2 μ2 hp2 => ?_)⟩
  obtain ⟨j2, f2, w, rfl, -⟩ := hp2
  exact ⟨w, rfl, p4_keep hJ j2 (fA_tr (fA_of (by decide +kernel) f1) (fA_of (by decide +kernel) f2)) (fB_tr (fB_of (by decide +kernel) f1) (fB_of (by decide +kernel) f2)) (fC_tr (fC_of (by decide +kernel) f1) (fC_of (by decide +kernel) f2)) (fD_tr (fD_of (by decide +kernel) f1) (fD_of (by decide +kernel) f2)) (fE_tr (fE_of (by decide +kernel) f1) (fE_of (by decide +kernel) f2)) (fF_tr (fF_of (by decide +kernel) f1) (fF_of (by decide +kernel) f2)) (fG_tr (fG_of (by decide +kernel) f1) (fG_of (by decide +kernel) f2))⟩
theorem ar_36 (hL : L ≤ 3072) (hv : vz.category = 1) : lq_p36 L xs vz (p4_J L xs) := by
  intro μ x1 x2 x3 x4 x5 hx1 hx2 hx3 hx4 hx5 hJ
  refine iv_C_mono (pb_203 hv (by decide) hJ.1) (fun r μ1 hp => ?_)
  obtain ⟨j1, f1, v, rfl, -⟩ := hp
  refine ⟨v, rfl, iv_C_mono (pb_326 hv (by decide) j1) (fun r2 μ2 hp2 => ?_)⟩
  obtain ⟨j2, f2, w, rfl, -⟩ := hp2
  exact ⟨w, rfl, p4_keep hJ j2 (fA_tr (fA_of (by decide +kernel) f1) (fA_of (by decide +kernel) f2)) (fB_tr (fB_of (by decide +kernel) f1) (fB_of (by decide +kernel) f2)) (fC_tr (fC_of (by decide +kernel) f1) (fC_of (by decide +kernel) f2)) (fD_tr (fD_of (by decide +kernel) f1) (fD_of (by decide +kernel) f2)) (fE_tr (fE_of (by decide +kernel) f1) (fE_of (by decide +kernel) f2)) (fF_tr (fF_of (by decide +kernel) f1) (fF_of (by decide +kernel) f2)) (fG_tr (fG_of (by decide +kernel) f1) (fG_of (by decide +kernel) f2))⟩
theorem ar_37 (hL : L ≤ 3072) (hv : vz.category = 1) : lq_p37 L xs vz (p4_J L xs) := by
  intro μ hJ
  refine iv_C_mono (br_and (image_c hL (by decide)) (pb_205 hv (by decide) hJ.1) (fun r hr => by obtain ⟨w, e, -⟩ := hr; exact ⟨w, e⟩)) (fun r μ1 hp => ?_)
  obtain ⟨q, j1, cA1, cB1, cC1, cD1, cE1, cF1, cG1, v, rfl⟩ := hp
  refine ⟨v, rfl, iv_C_mono (br_and (image_r hL (by decide)) (pb_327 hv (by decide) j1) (fun r hr => by obtain ⟨w, e, -⟩ := hr; exact ⟨w, e⟩)) (fun r2 μ2 hp2 => ?_)⟩
  obtain ⟨q2, j2, cA2, cB2, cC2, cD2, cE2, cF2, cG2, w, rfl⟩ := hp2
  have A := fA_tr (cA1 (by decide +kernel)) (cA2 (by decide +kernel))
  have D1 : μ1 196 0 = μ 196 0 := cD1 (by decide +kernel)
  have D2 : μ2 196 0 = μ1 196 0 := cD2 (by decide +kernel)
  have E1 := cE1 (by decide +kernel)
  have E2 := cE2 (by decide +kernel)
  have B2 := cB2 (by decide +kernel)
  have C2 : μ2 38 2 = μ1 38 2 := cC2 (by decide +kernel)
  refine ⟨w, rfl, j2, by rw [A.1, D2, D1, hJ.2.1], by rw [B2.1, q.2.1, q2.2 0 (by decide) (by decide), D1, hJ.2.1], by rw [C2, q.1, q2.1], fun i i0 i1 => ?_, fun i i0 i1 => ?_⟩
  · rw [A.2 i i0 i1, E2 i i0 i1, E1 i i0 i1]
    exact hJ.2.2.2.2.1 i i0 i1
  · rw [B2.2 i i0 i1, q.2.2 i i0 i1, q2.2 (i * 7 + 80) (by omega) (by omega), E1 i i0 i1]
    exact hJ.2.2.2.2.1 i i0 i1
theorem ar_38 (hL : L ≤ 3072) (hv : vz.category = 1) : lq_p38 L xs vz (p4_J L xs) := by
  intro μ hJ
  refine iv_C_mono (br_and (restore_c hL (by decide)) (pb_212 hv (by decide) hJ.1) (fun r hr => by obtain ⟨w, e, -⟩ := hr; exact ⟨w, e⟩)) (fun r μ1 hp => ?_)
  obtain ⟨q, j1, cA1, cB1, cC1, cD1, cE1, cF1, cG1, v, rfl⟩ := hp
  refine ⟨v, rfl, iv_C_mono (br_and (restore_r hL (by decide)) (pb_328 hv (by decide) j1) (fun r hr => by obtain ⟨w, e, -⟩ := hr; exact ⟨w, e⟩)) (fun r2 μ2 hp2 => ?_)⟩
  obtain ⟨q2, j2, cA2, cB2, cC2, cD2, cE2, cF2, cG2, w, rfl⟩ := hp2
  have D1 : μ1 196 0 = μ 196 0 := cD1 (by decide +kernel)
  have E1 := cE1 (by decide +kernel)
  have F1 := cF1 (by decide +kernel)
  have G1 : μ1 195 2 = μ 195 2 := cG1 (by decide +kernel)
  have A2 := cA2 (by decide +kernel)
  have B := fB_tr (cB1 (by decide +kernel)) (cB2 (by decide +kernel))
  have C := fC_tr (cC1 (by decide +kernel)) (cC2 (by decide +kernel))
  have F := fF_tr F1 (cF2 (by decide +kernel))
  have G := fG_tr (cG1 (by decide +kernel)) (cG2 (by decide +kernel))
  refine ⟨w, rfl, ?_⟩
  by_cases hz : μ 38 2 = 0
  · obtain ⟨d2, e2⟩ := q2.1 (by rw [G1, ← hJ.2.2.2.1]; exact hz)
    exact p4_keep hJ j2 (fA_tr (q.1 hz) A2) B C (fD_tr D1 d2) (fE_tr E1 e2) F G
  · obtain ⟨a1, a2⟩ := q.2 hz
    have b := q2.2 (by rw [G1, ← hJ.2.2.2.1]; exact hz)
    refine ⟨j2, by rw [A2.1, a1, b 0 (by decide) (by decide), F1.1, hJ.2.2.1], by rw [B.1, F.1, hJ.2.2.1], by rw [(show μ2 38 2 = μ 38 2 from C), (show μ2 195 2 = μ 195 2 from G), hJ.2.2.2.1], fun i i0 i1 => ?_, fun i i0 i1 => ?_⟩
    · rw [A2.2 i i0 i1, a2 i i0 i1, b (i * 7 + 80) (by omega) (by omega), F1.2 i i0 i1]
      exact hJ.2.2.2.2.2 i i0 i1
    · rw [B.2 i i0 i1, F.2 i i0 i1]
      exact hJ.2.2.2.2.2 i i0 i1
theorem ar_39 (hL : L ≤ 3072) (hv : vz.category = 1) : lq_p39 L xs vz (p4_J L xs) := by
  intro μ x1 hx1 hJ
  refine iv_C_mono (pb_213 hv (by decide) hJ.1) (fun r μ1 hp => ?_)
  obtain ⟨j1, f1, v, rfl, -⟩ := hp
  refine ⟨v, rfl, iv_C_mono (pb_329 hv (by decide) j1) (fun r2 μ2 hp2 => ?_)⟩
  obtain ⟨j2, f2, w, rfl, -⟩ := hp2
  exact ⟨w, rfl, p4_keep hJ j2 (fA_tr (fA_of (by decide +kernel) f1) (fA_of (by decide +kernel) f2)) (fB_tr (fB_of (by decide +kernel) f1) (fB_of (by decide +kernel) f2)) (fC_tr (fC_of (by decide +kernel) f1) (fC_of (by decide +kernel) f2)) (fD_tr (fD_of (by decide +kernel) f1) (fD_of (by decide +kernel) f2)) (fE_tr (fE_of (by decide +kernel) f1) (fE_of (by decide +kernel) f2)) (fF_tr (fF_of (by decide +kernel) f1) (fF_of (by decide +kernel) f2)) (fG_tr (fG_of (by decide +kernel) f1) (fG_of (by decide +kernel) f2))⟩
theorem p4_all (hL : L ≤ 3072) (hv : vz.category = 1) : lq_all L xs vz (p4_J L xs) := ⟨ar_0 hL hv, ar_1 hL hv, ar_2 hL hv, ar_3 hL hv, ar_4 hL hv, ar_5 hL hv, ar_6 hL hv, ar_7 hL hv, ar_8 hL hv, ar_9 hL hv, ar_10 hL hv, ar_11 hL hv, ar_12 hL hv, ar_13 hL hv, ar_14 hL hv, ar_15 hL hv, ar_16 hL hv, ar_17 hL hv, ar_18 hL hv, ar_19 hL hv, ar_20 hL hv, ar_21 hL hv, ar_22 hL hv, ar_23 hL hv, ar_24 hL hv, ar_25 hL hv, ar_26 hL hv, ar_27 hL hv, ar_28 hL hv, ar_29 hL hv, ar_30 hL hv, ar_31 hL hv, ar_32 hL hv, ar_33 hL hv, ar_34 hL hv, ar_35 hL hv, ar_36 hL hv, ar_37 hL hv, ar_38 hL hv, ar_39 hL hv⟩
theorem p4_start (h : br_J L xs iv_mu0) : p4_J L xs iv_mu0 := by
  refine ⟨h, by decide +kernel, by decide +kernel, by decide +kernel, fun i i0 i1 => ?_, fun i i0 i1 => ?_⟩
  · obtain ⟨j, rfl⟩ := Int.eq_ofNat_of_zero_le i0
    have := of_decide_eq_true (List.all_eq_true.mp (show (List.range 10).all (fun j => decide (iv_mu0 ((j : Int) + 55) 0 = iv_mu0 196 ((j : Int) * 7 + 80) ∧ 0 ≤ iv_mu0 ((j : Int) + 55) 0 ∧ iv_mu0 ((j : Int) + 55) 0 ≤ 5)) = true by decide +kernel) j (List.mem_range.mpr (by omega)))
    exact this
  · obtain ⟨j, rfl⟩ := Int.eq_ofNat_of_zero_le i0
    have := of_decide_eq_true (List.all_eq_true.mp (show (List.range 10).all (fun j => decide (iv_mu0 ((j : Int) + 122) 0 = iv_mu0 197 ((j : Int) * 7 + 80) ∧ 0 ≤ iv_mu0 ((j : Int) + 122) 0 ∧ iv_mu0 ((j : Int) + 122) 0 ≤ 5)) = true by decide +kernel) j (List.mem_range.mpr (by omega)))
    exact this
end P4C
theorem p2_run {L : Nat} {xs : Nat → Int32} (hL : L ≤ 3072) : ∀ v : Value, v.category = 1 → ∃ (n d : Nat) (τ : mm_S), d ≤ 1000 ∧ mm_run 38 (mm_zs v) n d (13, code, 4, false) (0, [(0, .ref 0)], [], mm_m0 L xs, 600000, 7302250) = some τ ∧ τ.2.2.1 = [.int 1] ∧ decode code τ.1 = .ok (.ireturn, 1) :=
  iv_prun hL (J := p4_J L xs) p4_start (fun _ hv => p4_all hL hv)
