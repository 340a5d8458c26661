/-! ===== printed by wip/iv/gen_p8b.py: every pair of calls keeps what p8 relates ===== -/
theorem p8_mk {L : Nat} {xs : Nat → Int32} {μ μ' : iv_M} (h : p8_J L xs μ) (hJ : br_J L xs μ') (hR : R8 (vC μ') (vR μ')) (hK : fK μ μ') (hk : fk8 μ μ') (hI : fI μ μ') (hi : fi μ μ') (hS : fS μ μ') (hs : fs μ μ') : p8_J L xs μ' :=
  ⟨hJ, hR, R8_cong h.2.2.1 hK hk, by rw [show μ' 38 2 = μ 38 2 from hI, show μ' 195 2 = μ 195 2 from hi, h.2.2.2.1], fun s s0 s1 => by rw [hS s s0 s1, hs s s0 s1, h.2.2.2.2 s s0 s1]⟩
theorem fl_k3 {a b : iv_M} (h : kq K3 a b) : fl a b := ⟨h 0 (by omega), h 1 (by omega), h 3 (by omega), fun i i0 i1 => ⟨h (i * 7 + 80) (by omega), h (i * 7 + 82) (by omega), h (i * 7 + 86) (by omega)⟩⟩
section P8C
variable {L : Nat} {xs : Nat → Int32} {vz : Value}
theorem ar_0 (hL : L ≤ 3072) (hv : vz.category = 1) : lq_p0 L xs vz (p8_J L xs) := by
  intro μ x1 x2 x3 hx1 hx2 hx3 hJ
  refine iv_C_mono (pb_12 hv (by decide) hJ.1) (fun r μ1 hp => ?_)
  obtain ⟨j1, f1, v, rfl, -⟩ := hp
  refine ⟨v, rfl, iv_C_mono (pb_219 hv (by decide) j1) (fun r2 μ2 hp2 => ?_)⟩
  obtain ⟨j2, f2, w, rfl, -⟩ := hp2
  exact ⟨w, rfl, p8_keep hJ j2 (fL_tr (fL_of (by decide +kernel) f1) (fL_of (by decide +kernel) f2)) (fK_tr (fK_of (by decide +kernel) f1) (fK_of (by decide +kernel) f2)) (fl_tr (fl_of (by decide +kernel) f1) (fl_of (by decide +kernel) f2)) (fk8_tr (fk8_of (by decide +kernel) f1) (fk8_of (by decide +kernel) f2)) (fI_tr (fI_of (by decide +kernel) f1) (fI_of (by decide +kernel) f2)) (fi_tr (fi_of (by decide +kernel) f1) (fi_of (by decide +kernel) f2)) (fS_tr (fS_of (by decide +kernel) f1) (fS_of (by decide +kernel) f2)) (fs_tr (fs_of (by decide +kernel) f1) (fs_of (by decide +kernel) f2))⟩
theorem ar_1 (hL : L ≤ 3072) (hv : vz.category = 1) : lq_p1 L xs vz (p8_J L xs) := by
  intro μ x1 x2 x3 x4 hx1 hx2 hx3 hx4 hJ
  refine iv_C_N (fun hN _ => ?_)
  have en : μ 39 2 = μ 196 0 := hJ.2.1.1
  have em : μ 39 4 = μ 196 1 := hJ.2.1.2.1
  have hc := kn0 hJ.1 hN
  have hm := kn1 hJ.1 hN
  rw [← en] at hc
  rw [← em] at hm
  refine iv_C_mono (br_and (raft_c hL (by decide) hc) (pb_17 hv (by decide) hJ.1) (fun r hr => by obtain ⟨w, e, -⟩ := hr; exact ⟨w, e⟩)) (fun r μ1 hp => ?_)
  obtain ⟨q, j1, cL1, cK1, cl1, ck81, cI1, ci1, cS1, cs1, v, rfl⟩ := hp
  refine ⟨v, rfl, iv_C_N (fun hN1 _ => iv_C_mono (br_and (raft_r hL (by decide) (kn0 j1 hN1)) (pb_222 hv (by decide) j1) (fun r hr => by obtain ⟨w, e, -⟩ := hr; exact ⟨w, e⟩)) (fun r2 μ2 hp2 => ?_))⟩
  obtain ⟨q2, j2, cL2, cK2, cl2, ck82, cI2, ci2, cS2, cs2, w, rfl⟩ := hp2
  refine ⟨w, rfl, ?_⟩
  have l1 : fl μ μ1 := cl1 (by decide +kernel)
  have L2 : fL μ1 μ2 := cL2 (by decide +kernel)
  have D1 : μ1 196 0 = μ 196 0 := l1.1
  by_cases hr : rok (μ 39 2) x1 x2 x3 x4
  · have a := q.1 hr
    have b := q2.1 (by rw [D1, ← en]; exact hr)
    exact p8_mk hJ j2 (R8_cong (R8_raft (R8_cong hJ.2.1 (veq_rfl _) l1) hr a b) L2 (veq_rfl _)) (fK_tr (cK1 (by decide +kernel)) (cK2 (by decide +kernel))) (fk8_tr (ck81 (by decide +kernel)) (ck82 (by decide +kernel))) (fI_tr (cI1 (by decide +kernel)) (cI2 (by decide +kernel))) (fi_tr (ci1 (by decide +kernel)) (ci2 (by decide +kernel))) (fS_tr (cS1 (by decide +kernel)) (cS2 (by decide +kernel))) (fs_tr (cs1 (by decide +kernel)) (cs2 (by decide +kernel)))
  · exact p8_keep hJ j2 (fL_tr (q.2 hr) L2) (fK_tr (cK1 (by decide +kernel)) (cK2 (by decide +kernel))) (fl_tr l1 (q2.2 (by rw [D1, ← en]; exact hr))) (fk8_tr (ck81 (by decide +kernel)) (ck82 (by decide +kernel))) (fI_tr (cI1 (by decide +kernel)) (cI2 (by decide +kernel))) (fi_tr (ci1 (by decide +kernel)) (ci2 (by decide +kernel))) (fS_tr (cS1 (by decide +kernel)) (cS2 (by decide +kernel))) (fs_tr (cs1 (by decide +kernel)) (cs2 (by decide +kernel)))
theorem ar_2 (hL : L ≤ 3072) (hv : vz.category = 1) : lq_p2 L xs vz (p8_J L xs) := by
  intro μ x1 x2 hx1 hx2 hJ
  refine iv_C_mono (pb_22 hv (by decide) hJ.1) (fun r μ1 hp => ?_)
  obtain ⟨j1, f1, v, rfl, -⟩ := hp
  refine ⟨v, rfl, iv_C_mono (pb_224 hv (by decide) j1) (fun r2 μ2 hp2 => ?_)⟩
  obtain ⟨j2, f2, w, rfl, -⟩ := hp2
  exact ⟨w, rfl, p8_keep hJ j2 (fL_tr (fL_of (by decide +kernel) f1) (fL_of (by decide +kernel) f2)) (fK_tr (fK_of (by decide +kernel) f1) (fK_of (by decide +kernel) f2)) (fl_tr (fl_of (by decide +kernel) f1) (fl_of (by decide +kernel) f2)) (fk8_tr (fk8_of (by decide +kernel) f1) (fk8_of (by decide +kernel) f2)) (fI_tr (fI_of (by decide +kernel) f1) (fI_of (by decide +kernel) f2)) (fi_tr (fi_of (by decide +kernel) f1) (fi_of (by decide +kernel) f2)) (fS_tr (fS_of (by decide +kernel) f1) (fS_of (by decide +kernel) f2)) (fs_tr (fs_of (by decide +kernel) f1) (fs_of (by decide +kernel) f2))⟩
theorem ar_3 (hL : L ≤ 3072) (hv : vz.category = 1) : lq_p3 L xs vz (p8_J L xs) := by
  intro μ x1 x2 hx1 hx2 hJ
  refine iv_C_mono (pb_25 hv (by decide) hJ.1) (fun r μ1 hp => ?_)
  obtain ⟨j1, f1, v, rfl, -⟩ := hp
  refine ⟨v, rfl, iv_C_mono (pb_227 hv (by decide) j1) (fun r2 μ2 hp2 => ?_)⟩
  obtain ⟨j2, f2, w, rfl, -⟩ := hp2
  exact ⟨w, rfl, p8_keep hJ j2 (fL_tr (fL_of (by decide +kernel) f1) (fL_of (by decide +kernel) f2)) (fK_tr (fK_of (by decide +kernel) f1) (fK_of (by decide +kernel) f2)) (fl_tr (fl_of (by decide +kernel) f1) (fl_of (by decide +kernel) f2)) (fk8_tr (fk8_of (by decide +kernel) f1) (fk8_of (by decide +kernel) f2)) (fI_tr (fI_of (by decide +kernel) f1) (fI_of (by decide +kernel) f2)) (fi_tr (fi_of (by decide +kernel) f1) (fi_of (by decide +kernel) f2)) (fS_tr (fS_of (by decide +kernel) f1) (fS_of (by decide +kernel) f2)) (fs_tr (fs_of (by decide +kernel) f1) (fs_of (by decide +kernel) f2))⟩
theorem ar_4 (hL : L ≤ 3072) (hv : vz.category = 1) : lq_p4 L xs vz (p8_J L xs) := by
  intro μ x1 x2 b hx1 hx2 hb hJ
  refine iv_C_mono (pb_38 hv (by decide) hJ.1 hb) (fun r μ1 hp => ?_)
  obtain ⟨j1, f1, v, rfl, -⟩ := hp
  refine ⟨v, rfl, iv_C_mono (br_and (k_load hL (by decide) j1) (pb_238 hv (by decide) j1 hb) (fun r hr => by obtain ⟨w, e, -⟩ := hr; exact ⟨w, e⟩)) (fun r2 μ2 hp2 => ?_)⟩
  obtain ⟨q, j2, cL2, cK2, cl2, ck82, cI2, ci2, cS2, cs2, w, rfl⟩ := hp2
  exact ⟨w, rfl, p8_keep hJ j2 (fL_tr (fL_of (by decide +kernel) f1) (cL2 (by decide +kernel))) (fK_tr (fK_of (by decide +kernel) f1) (cK2 (by decide +kernel))) (fl_tr (fl_of (by decide +kernel) f1) (fl_k3 q)) (fk8_tr (fk8_of (by decide +kernel) f1) (ck82 (by decide +kernel))) (fI_tr (fI_of (by decide +kernel) f1) (cI2 (by decide +kernel))) (fi_tr (fi_of (by decide +kernel) f1) (ci2 (by decide +kernel))) (fS_tr (fS_of (by decide +kernel) f1) (cS2 (by decide +kernel))) (fs_tr (fs_of (by decide +kernel) f1) (cs2 (by decide +kernel)))⟩
theorem ar_5 (hL : L ≤ 3072) (hv : vz.category = 1) : lq_p5 L xs vz (p8_J L xs) := by
  intro μ x1 x2 x3 b hx1 hx2 hx3 hb hJ
  refine iv_C_mono (pb_42 hv (by decide) hJ.1 hb) (fun r μ1 hp => ?_)
  obtain ⟨j1, f1, v, rfl, -⟩ := hp
  refine ⟨v, rfl, iv_C_mono (br_and (k_trade hL hv (by decide) j1) (pb_241 hv (by decide) j1 hb) (fun r hr => by obtain ⟨w, e, -⟩ := hr; exact ⟨w, e⟩)) (fun r2 μ2 hp2 => ?_)⟩
  obtain ⟨q, j2, cL2, cK2, cl2, ck82, cI2, ci2, cS2, cs2, w, rfl⟩ := hp2
  exact ⟨w, rfl, p8_keep hJ j2 (fL_tr (fL_of (by decide +kernel) f1) (cL2 (by decide +kernel))) (fK_tr (fK_of (by decide +kernel) f1) (cK2 (by decide +kernel))) (fl_tr (fl_of (by decide +kernel) f1) (fl_k3 q)) (fk8_tr (fk8_of (by decide +kernel) f1) (ck82 (by decide +kernel))) (fI_tr (fI_of (by decide +kernel) f1) (cI2 (by decide +kernel))) (fi_tr (fi_of (by decide +kernel) f1) (ci2 (by decide +kernel))) (fS_tr (fS_of (by decide +kernel) f1) (cS2 (by decide +kernel))) (fs_tr (fs_of (by decide +kernel) f1) (cs2 (by decide +kernel)))⟩
theorem ar_6 (hL : L ≤ 3072) (hv : vz.category = 1) : lq_p6 L xs vz (p8_J L xs) := by
  intro μ x1 x2 x3 x4 hx1 hx2 hx3 hx4 hJ
  refine iv_C_N (fun hN _ => ?_)
  have en : μ 39 2 = μ 196 0 := hJ.2.1.1
  have em : μ 39 4 = μ 196 1 := hJ.2.1.2.1
  have hc := kn0 hJ.1 hN
  have hm := kn1 hJ.1 hN
  rw [← en] at hc
  rw [← em] at hm
  have hs : 0 ≤ x1 → x1 < 10 → 0 ≤ μ (x1 + 55) 6 ∧ μ (x1 + 55) 6 ≤ 1 := fun a b => (hJ.2.1.2.2.2 x1 a b).2.2.2.1
  refine iv_C_mono (br_and (person_c hL (by decide) hc hm hs) (pb_45 hv (by decide) hJ.1) (fun r hr => by obtain ⟨w, e, -⟩ := hr; exact ⟨w, e⟩)) (fun r μ1 hp => ?_)
  obtain ⟨q, j1, cL1, cK1, cl1, ck81, cI1, ci1, cS1, cs1, v, rfl⟩ := hp
  have l1 : fl μ μ1 := cl1 (by decide +kernel)
  have es : 0 ≤ x1 → x1 < 10 → μ1 196 (x1 * 7 + 86) = μ (x1 + 55) 6 := fun a b => ((l1.2.2.2 x1 a b).2.2).trans (hJ.2.1.2.2.2 x1 a b).2.2.1.symm
  refine ⟨v, rfl, iv_C_N (fun hN1 _ => iv_C_mono (br_and (person_r hL (by decide) (kn0 j1 hN1) (kn1 j1 hN1) (fun a b => by rw [es a b]; exact hs a b)) (pb_242 hv (by decide) j1) (fun r hr => by obtain ⟨w, e, -⟩ := hr; exact ⟨w, e⟩)) (fun r2 μ2 hp2 => ?_))⟩
  obtain ⟨q2, j2, cL2, cK2, cl2, ck82, cI2, ci2, cS2, cs2, w, rfl⟩ := hp2
  have L2 : fL μ1 μ2 := cL2 (by decide +kernel)
  have D1 : μ1 196 0 = μ 39 2 := (show μ1 196 0 = μ 196 0 from l1.1).trans en.symm
  have D2 : μ1 196 1 = μ 39 4 := (show μ1 196 1 = μ 196 1 from l1.2.1).trans em.symm
  obtain ⟨e1, u1, u2⟩ := q
  obtain ⟨e2, u3, u4⟩ := q2
  have e1 := congrArg Prod.snd (Option.some.inj e1)
  have e2 := congrArg Prod.snd (Option.some.inj e2)
  dsimp only at e1 e2
  rw [D1, D2] at e2 u3 u4
  by_cases ha : 0 ≤ x1 ∧ x1 < 10
  · rw [es ha.1 ha.2] at e2 u3 u4
    refine ⟨w, rfl, e1.trans e2.symm, ?_⟩
    by_cases hr : pgo (μ 39 2) (μ 39 4) (μ (x1 + 55) 6) x1 x2 x3 x4
    · exact p8_mk hJ j2 (R8_cong (R8_per (R8_cong hJ.2.1 (veq_rfl _) l1) (u1 hr) (u3 hr)) L2 (veq_rfl _)) (fK_tr (cK1 (by decide +kernel)) (cK2 (by decide +kernel))) (fk8_tr (ck81 (by decide +kernel)) (ck82 (by decide +kernel))) (fI_tr (cI1 (by decide +kernel)) (cI2 (by decide +kernel))) (fi_tr (ci1 (by decide +kernel)) (ci2 (by decide +kernel))) (fS_tr (cS1 (by decide +kernel)) (cS2 (by decide +kernel))) (fs_tr (cs1 (by decide +kernel)) (cs2 (by decide +kernel)))
    · exact p8_keep hJ j2 (fL_tr (u2 hr) L2) (fK_tr (cK1 (by decide +kernel)) (cK2 (by decide +kernel))) (fl_tr l1 (u4 hr)) (fk8_tr (ck81 (by decide +kernel)) (ck82 (by decide +kernel))) (fI_tr (cI1 (by decide +kernel)) (cI2 (by decide +kernel))) (fi_tr (ci1 (by decide +kernel)) (ci2 (by decide +kernel))) (fS_tr (cS1 (by decide +kernel)) (cS2 (by decide +kernel))) (fs_tr (cs1 (by decide +kernel)) (cs2 (by decide +kernel)))
  · refine ⟨w, rfl, ?_, p8_keep hJ j2 (fL_tr (u2 (fun z => by unfold pgo at z; omega)) L2) (fK_tr (cK1 (by decide +kernel)) (cK2 (by decide +kernel))) (fl_tr l1 (u4 (fun z => by unfold pgo at z; omega))) (fk8_tr (ck81 (by decide +kernel)) (ck82 (by decide +kernel))) (fI_tr (cI1 (by decide +kernel)) (cI2 (by decide +kernel))) (fi_tr (ci1 (by decide +kernel)) (ci2 (by decide +kernel))) (fS_tr (cS1 (by decide +kernel)) (cS2 (by decide +kernel))) (fs_tr (cs1 (by decide +kernel)) (cs2 (by decide +kernel)))⟩
    rw [e1, e2]
    unfold psf
    rw [if_neg (by omega), if_neg (by omega)]
theorem ar_7 (hL : L ≤ 3072) (hv : vz.category = 1) : lq_p7 L xs vz (p8_J L xs) := by
  intro μ x1 x2 hx1 hx2 hJ
  refine iv_C_mono (pb_49 hv (by decide) hJ.1) (fun r μ1 hp => ?_)
  obtain ⟨j1, f1, v, rfl, -⟩ := hp
  refine ⟨v, rfl, iv_C_mono (pb_243 hv (by decide) j1) (fun r2 μ2 hp2 => ?_)⟩
  obtain ⟨j2, f2, w, rfl, -⟩ := hp2
  exact ⟨w, rfl, p8_keep hJ j2 (fL_tr (fL_of (by decide +kernel) f1) (fL_of (by decide +kernel) f2)) (fK_tr (fK_of (by decide +kernel) f1) (fK_of (by decide +kernel) f2)) (fl_tr (fl_of (by decide +kernel) f1) (fl_of (by decide +kernel) f2)) (fk8_tr (fk8_of (by decide +kernel) f1) (fk8_of (by decide +kernel) f2)) (fI_tr (fI_of (by decide +kernel) f1) (fI_of (by decide +kernel) f2)) (fi_tr (fi_of (by decide +kernel) f1) (fi_of (by decide +kernel) f2)) (fS_tr (fS_of (by decide +kernel) f1) (fS_of (by decide +kernel) f2)) (fs_tr (fs_of (by decide +kernel) f1) (fs_of (by decide +kernel) f2))⟩
theorem ar_8 (hL : L ≤ 3072) (hv : vz.category = 1) : lq_p8 L xs vz (p8_J L xs) := by
  intro μ x1 x2 hx1 hx2 hJ
  refine iv_C_mono (pb_51 hv (by decide) hJ.1) (fun r μ1 hp => ?_)
  obtain ⟨j1, f1, v, rfl, -⟩ := hp
  refine ⟨v, rfl, iv_C_mono (pb_245 hv (by decide) j1) (fun r2 μ2 hp2 => ?_)⟩
  obtain ⟨j2, f2, w, rfl, -⟩ := hp2
  exact ⟨w, rfl, p8_keep hJ j2 (fL_tr (fL_of (by decide +kernel) f1) (fL_of (by decide +kernel) f2)) (fK_tr (fK_of (by decide +kernel) f1) (fK_of (by decide +kernel) f2)) (fl_tr (fl_of (by decide +kernel) f1) (fl_of (by decide +kernel) f2)) (fk8_tr (fk8_of (by decide +kernel) f1) (fk8_of (by decide +kernel) f2)) (fI_tr (fI_of (by decide +kernel) f1) (fI_of (by decide +kernel) f2)) (fi_tr (fi_of (by decide +kernel) f1) (fi_of (by decide +kernel) f2)) (fS_tr (fS_of (by decide +kernel) f1) (fS_of (by decide +kernel) f2)) (fs_tr (fs_of (by decide +kernel) f1) (fs_of (by decide +kernel) f2))⟩
theorem ar_9 (hL : L ≤ 3072) (hv : vz.category = 1) : lq_p9 L xs vz (p8_J L xs) := by
  intro μ x1 x2 hx1 hx2 hJ
  refine iv_C_mono (pb_52 hv (by decide) hJ.1) (fun r μ1 hp => ?_)
  obtain ⟨j1, f1, v, rfl, -⟩ := hp
  refine ⟨v, rfl, iv_C_mono (pb_246 hv (by decide) j1) (fun r2 μ2 hp2 => ?_)⟩
  obtain ⟨j2, f2, w, rfl, -⟩ := hp2
  exact ⟨w, rfl, p8_keep hJ j2 (fL_tr (fL_of (by decide +kernel) f1) (fL_of (by decide +kernel) f2)) (fK_tr (fK_of (by decide +kernel) f1) (fK_of (by decide +kernel) f2)) (fl_tr (fl_of (by decide +kernel) f1) (fl_of (by decide +kernel) f2)) (fk8_tr (fk8_of (by decide +kernel) f1) (fk8_of (by decide +kernel) f2)) (fI_tr (fI_of (by decide +kernel) f1) (fI_of (by decide +kernel) f2)) (fi_tr (fi_of (by decide +kernel) f1) (fi_of (by decide +kernel) f2)) (fS_tr (fS_of (by decide +kernel) f1) (fS_of (by decide +kernel) f2)) (fs_tr (fs_of (by decide +kernel) f1) (fs_of (by decide +kernel) f2))⟩
theorem ar_10 (hL : L ≤ 3072) (hv : vz.category = 1) : lq_p10 L xs vz (p8_J L xs) := by
  intro μ x1 x2 x3 x4 x5 hx1 hx2 hx3 hx4 hx5 hJ
  refine iv_C_mono (pb_56 hv (by decide) hJ.1) (fun r μ1 hp => ?_)
  obtain ⟨j1, f1, v, rfl, -⟩ := hp
  refine ⟨v, rfl, iv_C_mono (pb_252 hv (by decide) j1) (fun r2 μ2 hp2 => ?_)⟩
  obtain ⟨j2, f2, w, rfl, -⟩ := hp2
  exact ⟨w, rfl, p8_keep hJ j2 (fL_tr (fL_of (by decide +kernel) f1) (fL_of (by decide +kernel) f2)) (fK_tr (fK_of (by decide +kernel) f1) (fK_of (by decide +kernel) f2)) (fl_tr (fl_of (by decide +kernel) f1) (fl_of (by decide +kernel) f2)) (fk8_tr (fk8_of (by decide +kernel) f1) (fk8_of (by decide +kernel) f2)) (fI_tr (fI_of (by decide +kernel) f1) (fI_of (by decide +kernel) f2)) (fi_tr (fi_of (by decide +kernel) f1) (fi_of (by decide +kernel) f2)) (fS_tr (fS_of (by decide +kernel) f1) (fS_of (by decide +kernel) f2)) (fs_tr (fs_of (by decide +kernel) f1) (fs_of (by decide +kernel) f2))⟩
theorem ar_11 (hL : L ≤ 3072) (hv : vz.category = 1) : lq_p11 L xs vz (p8_J L xs) := by
  intro μ x1 hx1 hJ
  refine iv_C_mono (pb_65 hv (by decide) hJ.1) (fun r μ1 hp => ?_)
  obtain ⟨j1, f1, v, rfl, -⟩ := hp
  refine ⟨v, rfl, iv_C_mono (pb_304 hv (by decide) j1) (fun r2 μ2 hp2 => ?_)⟩
  obtain ⟨j2, f2, w, rfl, -⟩ := hp2
  exact ⟨w, rfl, p8_keep hJ j2 (fL_tr (fL_of (by decide +kernel) f1) (fL_of (by decide +kernel) f2)) (fK_tr (fK_of (by decide +kernel) f1) (fK_of (by decide +kernel) f2)) (fl_tr (fl_of (by decide +kernel) f1) (fl_of (by decide +kernel) f2)) (fk8_tr (fk8_of (by decide +kernel) f1) (fk8_of (by decide +kernel) f2)) (fI_tr (fI_of (by decide +kernel) f1) (fI_of (by decide +kernel) f2)) (fi_tr (fi_of (by decide +kernel) f1) (fi_of (by decide +kernel) f2)) (fS_tr (fS_of (by decide +kernel) f1) (fS_of (by decide +kernel) f2)) (fs_tr (fs_of (by decide +kernel) f1) (fs_of (by decide +kernel) f2))⟩
theorem ar_12 (hL : L ≤ 3072) (hv : vz.category = 1) : lq_p12 L xs vz (p8_J L xs) := by
  intro μ x1 x2 hx1 hx2 hJ
  refine iv_C_mono (pb_93 hv (by decide) hJ.1) (fun r μ1 hp => ?_)
  obtain ⟨j1, f1, v, rfl, -⟩ := hp
  refine ⟨v, rfl, iv_C_mono (pb_256 hv (by decide) j1) (fun r2 μ2 hp2 => ?_)⟩
  obtain ⟨j2, f2, w, rfl, -⟩ := hp2
  exact ⟨w, rfl, p8_keep hJ j2 (fL_tr (fL_of (by decide +kernel) f1) (fL_of (by decide +kernel) f2)) (fK_tr (fK_of (by decide +kernel) f1) (fK_of (by decide +kernel) f2)) (fl_tr (fl_of (by decide +kernel) f1) (fl_of (by decide +kernel) f2)) (fk8_tr (fk8_of (by decide +kernel) f1) (fk8_of (by decide +kernel) f2)) (fI_tr (fI_of (by decide +kernel) f1) (fI_of (by decide +kernel) f2)) (fi_tr (fi_of (by decide +kernel) f1) (fi_of (by decide +kernel) f2)) (fS_tr (fS_of (by decide +kernel) f1) (fS_of (by decide +kernel) f2)) (fs_tr (fs_of (by decide +kernel) f1) (fs_of (by decide +kernel) f2))⟩
theorem ar_13 (hL : L ≤ 3072) (hv : vz.category = 1) : lq_p13 L xs vz (p8_J L xs) := by
  intro μ x1 x2 hx1 hx2 hJ
  refine iv_C_mono (pb_94 hv (by decide) hJ.1) (fun r μ1 hp => ?_)
  obtain ⟨j1, f1, v, rfl, -⟩ := hp
  refine ⟨v, rfl, iv_C_mono (pb_262 hv (by decide) j1) (fun r2 μ2 hp2 => ?_)⟩
  obtain ⟨j2, f2, w, rfl, -⟩ := hp2
  exact ⟨w, rfl, p8_keep hJ j2 (fL_tr (fL_of (by decide +kernel) f1) (fL_of (by decide +kernel) f2)) (fK_tr (fK_of (by decide +kernel) f1) (fK_of (by decide +kernel) f2)) (fl_tr (fl_of (by decide +kernel) f1) (fl_of (by decide +kernel) f2)) (fk8_tr (fk8_of (by decide +kernel) f1) (fk8_of (by decide +kernel) f2)) (fI_tr (fI_of (by decide +kernel) f1) (fI_of (by decide +kernel) f2)) (fi_tr (fi_of (by decide +kernel) f1) (fi_of (by decide +kernel) f2)) (fS_tr (fS_of (by decide +kernel) f1) (fS_of (by decide +kernel) f2)) (fs_tr (fs_of (by decide +kernel) f1) (fs_of (by decide +kernel) f2))⟩
theorem ar_14 (hL : L ≤ 3072) (hv : vz.category = 1) : lq_p14 L xs vz (p8_J L xs) := by
  intro μ hJ
  refine iv_C_mono (pb_96 hv (by decide) hJ.1) (fun r μ1 hp => ?_)
  obtain ⟨j1, f1, v, rfl, -⟩ := hp
  refine ⟨v, rfl, iv_C_mono (pb_249 hv (by decide) j1) (fun r2 μ2 hp2 => ?_)⟩
  obtain ⟨j2, f2, w, rfl, -⟩ := hp2
  exact ⟨w, rfl, p8_keep hJ j2 (fL_tr (fL_of (by decide +kernel) f1) (fL_of (by decide +kernel) f2)) (fK_tr (fK_of (by decide +kernel) f1) (fK_of (by decide +kernel) f2)) (fl_tr (fl_of (by decide +kernel) f1) (fl_of (by decide +kernel) f2)) (fk8_tr (fk8_of (by decide +kernel) f1) (fk8_of (by decide +kernel) f2)) (fI_tr (fI_of (by decide +kernel) f1) (fI_of (by decide +kernel) f2)) (fi_tr (fi_of (by decide +kernel) f1) (fi_of (by decide +kernel) f2)) (fS_tr (fS_of (by decide +kernel) f1) (fS_of (by decide +kernel) f2)) (fs_tr (fs_of (by decide +kernel) f1) (fs_of (by decide +kernel) f2))⟩
theorem ar_15 (hL : L ≤ 3072) (hv : vz.category = 1) : lq_p15 L xs vz (p8_J L xs) := by
  intro μ x1 hx1 hJ
  refine iv_C_mono (pb_97 hv (by decide) hJ.1) (fun r μ1 hp => ?_)
  obtain ⟨j1, f1, v, rfl, -⟩ := hp
  refine ⟨v, rfl, iv_C_mono (pb_251 hv (by decide) j1) (fun r2 μ2 hp2 => ?_)⟩
  obtain ⟨j2, f2, w, rfl, -⟩ := hp2
  exact ⟨w, rfl, p8_keep hJ j2 (fL_tr (fL_of (by decide +kernel) f1) (fL_of (by decide +kernel) f2)) (fK_tr (fK_of (by decide +kernel) f1) (fK_of (by decide +kernel) f2)) (fl_tr (fl_of (by decide +kernel) f1) (fl_of (by decide +kernel) f2)) (fk8_tr (fk8_of (by decide +kernel) f1) (fk8_of (by decide +kernel) f2)) (fI_tr (fI_of (by decide +kernel) f1) (fI_of (by decide +kernel) f2)) (fi_tr (fi_of (by decide +kernel) f1) (fi_of (by decide +kernel) f2)) (fS_tr (fS_of (by decide +kernel) f1) (fS_of (by decide +kernel) f2)) (fs_tr (fs_of (by decide +kernel) f1) (fs_of (by decide +kernel) f2))⟩
theorem ar_16 (hL : L ≤ 3072) (hv : vz.category = 1) : lq_p16 L xs vz (p8_J L xs) := by
  intro μ x1 x2 hx1 hx2 hJ
  refine iv_C_mono (pb_98 hv (by decide) hJ.1) (fun r μ1 hp => ?_)
  obtain ⟨j1, f1, v, rfl, -⟩ := hp
  refine ⟨v, rfl, iv_C_mono (pb_265 hv (by decide) j1) (fun r2 μ2 hp2 => ?_)⟩
  obtain ⟨j2, f2, w, rfl, -⟩ := hp2
  exact ⟨w, rfl, p8_keep hJ j2 (fL_tr (fL_of (by decide +kernel) f1) (fL_of (by decide +kernel) f2)) (fK_tr (fK_of (by decide +kernel) f1) (fK_of (by decide +kernel) f2)) (fl_tr (fl_of (by decide +kernel) f1) (fl_of (by decide +kernel) f2)) (fk8_tr (fk8_of (by decide +kernel) f1) (fk8_of (by decide +kernel) f2)) (fI_tr (fI_of (by decide +kernel) f1) (fI_of (by decide +kernel) f2)) (fi_tr (fi_of (by decide +kernel) f1) (fi_of (by decide +kernel) f2)) (fS_tr (fS_of (by decide +kernel) f1) (fS_of (by decide +kernel) f2)) (fs_tr (fs_of (by decide +kernel) f1) (fs_of (by decide +kernel) f2))⟩
theorem ar_17 (hL : L ≤ 3072) (hv : vz.category = 1) : lq_p17 L xs vz (p8_J L xs) := by
  intro μ x1 x2 hx1 hx2 hJ
  refine iv_C_N (fun hN _ => ?_)
  have en : μ 39 2 = μ 196 0 := hJ.2.1.1
  have em : μ 39 4 = μ 196 1 := hJ.2.1.2.1
  have hc := kn0 hJ.1 hN
  have hm := kn1 hJ.1 hN
  rw [← en] at hc
  rw [← em] at hm
  refine iv_C_mono (br_and (c_day hL hv (by decide) hJ.1 hc) (pb_102 hv (by decide) hJ.1) (fun r hr => by obtain ⟨w, e, -⟩ := hr; exact ⟨w, e⟩)) (fun r μ1 hp => ?_)
  obtain ⟨q, j1, cL1, cK1, cl1, ck81, cI1, ci1, cS1, cs1, v, rfl⟩ := hp
  refine ⟨v, rfl, iv_C_N (fun hN1 _ => iv_C_mono (br_and (k_day hL hv (by decide) j1) (pb_269 hv (by decide) j1) (fun r hr => by obtain ⟨w, e, -⟩ := hr; exact ⟨w, e⟩)) (fun r2 μ2 hp2 => ?_))⟩
  obtain ⟨q2, j2, cL2, cK2, cl2, ck82, cI2, ci2, cS2, cs2, w, rfl⟩ := hp2
  refine ⟨w, rfl, ?_⟩
  have l1 : fl μ μ1 := cl1 (by decide +kernel)
  have L2 : fL μ1 μ2 := cL2 (by decide +kernel)
  by_cases g : gday x1 x2
  · exact p8_mk hJ j2 (R8_cong (R8_pas (R8_cong hJ.2.1 (veq_rfl _) l1) (q.2 g) (q2.2 g)) L2 (veq_rfl _)) (fK_tr (cK1 (by decide +kernel)) (cK2 (by decide +kernel))) (fk8_tr (ck81 (by decide +kernel)) (ck82 (by decide +kernel))) (fI_tr (cI1 (by decide +kernel)) (cI2 (by decide +kernel))) (fi_tr (ci1 (by decide +kernel)) (ci2 (by decide +kernel))) (fS_tr (cS1 (by decide +kernel)) (cS2 (by decide +kernel))) (fs_tr (cs1 (by decide +kernel)) (cs2 (by decide +kernel)))
  · exact p8_keep hJ j2 (fL_tr (veq_of (q.1 g)) L2) (fK_tr (cK1 (by decide +kernel)) (cK2 (by decide +kernel))) (fl_tr l1 (veq_of (q2.1 g))) (fk8_tr (ck81 (by decide +kernel)) (ck82 (by decide +kernel))) (fI_tr (cI1 (by decide +kernel)) (cI2 (by decide +kernel))) (fi_tr (ci1 (by decide +kernel)) (ci2 (by decide +kernel))) (fS_tr (cS1 (by decide +kernel)) (cS2 (by decide +kernel))) (fs_tr (cs1 (by decide +kernel)) (cs2 (by decide +kernel)))
theorem ar_18 (hL : L ≤ 3072) (hv : vz.category = 1) : lq_p18 L xs vz (p8_J L xs) := by
  intro μ x1 x2 hx1 hx2 hJ
  refine iv_C_N (fun hN _ => ?_)
  have en : μ 39 2 = μ 196 0 := hJ.2.1.1
  have em : μ 39 4 = μ 196 1 := hJ.2.1.2.1
  have hc := kn0 hJ.1 hN
  have hm := kn1 hJ.1 hN
  rw [← en] at hc
  rw [← em] at hm
  refine iv_C_mono (br_and (c_days hL hv (by decide) hJ.1 hc) (pb_121 hv (by decide) hJ.1) (fun r hr => by obtain ⟨w, e, -⟩ := hr; exact ⟨w, e⟩)) (fun r μ1 hp => ?_)
  obtain ⟨q, j1, cL1, cK1, cl1, ck81, cI1, ci1, cS1, cs1, v, rfl⟩ := hp
  refine ⟨v, rfl, iv_C_N (fun hN1 _ => iv_C_mono (br_and (k_days hL hv (by decide) j1) (pb_281 hv (by decide) j1) (fun r hr => by obtain ⟨w, e, -⟩ := hr; exact ⟨w, e⟩)) (fun r2 μ2 hp2 => ?_))⟩
  obtain ⟨q2, j2, cL2, cK2, cl2, ck82, cI2, ci2, cS2, cs2, w, rfl⟩ := hp2
  refine ⟨w, rfl, ?_⟩
  have l1 : fl μ μ1 := cl1 (by decide +kernel)
  have L2 : fL μ1 μ2 := cL2 (by decide +kernel)
  have s1 : fs μ μ1 := cs1 (by decide +kernel)
  have e : 0 ≤ x2 → x2 < 4 → μ1 209 x2 = μ (x2 * 2 + 174) 0 := fun a b => (s1 x2 a b).trans (hJ.2.2.2.2 x2 a b).symm
  by_cases g : gdays x1 x2 (μ (x2 * 2 + 174) 0)
  · have g' : gdays x1 x2 (μ1 209 x2) := by
      have z := g
      unfold gdays at z
      rw [e (by omega) (by omega)]
      exact g
    exact p8_mk hJ j2 (R8_cong (R8_pasn _ (R8_cong hJ.2.1 (veq_rfl _) l1) (q.2 g) (q2.2 g')) L2 (veq_rfl _)) (fK_tr (cK1 (by decide +kernel)) (cK2 (by decide +kernel))) (fk8_tr (ck81 (by decide +kernel)) (ck82 (by decide +kernel))) (fI_tr (cI1 (by decide +kernel)) (cI2 (by decide +kernel))) (fi_tr (ci1 (by decide +kernel)) (ci2 (by decide +kernel))) (fS_tr (cS1 (by decide +kernel)) (cS2 (by decide +kernel))) (fs_tr (cs1 (by decide +kernel)) (cs2 (by decide +kernel)))
  · have g' : ¬ gdays x1 x2 (μ1 209 x2) := fun z => by
      have y := z
      unfold gdays at y
      rw [e (by omega) (by omega)] at z
      exact g z
    exact p8_keep hJ j2 (fL_tr (veq_of (q.1 g)) L2) (fK_tr (cK1 (by decide +kernel)) (cK2 (by decide +kernel))) (fl_tr l1 (veq_of (q2.1 g'))) (fk8_tr (ck81 (by decide +kernel)) (ck82 (by decide +kernel))) (fI_tr (cI1 (by decide +kernel)) (cI2 (by decide +kernel))) (fi_tr (ci1 (by decide +kernel)) (ci2 (by decide +kernel))) (fS_tr (cS1 (by decide +kernel)) (cS2 (by decide +kernel))) (fs_tr (cs1 (by decide +kernel)) (cs2 (by decide +kernel)))
theorem ar_19 (hL : L ≤ 3072) (hv : vz.category = 1) : lq_p19 L xs vz (p8_J L xs) := by
  intro μ x1 hx1 hJ
  refine iv_C_mono (pb_125 hv (by decide) hJ.1) (fun r μ1 hp => ?_)
  obtain ⟨j1, f1, v, rfl, -⟩ := hp
  refine ⟨v, rfl, iv_C_mono (pb_283 hv (by decide) j1) (fun r2 μ2 hp2 => ?_)⟩
  obtain ⟨j2, f2, w, rfl, -⟩ := hp2
  exact ⟨w, rfl, p8_keep hJ j2 (fL_tr (fL_of (by decide +kernel) f1) (fL_of (by decide +kernel) f2)) (fK_tr (fK_of (by decide +kernel) f1) (fK_of (by decide +kernel) f2)) (fl_tr (fl_of (by decide +kernel) f1) (fl_of (by decide +kernel) f2)) (fk8_tr (fk8_of (by decide +kernel) f1) (fk8_of (by decide +kernel) f2)) (fI_tr (fI_of (by decide +kernel) f1) (fI_of (by decide +kernel) f2)) (fi_tr (fi_of (by decide +kernel) f1) (fi_of (by decide +kernel) f2)) (fS_tr (fS_of (by decide +kernel) f1) (fS_of (by decide +kernel) f2)) (fs_tr (fs_of (by decide +kernel) f1) (fs_of (by decide +kernel) f2))⟩
theorem ar_20 (hL : L ≤ 3072) (hv : vz.category = 1) : lq_p20 L xs vz (p8_J L xs) := by
  intro μ x1 y hx1 hy hJ
  refine iv_C_mono (pb_127 hv (by decide) hJ.1) (fun r μ1 hp => ?_)
  obtain ⟨j1, f1, v, rfl, -⟩ := hp
  refine ⟨v, rfl, iv_C_mono (pb_286 hv (by decide) j1) (fun r2 μ2 hp2 => ?_)⟩
  obtain ⟨j2, f2, w, rfl, -⟩ := hp2
  exact ⟨w, rfl, p8_keep hJ j2 (fL_tr (fL_of (by decide +kernel) f1) (fL_of (by decide +kernel) f2)) (fK_tr (fK_of (by decide +kernel) f1) (fK_of (by decide +kernel) f2)) (fl_tr (fl_of (by decide +kernel) f1) (fl_of (by decide +kernel) f2)) (fk8_tr (fk8_of (by decide +kernel) f1) (fk8_of (by decide +kernel) f2)) (fI_tr (fI_of (by decide +kernel) f1) (fI_of (by decide +kernel) f2)) (fi_tr (fi_of (by decide +kernel) f1) (fi_of (by decide +kernel) f2)) (fS_tr (fS_of (by decide +kernel) f1) (fS_of (by decide +kernel) f2)) (fs_tr (fs_of (by decide +kernel) f1) (fs_of (by decide +kernel) f2))⟩
theorem ar_21 (hL : L ≤ 3072) (hv : vz.category = 1) : lq_p21 L xs vz (p8_J L xs) := by
  intro μ x1 hx1 hJ
  refine iv_C_mono (pb_130 hv (by decide) hJ.1) (fun r μ1 hp => ?_)
  obtain ⟨j1, f1, v, rfl, -⟩ := hp
  refine ⟨v, rfl, iv_C_mono (pb_287 hv (by decide) j1) (fun r2 μ2 hp2 => ?_)⟩
  obtain ⟨j2, f2, w, rfl, -⟩ := hp2
  exact ⟨w, rfl, p8_keep hJ j2 (fL_tr (fL_of (by decide +kernel) f1) (fL_of (by decide +kernel) f2)) (fK_tr (fK_of (by decide +kernel) f1) (fK_of (by decide +kernel) f2)) (fl_tr (fl_of (by decide +kernel) f1) (fl_of (by decide +kernel) f2)) (fk8_tr (fk8_of (by decide +kernel) f1) (fk8_of (by decide +kernel) f2)) (fI_tr (fI_of (by decide +kernel) f1) (fI_of (by decide +kernel) f2)) (fi_tr (fi_of (by decide +kernel) f1) (fi_of (by decide +kernel) f2)) (fS_tr (fS_of (by decide +kernel) f1) (fS_of (by decide +kernel) f2)) (fs_tr (fs_of (by decide +kernel) f1) (fs_of (by decide +kernel) f2))⟩
theorem ar_22 (hL : L ≤ 3072) (hv : vz.category = 1) : lq_p22 L xs vz (p8_J L xs) := by
  intro μ x1 x2 hx1 hx2 hJ
  refine iv_C_mono (pb_165 hv (by decide) hJ.1) (fun r μ1 hp => ?_)
  obtain ⟨j1, f1, v, rfl, -⟩ := hp
  refine ⟨v, rfl, iv_C_mono (pb_301 hv (by decide) j1) (fun r2 μ2 hp2 => ?_)⟩
  obtain ⟨j2, f2, w, rfl, -⟩ := hp2
  exact ⟨w, rfl, p8_keep hJ j2 (fL_tr (fL_of (by decide +kernel) f1) (fL_of (by decide +kernel) f2)) (fK_tr (fK_of (by decide +kernel) f1) (fK_of (by decide +kernel) f2)) (fl_tr (fl_of (by decide +kernel) f1) (fl_of (by decide +kernel) f2)) (fk8_tr (fk8_of (by decide +kernel) f1) (fk8_of (by decide +kernel) f2)) (fI_tr (fI_of (by decide +kernel) f1) (fI_of (by decide +kernel) f2)) (fi_tr (fi_of (by decide +kernel) f1) (fi_of (by decide +kernel) f2)) (fS_tr (fS_of (by decide +kernel) f1) (fS_of (by decide +kernel) f2)) (fs_tr (fs_of (by decide +kernel) f1) (fs_of (by decide +kernel) f2))⟩
theorem ar_23 (hL : L ≤ 3072) (hv : vz.category = 1) : lq_p23 L xs vz (p8_J L xs) := by
  intro μ x1 hx1 hJ
  refine iv_C_mono (pb_167 hv (by decide) hJ.1) (fun r μ1 hp => ?_)
  obtain ⟨j1, f1, v, rfl, -⟩ := hp
  refine ⟨v, rfl, iv_C_mono (pb_302 hv (by decide) j1) (fun r2 μ2 hp2 => ?_)⟩
  obtain ⟨j2, f2, w, rfl, -⟩ := hp2
  exact ⟨w, rfl, p8_keep hJ j2 (fL_tr (fL_of (by decide +kernel) f1) (fL_of (by decide +kernel) f2)) (fK_tr (fK_of (by decide +kernel) f1) (fK_of (by decide +kernel) f2)) (fl_tr (fl_of (by decide +kernel) f1) (fl_of (by decide +kernel) f2)) (fk8_tr (fk8_of (by decide +kernel) f1) (fk8_of (by decide +kernel) f2)) (fI_tr (fI_of (by decide +kernel) f1) (fI_of (by decide +kernel) f2)) (fi_tr (fi_of (by decide +kernel) f1) (fi_of (by decide +kernel) f2)) (fS_tr (fS_of (by decide +kernel) f1) (fS_of (by decide +kernel) f2)) (fs_tr (fs_of (by decide +kernel) f1) (fs_of (by decide +kernel) f2))⟩
theorem ar_24 (hL : L ≤ 3072) (hv : vz.category = 1) : lq_p24 L xs vz (p8_J L xs) := by
  intro μ x1 x2 hx1 hx2 hJ
  refine iv_C_mono (pb_169 hv (by decide) hJ.1) (fun r μ1 hp => ?_)
  obtain ⟨j1, f1, v, rfl, -⟩ := hp
  refine ⟨v, rfl, iv_C_mono (pb_310 hv (by decide) j1) (fun r2 μ2 hp2 => ?_)⟩
  obtain ⟨j2, f2, w, rfl, -⟩ := hp2
  exact ⟨w, rfl, p8_keep hJ j2 (fL_tr (fL_of (by decide +kernel) f1) (fL_of (by decide +kernel) f2)) (fK_tr (fK_of (by decide +kernel) f1) (fK_of (by decide +kernel) f2)) (fl_tr (fl_of (by decide +kernel) f1) (fl_of (by decide +kernel) f2)) (fk8_tr (fk8_of (by decide +kernel) f1) (fk8_of (by decide +kernel) f2)) (fI_tr (fI_of (by decide +kernel) f1) (fI_of (by decide +kernel) f2)) (fi_tr (fi_of (by decide +kernel) f1) (fi_of (by decide +kernel) f2)) (fS_tr (fS_of (by decide +kernel) f1) (fS_of (by decide +kernel) f2)) (fs_tr (fs_of (by decide +kernel) f1) (fs_of (by decide +kernel) f2))⟩
theorem ar_25 (hL : L ≤ 3072) (hv : vz.category = 1) : lq_p25 L xs vz (p8_J L xs) := by
  intro μ x1 x2 hx1 hx2 hJ
  refine iv_C_mono (pb_170 hv (by decide) hJ.1) (fun r μ1 hp => ?_)
  obtain ⟨j1, f1, v, rfl, -⟩ := hp
  refine ⟨v, rfl, iv_C_mono (pb_311 hv (by decide) j1) (fun r2 μ2 hp2 => ?_)⟩
  obtain ⟨j2, f2, w, rfl, -⟩ := hp2
  exact ⟨w, rfl, p8_keep hJ j2 (fL_tr (fL_of (by decide +kernel) f1) (fL_of (by decide +kernel) f2)) (fK_tr (fK_of (by decide +kernel) f1) (fK_of (by decide +kernel) f2)) (fl_tr (fl_of (by decide +kernel) f1) (fl_of (by decide +kernel) f2)) (fk8_tr (fk8_of (by decide +kernel) f1) (fk8_of (by decide +kernel) f2)) (fI_tr (fI_of (by decide +kernel) f1) (fI_of (by decide +kernel) f2)) (fi_tr (fi_of (by decide +kernel) f1) (fi_of (by decide +kernel) f2)) (fS_tr (fS_of (by decide +kernel) f1) (fS_of (by decide +kernel) f2)) (fs_tr (fs_of (by decide +kernel) f1) (fs_of (by decide +kernel) f2))⟩
theorem ar_26 (hL : L ≤ 3072) (hv : vz.category = 1) : lq_p26 L xs vz (p8_J L xs) := by
  intro μ x1 hx1 hJ
  refine iv_C_mono (pb_172 hv (by decide) hJ.1) (fun r μ1 hp => ?_)
  obtain ⟨j1, f1, v, rfl, -⟩ := hp
  refine ⟨v, rfl, iv_C_mono (pb_312 hv (by decide) j1) (fun r2 μ2 hp2 => ?_)⟩
  obtain ⟨j2, f2, w, rfl, -⟩ := hp2
  exact ⟨w, rfl, p8_keep hJ j2 (fL_tr (fL_of (by decide +kernel) f1) (fL_of (by decide +kernel) f2)) (fK_tr (fK_of (by decide +kernel) f1) (fK_of (by decide +kernel) f2)) (fl_tr (fl_of (by decide +kernel) f1) (fl_of (by decide +kernel) f2)) (fk8_tr (fk8_of (by decide +kernel) f1) (fk8_of (by decide +kernel) f2)) (fI_tr (fI_of (by decide +kernel) f1) (fI_of (by decide +kernel) f2)) (fi_tr (fi_of (by decide +kernel) f1) (fi_of (by decide +kernel) f2)) (fS_tr (fS_of (by decide +kernel) f1) (fS_of (by decide +kernel) f2)) (fs_tr (fs_of (by decide +kernel) f1) (fs_of (by decide +kernel) f2))⟩
theorem ar_27 (hL : L ≤ 3072) (hv : vz.category = 1) : lq_p27 L xs vz (p8_J L xs) := by
  intro μ x1 hx1 hJ
  refine iv_C_mono (pb_174 hv (by decide) hJ.1) (fun r μ1 hp => ?_)
  obtain ⟨j1, f1, v, rfl, -⟩ := hp
  refine ⟨v, rfl, iv_C_mono (pb_267 hv (by decide) j1) (fun r2 μ2 hp2 => ?_)⟩
  obtain ⟨j2, f2, w, rfl, -⟩ := hp2
  exact ⟨w, rfl, p8_keep hJ j2 (fL_tr (fL_of (by decide +kernel) f1) (fL_of (by decide +kernel) f2)) (fK_tr (fK_of (by decide +kernel) f1) (fK_of (by decide +kernel) f2)) (fl_tr (fl_of (by decide +kernel) f1) (fl_of (by decide +kernel) f2)) (fk8_tr (fk8_of (by decide +kernel) f1) (fk8_of (by decide +kernel) f2)) (fI_tr (fI_of (by decide +kernel) f1) (fI_of (by decide +kernel) f2)) (fi_tr (fi_of (by decide +kernel) f1) (fi_of (by decide +kernel) f2)) (fS_tr (fS_of (by decide +kernel) f1) (fS_of (by decide +kernel) f2)) (fs_tr (fs_of (by decide +kernel) f1) (fs_of (by decide +kernel) f2))⟩
theorem ar_28 (hL : L ≤ 3072) (hv : vz.category = 1) : lq_p28 L xs vz (p8_J L xs) := by
  intro μ x1 x2 hx1 hx2 hJ
  refine iv_C_mono (pb_176 hv (by decide) hJ.1) (fun r μ1 hp => ?_)
  obtain ⟨j1, f1, v, rfl, -⟩ := hp
  refine ⟨v, rfl, iv_C_mono (pb_268 hv (by decide) j1) (fun r2 μ2 hp2 => ?_)⟩
  obtain ⟨j2, f2, w, rfl, -⟩ := hp2
  exact ⟨w, rfl, p8_keep hJ j2 (fL_tr (fL_of (by decide +kernel) f1) (fL_of (by decide +kernel) f2)) (fK_tr (fK_of (by decide +kernel) f1) (fK_of (by decide +kernel) f2)) (fl_tr (fl_of (by decide +kernel) f1) (fl_of (by decide +kernel) f2)) (fk8_tr (fk8_of (by decide +kernel) f1) (fk8_of (by decide +kernel) f2)) (fI_tr (fI_of (by decide +kernel) f1) (fI_of (by decide +kernel) f2)) (fi_tr (fi_of (by decide +kernel) f1) (fi_of (by decide +kernel) f2)) (fS_tr (fS_of (by decide +kernel) f1) (fS_of (by decide +kernel) f2)) (fs_tr (fs_of (by decide +kernel) f1) (fs_of (by decide +kernel) f2))⟩
theorem ar_29 (hL : L ≤ 3072) (hv : vz.category = 1) : lq_p29 L xs vz (p8_J L xs) := by
  intro μ x1 x2 hx1 hx2 hJ
  refine iv_C_mono (pb_178 hv (by decide) hJ.1) (fun r μ1 hp => ?_)
  obtain ⟨j1, f1, v, rfl, -⟩ := hp
  refine ⟨v, rfl, iv_C_mono (pb_313 hv (by decide) j1) (fun r2 μ2 hp2 => ?_)⟩
  obtain ⟨j2, f2, w, rfl, -⟩ := hp2
  exact ⟨w, rfl, p8_keep hJ j2 (fL_tr (fL_of (by decide +kernel) f1) (fL_of (by decide +kernel) f2)) (fK_tr (fK_of (by decide +kernel) f1) (fK_of (by decide +kernel) f2)) (fl_tr (fl_of (by decide +kernel) f1) (fl_of (by decide +kernel) f2)) (fk8_tr (fk8_of (by decide +kernel) f1) (fk8_of (by decide +kernel) f2)) (fI_tr (fI_of (by decide +kernel) f1) (fI_of (by decide +kernel) f2)) (fi_tr (fi_of (by decide +kernel) f1) (fi_of (by decide +kernel) f2)) (fS_tr (fS_of (by decide +kernel) f1) (fS_of (by decide +kernel) f2)) (fs_tr (fs_of (by decide +kernel) f1) (fs_of (by decide +kernel) f2))⟩
theorem ar_30 (hL : L ≤ 3072) (hv : vz.category = 1) : lq_p30 L xs vz (p8_J L xs) := by
  intro μ x1 b hx1 hb hJ
  refine iv_C_mono (pb_186 hv (by decide) hJ.1 hb) (fun r μ1 hp => ?_)
  obtain ⟨j1, f1, v, rfl, -⟩ := hp
  refine ⟨v, rfl, iv_C_mono (pb_316 hv (by decide) j1 hb) (fun r2 μ2 hp2 => ?_)⟩
  obtain ⟨j2, f2, w, rfl, -⟩ := hp2
  exact ⟨w, rfl, p8_keep hJ j2 (fL_tr (fL_of (by decide +kernel) f1) (fL_of (by decide +kernel) f2)) (fK_tr (fK_of (by decide +kernel) f1) (fK_of (by decide +kernel) f2)) (fl_tr (fl_of (by decide +kernel) f1) (fl_of (by decide +kernel) f2)) (fk8_tr (fk8_of (by decide +kernel) f1) (fk8_of (by decide +kernel) f2)) (fI_tr (fI_of (by decide +kernel) f1) (fI_of (by decide +kernel) f2)) (fi_tr (fi_of (by decide +kernel) f1) (fi_of (by decide +kernel) f2)) (fS_tr (fS_of (by decide +kernel) f1) (fS_of (by decide +kernel) f2)) (fs_tr (fs_of (by decide +kernel) f1) (fs_of (by decide +kernel) f2))⟩
theorem ar_31 (hL : L ≤ 3072) (hv : vz.category = 1) : lq_p31 L xs vz (p8_J L xs) := by
  intro μ x1 x2 x3 hx1 hx2 hx3 hJ
  refine iv_C_mono (pb_190 hv (by decide) hJ.1) (fun r μ1 hp => ?_)
  obtain ⟨j1, f1, v, rfl, -⟩ := hp
  refine ⟨v, rfl, iv_C_mono (pb_318 hv (by decide) j1) (fun r2 μ2 hp2 => ?_)⟩
  obtain ⟨j2, f2, w, rfl, -⟩ := hp2
  exact ⟨w, rfl, p8_keep hJ j2 (fL_tr (fL_of (by decide +kernel) f1) (fL_of (by decide +kernel) f2)) (fK_tr (fK_of (by decide +kernel) f1) (fK_of (by decide +kernel) f2)) (fl_tr (fl_of (by decide +kernel) f1) (fl_of (by decide +kernel) f2)) (fk8_tr (fk8_of (by decide +kernel) f1) (fk8_of (by decide +kernel) f2)) (fI_tr (fI_of (by decide +kernel) f1) (fI_of (by decide +kernel) f2)) (fi_tr (fi_of (by decide +kernel) f1) (fi_of (by decide +kernel) f2)) (fS_tr (fS_of (by decide +kernel) f1) (fS_of (by decide +kernel) f2)) (fs_tr (fs_of (by decide +kernel) f1) (fs_of (by decide +kernel) f2))⟩
theorem ar_32 (hL : L ≤ 3072) (hv : vz.category = 1) : lq_p32 L xs vz (p8_J L xs) := by
  intro μ x1 x2 hx1 hx2 hJ
  refine iv_C_mono (pb_192 hv (by decide) hJ.1) (fun r μ1 hp => ?_)
  obtain ⟨j1, f1, v, rfl, -⟩ := hp
  refine ⟨v, rfl, iv_C_mono (pb_319 hv (by decide) j1) (fun r2 μ2 hp2 => ?_)⟩
  obtain ⟨j2, f2, w, rfl, -⟩ := hp2
  exact ⟨w, rfl, p8_keep hJ j2 (fL_tr (fL_of (by decide +kernel) f1) (fL_of (by decide +kernel) f2)) (fK_tr (fK_of (by decide +kernel) f1) (fK_of (by decide +kernel) f2)) (fl_tr (fl_of (by decide +kernel) f1) (fl_of (by decide +kernel) f2)) (fk8_tr (fk8_of (by decide +kernel) f1) (fk8_of (by decide +kernel) f2)) (fI_tr (fI_of (by decide +kernel) f1) (fI_of (by decide +kernel) f2)) (fi_tr (fi_of (by decide +kernel) f1) (fi_of (by decide +kernel) f2)) (fS_tr (fS_of (by decide +kernel) f1) (fS_of (by decide +kernel) f2)) (fs_tr (fs_of (by decide +kernel) f1) (fs_of (by decide +kernel) f2))⟩
theorem ar_33 (hL : L ≤ 3072) (hv : vz.category = 1) : lq_p33 L xs vz (p8_J L xs) := by
  intro μ x1 x2 hx1 hx2 hJ
  refine iv_C_mono (pb_197 hv (by decide) hJ.1) (fun r μ1 hp => ?_)
  obtain ⟨j1, f1, v, rfl, -⟩ := hp
  refine ⟨v, rfl, iv_C_mono (pb_323 hv (by decide) j1) (fun r2 μ2 hp2 => ?_)⟩
  obtain ⟨j2, f2, w, rfl, -⟩ := hp2
  exact ⟨w, rfl, p8_keep hJ j2 (fL_tr (fL_of (by decide +kernel) f1) (fL_of (by decide +kernel) f2)) (fK_tr (fK_of (by decide +kernel) f1) (fK_of (by decide +kernel) f2)) (fl_tr (fl_of (by decide +kernel) f1) (fl_of (by decide +kernel) f2)) (fk8_tr (fk8_of (by decide +kernel) f1) (fk8_of (by decide +kernel) f2)) (fI_tr (fI_of (by decide +kernel) f1) (fI_of (by decide +kernel) f2)) (fi_tr (fi_of (by decide +kernel) f1) (fi_of (by decide +kernel) f2)) (fS_tr (fS_of (by decide +kernel) f1) (fS_of (by decide +kernel) f2)) (fs_tr (fs_of (by decide +kernel) f1) (fs_of (by decide +kernel) f2))⟩
theorem ar_34 (hL : L ≤ 3072) (hv : vz.category = 1) : lq_p34 L xs vz (p8_J L xs) := by
  intro μ x1 x2 x3 hx1 hx2 hx3 hJ
  refine iv_C_mono (br_and (sheet_c hL (by decide)) (pb_199 hv (by decide) hJ.1) (fun r hr => by obtain ⟨w, e, -⟩ := hr; exact ⟨w, e⟩)) (fun r μ1 hp => ?_)
  obtain ⟨q, j1, cL1, cK1, cl1, ck81, cI1, ci1, cS1, cs1, v, rfl⟩ := hp
  refine ⟨v, rfl, iv_C_N (fun hN1 _ => iv_C_mono (br_and (sheet_r hL (by decide)) (pb_324 hv (by decide) j1) (fun r hr => by obtain ⟨w, e, -⟩ := hr; exact ⟨w, e⟩)) (fun r2 μ2 hp2 => ?_))⟩
  obtain ⟨q2, j2, cL2, cK2, cl2, ck82, cI2, ci2, cS2, cs2, w, rfl⟩ := hp2
  have S2 : fS μ1 μ2 := cS2 (by decide +kernel)
  have s1 : fs μ μ1 := cs1 (by decide +kernel)
  refine ⟨w, rfl, ?_⟩
  by_cases g : sok x1 x2 x3
  · have a := q.1 g
    have b := q2.1 g
    refine ⟨j2, R8_cong hJ.2.1 (fL_tr (cL1 (by decide +kernel)) (cL2 (by decide +kernel))) (fl_tr (cl1 (by decide +kernel)) (cl2 (by decide +kernel))), R8_cong hJ.2.2.1 (fK_tr (cK1 (by decide +kernel)) (cK2 (by decide +kernel))) (fk8_tr (ck81 (by decide +kernel)) (ck82 (by decide +kernel))), ?_, fun s s0 s1' => ?_⟩
    · rw [show μ2 38 2 = μ 38 2 from (fI_tr (cI1 (by decide +kernel)) (cI2 (by decide +kernel))), show μ2 195 2 = μ 195 2 from (fi_tr (ci1 (by decide +kernel)) (ci2 (by decide +kernel))), hJ.2.2.2.1]
    · rw [S2 s s0 s1', a s s0 s1', b s s0 s1', s1 s s0 s1', hJ.2.2.2.2 s s0 s1']
  · exact p8_keep hJ j2 (fL_tr (cL1 (by decide +kernel)) (cL2 (by decide +kernel))) (fK_tr (cK1 (by decide +kernel)) (cK2 (by decide +kernel))) (fl_tr (cl1 (by decide +kernel)) (cl2 (by decide +kernel))) (fk8_tr (ck81 (by decide +kernel)) (ck82 (by decide +kernel))) (fI_tr (cI1 (by decide +kernel)) (cI2 (by decide +kernel))) (fi_tr (ci1 (by decide +kernel)) (ci2 (by decide +kernel))) (fS_tr (q.2 g) S2) (fs_tr s1 (q2.2 g))
theorem ar_35 (hL : L ≤ 3072) (hv : vz.category = 1) : lq_p35 L xs vz (p8_J L xs) := by
  intro μ x1 x2 x3 hx1 hx2 hx3 hJ
  refine iv_C_mono (pb_201 hv (by decide) hJ.1) (fun r μ1 hp => ?_)
  obtain ⟨j1, f1, v, rfl, -⟩ := hp
  refine ⟨v, rfl, iv_C_mono (pb_325 hv (by decide) j1) (fun r2 μ2 hp2 => ?_)⟩
  obtain ⟨j2, f2, w, rfl, -⟩ := hp2
  exact ⟨w, rfl, p8_keep hJ j2 (fL_tr (fL_of (by decide +kernel) f1) (fL_of (by decide +kernel) f2)) (fK_tr (fK_of (by decide +kernel) f1) (fK_of (by decide +kernel) f2)) (fl_tr (fl_of (by decide +kernel) f1) (fl_of (by decide +kernel) f2)) (fk8_tr (fk8_of (by decide +kernel) f1) (fk8_of (by decide +kernel) f2)) (fI_tr (fI_of (by decide +kernel) f1) (fI_of (by decide +kernel) f2)) (fi_tr (fi_of (by decide +kernel) f1) (fi_of (by decide +kernel) f2)) (fS_tr (fS_of (by decide +kernel) f1) (fS_of (by decide +kernel) f2)) (fs_tr (fs_of (by decide +kernel) f1) (fs_of (by decide +kernel) f2))⟩
theorem ar_36 (hL : L ≤ 3072) (hv : vz.category = 1) : lq_p36 L xs vz (p8_J L xs) := by
  intro μ x1 x2 x3 x4 x5 hx1 hx2 hx3 hx4 hx5 hJ
  refine iv_C_mono (pb_203 hv (by decide) hJ.1) (fun r μ1 hp => ?_)
  obtain ⟨j1, f1, v, rfl, -⟩ := hp
  refine ⟨v, rfl, iv_C_mono (pb_326 hv (by decide) j1) (fun r2 μ2 hp2 => ?_)⟩
  obtain ⟨j2, f2, w, rfl, -⟩ := hp2
  exact ⟨w, rfl, p8_keep hJ j2 (fL_tr (fL_of (by decide +kernel) f1) (fL_of (by decide +kernel) f2)) (fK_tr (fK_of (by decide +kernel) f1) (fK_of (by decide +kernel) f2)) (fl_tr (fl_of (by decide +kernel) f1) (fl_of (by decide +kernel) f2)) (fk8_tr (fk8_of (by decide +kernel) f1) (fk8_of (by decide +kernel) f2)) (fI_tr (fI_of (by decide +kernel) f1) (fI_of (by decide +kernel) f2)) (fi_tr (fi_of (by decide +kernel) f1) (fi_of (by decide +kernel) f2)) (fS_tr (fS_of (by decide +kernel) f1) (fS_of (by decide +kernel) f2)) (fs_tr (fs_of (by decide +kernel) f1) (fs_of (by decide +kernel) f2))⟩
theorem ar_37 (hL : L ≤ 3072) (hv : vz.category = 1) : lq_p37 L xs vz (p8_J L xs) := by
  intro μ hJ
  refine iv_C_mono (br_and (image_c hL (by decide)) (pb_205 hv (by decide) hJ.1) (fun r hr => by obtain ⟨w, e, -⟩ := hr; exact ⟨w, e⟩)) (fun r μ1 hp => ?_)
  obtain ⟨q, j1, cL1, cK1, cl1, ck81, cI1, ci1, cS1, cs1, v, rfl⟩ := hp
  refine ⟨v, rfl, iv_C_N (fun hN1 _ => iv_C_mono (br_and (image_r hL (by decide)) (pb_327 hv (by decide) j1) (fun r hr => by obtain ⟨w, e, -⟩ := hr; exact ⟨w, e⟩)) (fun r2 μ2 hp2 => ?_))⟩
  obtain ⟨q2, j2, cL2, cK2, cl2, ck82, cI2, ci2, cS2, cs2, w, rfl⟩ := hp2
  have K2 : fK μ1 μ2 := cK2 (by decide +kernel)
  have l1 : fl μ μ1 := cl1 (by decide +kernel)
  have I2 : μ2 38 2 = μ1 38 2 := cI2 (by decide +kernel)
  refine ⟨w, rfl, j2, R8_cong hJ.2.1 (fL_tr (cL1 (by decide +kernel)) (cL2 (by decide +kernel))) (fl_tr (cl1 (by decide +kernel)) (cl2 (by decide +kernel))), R8_cong hJ.2.1 (veq_tr q.2 K2) (veq_tr l1 (veq_k q2.2)), ?_, fun s s0 s1' => ?_⟩
  · rw [I2, q.1, q2.1]
  · rw [(fS_tr (cS1 (by decide +kernel)) (cS2 (by decide +kernel))) s s0 s1', (fs_tr (cs1 (by decide +kernel)) (cs2 (by decide +kernel))) s s0 s1', hJ.2.2.2.2 s s0 s1']
theorem ar_38 (hL : L ≤ 3072) (hv : vz.category = 1) : lq_p38 L xs vz (p8_J L xs) := by
  intro μ hJ
  refine iv_C_mono (br_and (restore_c hL (by decide)) (pb_212 hv (by decide) hJ.1) (fun r hr => by obtain ⟨w, e, -⟩ := hr; exact ⟨w, e⟩)) (fun r μ1 hp => ?_)
  obtain ⟨q, j1, cL1, cK1, cl1, ck81, cI1, ci1, cS1, cs1, v, rfl⟩ := hp
  refine ⟨v, rfl, iv_C_N (fun hN1 _ => iv_C_mono (br_and (restore_r hL (by decide)) (pb_328 hv (by decide) j1) (fun r hr => by obtain ⟨w, e, -⟩ := hr; exact ⟨w, e⟩)) (fun r2 μ2 hp2 => ?_))⟩
  obtain ⟨q2, j2, cL2, cK2, cl2, ck82, cI2, ci2, cS2, cs2, w, rfl⟩ := hp2
  have l1 : fl μ μ1 := cl1 (by decide +kernel)
  have L2 : fL μ1 μ2 := cL2 (by decide +kernel)
  have k1 : fk8 μ μ1 := ck81 (by decide +kernel)
  have i1 : μ1 195 2 = μ 195 2 := ci1 (by decide +kernel)
  refine ⟨w, rfl, ?_⟩
  by_cases hz : μ 38 2 = 0
  · exact p8_keep hJ j2 (fL_tr (q.1 hz) L2) (fK_tr (cK1 (by decide +kernel)) (cK2 (by decide +kernel))) (fl_tr l1 (q2.1 (by rw [i1, ← hJ.2.2.2.1]; exact hz))) (fk8_tr (ck81 (by decide +kernel)) (ck82 (by decide +kernel))) (fI_tr (cI1 (by decide +kernel)) (cI2 (by decide +kernel))) (fi_tr (ci1 (by decide +kernel)) (ci2 (by decide +kernel))) (fS_tr (cS1 (by decide +kernel)) (cS2 (by decide +kernel))) (fs_tr (cs1 (by decide +kernel)) (cs2 (by decide +kernel)))
  · exact p8_mk hJ j2 (R8_cong hJ.2.2.1 (veq_tr (q.2 hz) L2) (veq_tr k1 (veq_b (q2.2 (by rw [i1, ← hJ.2.2.2.1]; exact hz))))) (fK_tr (cK1 (by decide +kernel)) (cK2 (by decide +kernel))) (fk8_tr (ck81 (by decide +kernel)) (ck82 (by decide +kernel))) (fI_tr (cI1 (by decide +kernel)) (cI2 (by decide +kernel))) (fi_tr (ci1 (by decide +kernel)) (ci2 (by decide +kernel))) (fS_tr (cS1 (by decide +kernel)) (cS2 (by decide +kernel))) (fs_tr (cs1 (by decide +kernel)) (cs2 (by decide +kernel)))
theorem ar_39 (hL : L ≤ 3072) (hv : vz.category = 1) : lq_p39 L xs vz (p8_J L xs) := by
  intro μ x1 hx1 hJ
  refine iv_C_mono (pb_213 hv (by decide) hJ.1) (fun r μ1 hp => ?_)
  obtain ⟨j1, f1, v, rfl, -⟩ := hp
  refine ⟨v, rfl, iv_C_mono (pb_329 hv (by decide) j1) (fun r2 μ2 hp2 => ?_)⟩
  obtain ⟨j2, f2, w, rfl, -⟩ := hp2
  exact ⟨w, rfl, p8_keep hJ j2 (fL_tr (fL_of (by decide +kernel) f1) (fL_of (by decide +kernel) f2)) (fK_tr (fK_of (by decide +kernel) f1) (fK_of (by decide +kernel) f2)) (fl_tr (fl_of (by decide +kernel) f1) (fl_of (by decide +kernel) f2)) (fk8_tr (fk8_of (by decide +kernel) f1) (fk8_of (by decide +kernel) f2)) (fI_tr (fI_of (by decide +kernel) f1) (fI_of (by decide +kernel) f2)) (fi_tr (fi_of (by decide +kernel) f1) (fi_of (by decide +kernel) f2)) (fS_tr (fS_of (by decide +kernel) f1) (fS_of (by decide +kernel) f2)) (fs_tr (fs_of (by decide +kernel) f1) (fs_of (by decide +kernel) f2))⟩
theorem p8_all (hL : L ≤ 3072) (hv : vz.category = 1) : lq_all L xs vz (p8_J L xs) := ⟨ar_0 hL hv, ar_1 hL hv, ar_2 hL hv, ar_3 hL hv, ar_4 hL hv, ar_5 hL hv, ar_6 hL hv, ar_7 hL hv, ar_8 hL hv, ar_9 hL hv, ar_10 hL hv, ar_11 hL hv, ar_12 hL hv, ar_13 hL hv, ar_14 hL hv, ar_15 hL hv, ar_16 hL hv, ar_17 hL hv, ar_18 hL hv, ar_19 hL hv, ar_20 hL hv, ar_21 hL hv, ar_22 hL hv, ar_23 hL hv, ar_24 hL hv, ar_25 hL hv, ar_26 hL hv, ar_27 hL hv, ar_28 hL hv, ar_29 hL hv, ar_30 hL hv, ar_31 hL hv, ar_32 hL hv, ar_33 hL hv, ar_34 hL hv, ar_35 hL hv, ar_36 hL hv, ar_37 hL hv, ar_38 hL hv, ar_39 hL hv⟩
theorem st_vC : R8 (vC iv_mu0) (vR iv_mu0) := by
  refine ⟨by decide +kernel, by decide +kernel, by decide +kernel, fun i i0 i1 => ?_⟩
  obtain ⟨j, rfl⟩ := Int.eq_ofNat_of_zero_le i0
  exact of_decide_eq_true (List.all_eq_true.mp (show (List.range 10).all (fun j => decide (iv_mu0 ((j : Int) + 55) 0 = iv_mu0 196 ((j : Int) * 7 + 80) ∧ iv_mu0 ((j : Int) + 55) 2 = iv_mu0 196 ((j : Int) * 7 + 82) ∧ iv_mu0 ((j : Int) + 55) 6 = iv_mu0 196 ((j : Int) * 7 + 86) ∧ (0 ≤ iv_mu0 ((j : Int) + 55) 6 ∧ iv_mu0 ((j : Int) + 55) 6 ≤ 1) ∧ ((j : Int) < iv_mu0 39 2 → iv_mu0 ((j : Int) + 55) 6 = 0 → 1 ≤ iv_mu0 ((j : Int) + 55) 2 ∧ iv_mu0 ((j : Int) + 55) 2 ≤ 99))) = true by decide +kernel) j (List.mem_range.mpr (by omega)))
theorem st_vK : R8 (vK iv_mu0) (vKR iv_mu0) := by
  refine ⟨by decide +kernel, by decide +kernel, by decide +kernel, fun i i0 i1 => ?_⟩
  obtain ⟨j, rfl⟩ := Int.eq_ofNat_of_zero_le i0
  exact of_decide_eq_true (List.all_eq_true.mp (show (List.range 10).all (fun j => decide (iv_mu0 ((j : Int) + 122) 0 = iv_mu0 197 ((j : Int) * 7 + 80) ∧ iv_mu0 ((j : Int) + 122) 2 = iv_mu0 197 ((j : Int) * 7 + 82) ∧ iv_mu0 ((j : Int) + 122) 6 = iv_mu0 197 ((j : Int) * 7 + 86) ∧ (0 ≤ iv_mu0 ((j : Int) + 122) 6 ∧ iv_mu0 ((j : Int) + 122) 6 ≤ 1) ∧ ((j : Int) < iv_mu0 106 2 → iv_mu0 ((j : Int) + 122) 6 = 0 → 1 ≤ iv_mu0 ((j : Int) + 122) 2 ∧ iv_mu0 ((j : Int) + 122) 2 ≤ 99))) = true by decide +kernel) j (List.mem_range.mpr (by omega)))
theorem p8_start (h : br_J L xs iv_mu0) : p8_J L xs iv_mu0 := by
  refine ⟨h, st_vC, st_vK, by decide +kernel, fun s s0 s1 => ?_⟩
  obtain ⟨j, rfl⟩ := Int.eq_ofNat_of_zero_le s0
  exact of_decide_eq_true (List.all_eq_true.mp (show (List.range 4).all (fun j => decide (iv_mu0 ((j : Int) * 2 + 174) 0 = iv_mu0 209 (j : Int))) = true by decide +kernel) j (List.mem_range.mpr (by omega)))
end P8C
theorem p2_run {L : Nat} {xs : Nat → Int32} (hL : L ≤ 3072) : ∀ v : Value, v.category = 1 → ∃ (n d : Nat) (τ : mm_S), d ≤ 1000 ∧ mm_run 38 (mm_zs v) n d (13, code, 4, false) (0, [(0, .ref 0)], [], mm_m0 L xs, 600000, 7302250) = some τ ∧ τ.2.2.1 = [.int 1] ∧ decode code τ.1 = .ok (.ireturn, 1) :=
  iv_prun hL (J := p8_J L xs) p8_start (fun _ hv => p8_all hL hv)
