/-! ===== each of these steps is the machine's ===== -/
section MMO
variable {p : Program} {l : Launch} {e : Env} {R : Room} {s : State} {m : MethodId} {args : Array Value} {below : List Frame} {meth : Method} {c : Code} {Q : State → Prop}
variable {φ : Nat → Nat} {kx bs : Nat} {D : va_G} {zs : List mm_Zt} {cc : ByteArray} {o nL len : Nat} {own : String} {ini : Bool} {σ σ' : mm_S}
theorem mm_getS_ok {idx : Nat} (F : mm_Fx p s m args meth c φ kx bs D o own nL ini cc) (hd : decode cc σ.1 = .ok (.getfield idx, len)) (h : mm_getS o len idx σ = some σ') (kk : mm_Go p l e R s m args below meth c φ kx bs D zs nL Q σ') : mm_Go p l e R s m args below meth c φ kx bs D zs nL Q σ := by
  unfold mm_getS at h
  split at h
  · next pc lv a r mem cb sb =>
    split at h
    · next idx' kd ci k z pl ci' fs e1 e2 =>
      split at h
      · next e3 =>
        obtain ⟨rfl, rfl, hkd, rfl⟩ := e3
        obtain ⟨v, hv, rfl⟩ := Option.map_eq_some_iff.mp h
        intro H locs ls cells slots hR hS hl hc hs
        rcases hkd with rfl | rfl
        · rcases mm_p0 F.2.2.2.2.1 e1 with ⟨q, g1, g2, g3⟩ | ⟨rfl, g2, g3⟩
          · exact mm_getf F hR e2 g1 g2 hv g3 hd (kk H locs ls cells slots hR hS hl hc hs)
          · exact mm_getK F hR e2 g2 hv g3 hd (kk H locs ls cells slots hR hS hl hc hs)
        · obtain ⟨q, g1, g2, g3⟩ := mm_p1 F.2.2.2.2.1 e1
          exact mm_getN F hR e2 g1 g2 hv g3 hd (kk H locs ls cells slots hR hS hl hc hs)
      · cases h
    · cases h
  · cases h
theorem mm_putS_ok {idx : Nat} (F : mm_Fx p s m args meth c φ kx bs D o own nL ini cc) (hd : decode cc σ.1 = .ok (.putfield idx, len)) (h : mm_putS o kx ini len idx σ = some σ') (kk : mm_Go p l e R s m args below meth c φ kx bs D zs nL Q σ') : mm_Go p l e R s m args below meth c φ kx bs D zs nL Q σ := by
  unfold mm_putS at h
  split at h
  · next pc lv v a r mem cb sb =>
    split at h
    · next idx' kd ci k z pl ci' fs e1 e2 =>
      split at h
      · next q e4 =>
        split at h
        · next e3 =>
          obtain ⟨rfl, rfl, rfl, hka, hn, hf, hkd⟩ := e3
          cases h
          intro H locs ls cells slots hR hS hl hc hs
          rcases hkd with ⟨rfl | rfl, hfin⟩ | ⟨rfl, hfin, rfl, hdecl⟩
          · obtain ⟨q', g1, g2, g3⟩ := mm_p0v F.2.2.2.2.1 e1 e4
            cases g1.symm.trans e4
            exact mm_putf F hR hS hka e2 g1 g2 hfin (mm_nar hn) (mm_fit hf) g3 hd (fun H1 locs1 hR1 hS1 => kk H1 locs1 ls cells slots hR1 hS1 hl hc hs)
          · obtain ⟨q', g1, g2, g3⟩ := mm_p1 F.2.2.2.2.1 e1
            cases g1.symm.trans e4
            exact mm_putN F hR hS hka e2 g1 g2 hfin (mm_nar hn) (mm_fit hf) g3 hd (fun H1 locs1 hR1 hS1 => kk H1 locs1 ls cells slots hR1 hS1 hl hc hs)
          · obtain ⟨q', g1, g2, g3⟩ := mm_p0v F.2.2.2.2.1 e1 e4
            cases g1.symm.trans e4
            have hdecl2 : (q.2.1 k).1 = own := Option.some.inj (hdecl.symm.trans F.2.2.2.2.1)
            exact mm_putF F hR hS hka e2 g1 g2 hfin hdecl2 (mm_nar hn) (mm_fit hf) g3 hd (fun H1 locs1 hR1 hS1 => kk H1 locs1 ls cells slots hR1 hS1 hl hc hs)
        · cases h
      · cases h
    · cases h
  · cases h
theorem mm_in_sz {j : Int32} {xs : List Value} {cell : Cell} (h : mm_wk φ cell xs) (hj : ¬ (j < 0 ∨ xs.length ≤ j.toNatClampNeg)) : ¬ (j < 0 ∨ cell.slots.size ≤ j.toNatClampNeg) := fun z => hj (z.elim Or.inl (fun q => Or.inr (Nat.le_trans h.1 q)))
theorem mm_iald_ok (F : mm_Fx p s m args meth c φ kx bs D o own nL ini cc) (hd : decode cc σ.1 = .ok (.iaload, len)) (h : mm_aldS (fun ty => decide (ty = .int)) len σ = some σ') (kk : mm_Go p l e R s m args below meth c φ kx bs D zs nL Q σ') : mm_Go p l e R s m args below meth c φ kx bs D zs nL Q σ := by
  obtain ⟨rfl, pc, lv, j, a, r, mem, cb, sb, ty, xs, v, rfl, h1, h2, h3, h4, rfl⟩ := mm_aldS_inv h
  cases of_decide_eq_true h2
  intro H locs ls cells slots hR hS hl hc hs
  obtain ⟨cell, g1, g2, g3, g4, -⟩ := mm_arr hR h1
  exact W.iald F.1 F.2.1 g1 g4 g3 (mm_in_sz g2 h3) (mm_arr_rd g2 h4) rfl rfl hd (kk H locs ls cells slots hR hS hl hc hs)
theorem mm_lald_ok (F : mm_Fx p s m args meth c φ kx bs D o own nL ini cc) (hd : decode cc σ.1 = .ok (.laload, len)) (h : mm_aldS (fun ty => decide (ty = .long)) len σ = some σ') (kk : mm_Go p l e R s m args below meth c φ kx bs D zs nL Q σ') : mm_Go p l e R s m args below meth c φ kx bs D zs nL Q σ := by
  obtain ⟨rfl, pc, lv, j, a, r, mem, cb, sb, ty, xs, v, rfl, h1, h2, h3, h4, rfl⟩ := mm_aldS_inv h
  cases of_decide_eq_true h2
  intro H locs ls cells slots hR hS hl hc hs
  obtain ⟨cell, g1, g2, g3, g4, -⟩ := mm_arr hR h1
  exact W.lald F.1 F.2.1 g1 g4 g3 (mm_in_sz g2 h3) (mm_arr_rd g2 h4) rfl rfl hd (kk H locs ls cells slots hR hS hl hc hs)
theorem mm_cald_ok (F : mm_Fx p s m args meth c φ kx bs D o own nL ini cc) (hd : decode cc σ.1 = .ok (.caload, len)) (h : mm_aldS (fun ty => decide (ty = .char)) len σ = some σ') (kk : mm_Go p l e R s m args below meth c φ kx bs D zs nL Q σ') : mm_Go p l e R s m args below meth c φ kx bs D zs nL Q σ := by
  obtain ⟨rfl, pc, lv, j, a, r, mem, cb, sb, ty, xs, v, rfl, h1, h2, h3, h4, rfl⟩ := mm_aldS_inv h
  cases of_decide_eq_true h2
  intro H locs ls cells slots hR hS hl hc hs
  obtain ⟨cell, g1, g2, g3, g4, -⟩ := mm_arr hR h1
  exact W.cald F.1 F.2.1 g1 g4 g3 (mm_in_sz g2 h3) (mm_arr_rd g2 h4) rfl rfl hd (kk H locs ls cells slots hR hS hl hc hs)
theorem mm_bald_ok (F : mm_Fx p s m args meth c φ kx bs D o own nL ini cc) (hd : decode cc σ.1 = .ok (.baload, len)) (h : mm_aldS (fun ty => decide (ty = .byte ∨ ty = .boolean)) len σ = some σ') (kk : mm_Go p l e R s m args below meth c φ kx bs D zs nL Q σ') : mm_Go p l e R s m args below meth c φ kx bs D zs nL Q σ := by
  obtain ⟨rfl, pc, lv, j, a, r, mem, cb, sb, ty, xs, v, rfl, h1, h2, h3, h4, rfl⟩ := mm_aldS_inv h
  intro H locs ls cells slots hR hS hl hc hs
  obtain ⟨cell, g1, g2, g3, g4, -⟩ := mm_arr hR h1
  rcases of_decide_eq_true h2 with rfl | rfl
  · exact W.bald F.1 F.2.1 g1 g4 g3 (mm_in_sz g2 h3) (mm_arr_rd g2 h4) rfl rfl hd (kk H locs ls cells slots hR hS hl hc hs)
  · exact W.zald F.1 F.2.1 g1 g4 g3 (mm_in_sz g2 h3) (mm_arr_rd g2 h4) rfl rfl hd (kk H locs ls cells slots hR hS hl hc hs)
theorem mm_aald_ok (F : mm_Fx p s m args meth c φ kx bs D o own nL ini cc) (hd : decode cc σ.1 = .ok (.aaload, len)) (h : mm_aldS (fun ty => ty.isReference) len σ = some σ') (kk : mm_Go p l e R s m args below meth c φ kx bs D zs nL Q σ') : mm_Go p l e R s m args below meth c φ kx bs D zs nL Q σ := by
  obtain ⟨rfl, pc, lv, j, a, r, mem, cb, sb, ty, xs, v, rfl, h1, h2, h3, h4, rfl⟩ := mm_aldS_inv h
  intro H locs ls cells slots hR hS hl hc hs
  obtain ⟨cell, g1, g2, g3, g4, -⟩ := mm_arr hR h1
  exact W.aald F.1 F.2.1 g1 g4 h2 g3 (mm_in_sz g2 h3) (mm_arr_rd g2 h4) rfl rfl hd (kk H locs ls cells slots hR hS hl hc hs)
theorem mm_iast_ok (F : mm_Fx p s m args meth c φ kx bs D o own nL ini cc) (hd : decode cc σ.1 = .ok (.iastore, len)) (h : mm_astS .int kx len σ = some σ') (kk : mm_Go p l e R s m args below meth c φ kx bs D zs nL Q σ') : mm_Go p l e R s m args below meth c φ kx bs D zs nL Q σ := by
  obtain ⟨rfl, pc, lv, x, j, a, r, mem, cb, sb, xs, rfl, h1, h2, h3, rfl⟩ := mm_astS_inv h
  intro H locs ls cells slots hR hS hl hc hs
  obtain ⟨cell, g1, g2, g3, g4, g5⟩ := mm_arr hR h1
  refine W.iast F.1 F.2.1 g1 g4 g3 (mm_in_sz g2 h3) rfl rfl hd fun H' e1 e2 e3 => ?_
  obtain ⟨a1, a2⟩ := mm_ast_end (v := .int x) F.2.2.2.2.2.2.2.1 hR hS h2 g2 g3 g4 g5 e1 e2 e3
  exact kk H' _ ls cells slots a1 a2 hl hc hs
theorem mm_cast_ok (F : mm_Fx p s m args meth c φ kx bs D o own nL ini cc) (hd : decode cc σ.1 = .ok (.castore, len)) (h : mm_astS .char kx len σ = some σ') (kk : mm_Go p l e R s m args below meth c φ kx bs D zs nL Q σ') : mm_Go p l e R s m args below meth c φ kx bs D zs nL Q σ := by
  obtain ⟨rfl, pc, lv, x, j, a, r, mem, cb, sb, xs, rfl, h1, h2, h3, rfl⟩ := mm_astS_inv h
  intro H locs ls cells slots hR hS hl hc hs
  obtain ⟨cell, g1, g2, g3, g4, g5⟩ := mm_arr hR h1
  refine W.cast F.1 F.2.1 g1 g4 g3 (mm_in_sz g2 h3) rfl rfl hd fun H' e1 e2 e3 => ?_
  obtain ⟨a1, a2⟩ := mm_ast_end (v := narrow .char (.int x)) F.2.2.2.2.2.2.2.1 hR hS h2 g2 g3 g4 g5 e1 e2 e3
  exact kk H' _ ls cells slots a1 a2 hl hc hs
theorem mm_bast_ok (F : mm_Fx p s m args meth c φ kx bs D o own nL ini cc) (hd : decode cc σ.1 = .ok (.bastore, len)) (h : mm_bstS kx len σ = some σ') (kk : mm_Go p l e R s m args below meth c φ kx bs D zs nL Q σ') : mm_Go p l e R s m args below meth c φ kx bs D zs nL Q σ := by
  unfold mm_bstS at h
  split at h
  · split at h
    · obtain ⟨rfl, pc, lv, x, j, a, r, mem, cb, sb, xs, hσ, h1, h2, h3, rfl⟩ := mm_astS_inv h
      cases hσ
      intro H locs ls cells slots hR hS hl hc hs
      obtain ⟨cell, g1, g2, g3, g4, g5⟩ := mm_arr hR h1
      refine W.bast F.1 F.2.1 g1 g4 g3 (mm_in_sz g2 h3) rfl rfl hd fun H' e1 e2 e3 => ?_
      obtain ⟨a1, a2⟩ := mm_ast_end (v := narrow .byte (.int _)) F.2.2.2.2.2.2.2.1 hR hS h2 g2 g3 g4 g5 e1 e2 e3
      exact kk H' _ ls cells slots a1 a2 hl hc hs
    · obtain ⟨rfl, pc, lv, x, j, a, r, mem, cb, sb, xs, hσ, h1, h2, h3, rfl⟩ := mm_astS_inv h
      cases hσ
      intro H locs ls cells slots hR hS hl hc hs
      obtain ⟨cell, g1, g2, g3, g4, g5⟩ := mm_arr hR h1
      refine W.zast F.1 F.2.1 g1 g4 g3 (mm_in_sz g2 h3) rfl rfl hd fun H' e1 e2 e3 => ?_
      obtain ⟨a1, a2⟩ := mm_ast_end (v := narrow .boolean (.int _)) F.2.2.2.2.2.2.2.1 hR hS h2 g2 g3 g4 g5 e1 e2 e3
      exact kk H' _ ls cells slots a1 a2 hl hc hs
    · cases h
  · cases h
theorem mm_last_ok (F : mm_Fx p s m args meth c φ kx bs D o own nL ini cc) (hd : decode cc σ.1 = .ok (.lastore, len)) (h : mm_astlS kx len σ = some σ') (kk : mm_Go p l e R s m args below meth c φ kx bs D zs nL Q σ') : mm_Go p l e R s m args below meth c φ kx bs D zs nL Q σ := by
  unfold mm_astlS at h
  split at h
  · next pc lv x j a r mem cb sb =>
    split at h
    · next ty xs h1 =>
      split at h
      · next e2 =>
        obtain ⟨rfl, rfl, h2, h3⟩ := e2
        cases h
        intro H locs ls cells slots hR hS hl hc hs
        obtain ⟨cell, g1, g2, g3, g4, g5⟩ := mm_arr hR h1
        refine W.last F.1 F.2.1 g1 g4 g3 (mm_in_sz g2 h3) rfl rfl hd fun H' e1 e2 e3 => ?_
        obtain ⟨a1, a2⟩ := mm_ast_end (v := .long x) F.2.2.2.2.2.2.2.1 hR hS h2 g2 g3 g4 g5 e1 e2 e3
        exact kk H' _ ls cells slots a1 a2 hl hc hs
      · cases h
    · cases h
  · cases h
theorem mm_aast_ok (F : mm_Fx p s m args meth c φ kx bs D o own nL ini cc) (hd : decode cc σ.1 = .ok (.aastore, len)) (h : mm_astaS kx len σ = some σ') (kk : mm_Go p l e R s m args below meth c φ kx bs D zs nL Q σ') : mm_Go p l e R s m args below meth c φ kx bs D zs nL Q σ := by
  unfold mm_astaS at h
  split at h
  · next pc lv b j a r mem cb sb =>
    split at h
    · next C xs ci fs h1 hb =>
      split at h
      · next q hq =>
        split at h
        · next e2 =>
          obtain ⟨rfl, rfl, h2, h3⟩ := e2
          cases h
          intro H locs ls cells slots hR hS hl hc hs
          obtain ⟨cell, g1, g2, g3, g4, g5⟩ := mm_arr hR h1
          obtain ⟨q', k1, k2, cellV, w1, w2, w3, -⟩ := mm_at_ob (hR.2.2.1 b _ hb) (mm_ci hq)
          cases k1.symm.trans hq
          have hctx := F.2.2.2.2.2.2.1
          have hcls := (hctx.1.1 ci q hq).2
          obtain ⟨kA, comp, u1, u2, u3, -⟩ := (g5 h2).2
          have hcomp : comp = D.1 ci := Option.some.inj (u3.symm.trans hcls.1)
          subst hcomp
          obtain ⟨kC, hkC, -⟩ := hcls.2
          refine W.aast F.1 F.2.1 g1 (fun z hz => by rw [(g5 h2).1.1.1] at hz; cases hz) g3 u1 u2 rfl hkC ⟨fun z => h3 (Or.inl z), Nat.not_le.mp (fun z => mm_in_sz g2 h3 (Or.inr z))⟩ w1 (fun z hz => by rw [w3] at hz; cases hz) (by rw [w2]; exact hkC) (by rw [w2]; exact va_assign hcls) rfl rfl hd fun H' e1 e2 e3 => ?_
          obtain ⟨a1, a2⟩ := mm_ast_end (v := .ref b) F.2.2.2.2.2.2.2.1 hR hS h2 g2 g3 g4 g5 e1 e2 e3
          exact kk H' _ ls cells slots a1 a2 hl hc hs
        · cases h
      · cases h
    · cases h
  · cases h
theorem mm_alen_ok (F : mm_Fx p s m args meth c φ kx bs D o own nL ini cc) (hd : decode cc σ.1 = .ok (.arraylength, len)) (h : mm_alenS len σ = some σ') (kk : mm_Go p l e R s m args below meth c φ kx bs D zs nL Q σ') : mm_Go p l e R s m args below meth c φ kx bs D zs nL Q σ := by
  unfold mm_alenS at h
  split at h
  · next pc lv a r mem cb sb =>
    split at h
    · next ty xs h1 =>
      split at h
      · next e2 =>
        subst e2
        cases h
        intro H locs ls cells slots hR hS hl hc hs
        obtain ⟨cell, g1, g2, g3, g4, g5⟩ := mm_arr hR h1
        exact W.alen (n := Int32.ofNat xs.length) F.1 F.2.1 g1 g4 g2.2.1 rfl rfl hd (kk H locs ls cells slots hR hS hl hc hs)
      · cases h
    · cases h
  · cases h
theorem mm_ldc_ok {idx : Nat} (F : mm_Fx p s m args meth c φ kx bs D o own nL ini cc) (hd : decode cc σ.1 = .ok (.ldc idx, len)) (h : mm_ldcS o 2 len idx σ = some σ') (kk : mm_Go p l e R s m args below meth c φ kx bs D zs nL Q σ') : mm_Go p l e R s m args below meth c φ kx bs D zs nL Q σ := by
  unfold mm_ldcS at h
  split at h
  next pc lv st mem cb sb =>
  split at h
  · next idx' a b z pl e1 =>
    split at h
    · next e2 =>
      obtain ⟨rfl, rfl⟩ := e2
      cases h
      intro H locs ls cells slots hR hS hl hc hs
      exact lv_ldc F.1 F.2.1 F.2.2.2.1 (F.2.2.2.2.2.1 _ (mm_p6 F.2.2.2.2.1 e1)) hd (kk H locs ls cells slots hR hS hl hc hs)
    · cases h
  · next idx' a b z pl e1 =>
    split at h
    · next e2 =>
      obtain ⟨rfl, rfl, -, rfl, h5, h6, h7⟩ := e2
      cases h
      intro H locs ls cells slots hR hS hl hc hs
      obtain ⟨tx, ht⟩ := F.2.2.2.2.2.2.1.2.2.2 (a - 5) (by omega)
      rw [← h7, show 5 + (a - 5) = a by omega] at ht
      have ho : own = "RaftTown$Tape" := (Option.some.inj F.2.2.2.2.1).symm
      exact va_ldcS F.1 F.2.1 (own := own) F.2.2.2.1 (by rw [ho]; exact ht) hd (kk H locs ls cells slots hR hS hl hc hs)
    · cases h
  · cases h
theorem mm_ldcw_ok {idx : Nat} (F : mm_Fx p s m args meth c φ kx bs D o own nL ini cc) (hd : decode cc σ.1 = .ok (.ldc_w idx, len)) (h : mm_ldcS o 3 len idx σ = some σ') (kk : mm_Go p l e R s m args below meth c φ kx bs D zs nL Q σ') : mm_Go p l e R s m args below meth c φ kx bs D zs nL Q σ := by
  unfold mm_ldcS at h
  split at h
  next pc lv st mem cb sb =>
  split at h
  · next idx' a b z pl e1 =>
    split at h
    · next e2 =>
      obtain ⟨rfl, rfl⟩ := e2
      cases h
      intro H locs ls cells slots hR hS hl hc hs
      exact lv_ldcw F.1 F.2.1 F.2.2.2.1 (F.2.2.2.2.2.1 _ (mm_p6 F.2.2.2.2.1 e1)) hd (kk H locs ls cells slots hR hS hl hc hs)
    · cases h
  · next idx' a b z pl e1 =>
    split at h
    · next e2 => exact absurd e2.2.2.1 (by decide)
    · cases h
  · cases h
theorem mm_ldc2_ok {idx : Nat} (F : mm_Fx p s m args meth c φ kx bs D o own nL ini cc) (hd : decode cc σ.1 = .ok (.ldc2_w idx, len)) (h : mm_ldc2S o len idx σ = some σ') (kk : mm_Go p l e R s m args below meth c φ kx bs D zs nL Q σ') : mm_Go p l e R s m args below meth c φ kx bs D zs nL Q σ := by
  unfold mm_ldc2S at h
  split at h
  next pc lv st mem cb sb =>
  split at h
  · next idx' a b z pl e1 =>
    split at h
    · next e2 =>
      obtain ⟨rfl, rfl⟩ := e2
      cases h
      intro H locs ls cells slots hR hS hl hc hs
      exact lv_ldc2 F.1 F.2.1 F.2.2.2.1 (F.2.2.2.2.2.1 _ (mm_p7 F.2.2.2.2.1 e1)) hd (kk H locs ls cells slots hR hS hl hc hs)
    · cases h
  · cases h
theorem mm_getst_ok {idx : Nat} (F : mm_Fx p s m args meth c φ kx bs D o own nL ini cc) (hd : decode cc σ.1 = .ok (.getstatic idx, len)) (h : mm_getstS o zs len idx σ = some σ') (kk : mm_Go p l e R s m args below meth c φ kx bs D zs nL Q σ') : mm_Go p l e R s m args below meth c φ kx bs D zs nL Q σ := by
  unfold mm_getstS at h
  split at h
  next pc lv st mem cb sb =>
  split at h
  · next idx' kd a b z pl e1 =>
    split at h
    · next q hq =>
      split at h
      · next t ht =>
        split at h
        · next e2 =>
          obtain ⟨rfl, rfl, hkd⟩ := e2
          cases h
          intro H locs ls cells slots hR hS hl hc hs
          have hm := List.mem_of_find?_eq_some ht
          have he := List.find?_some ht
          simp only [decide_eq_true_eq] at he
          obtain ⟨f1, f2, f3⟩ := he
          obtain ⟨cf, kf, fi, f, ad, cell, h1, h2, h3, h4, h5, h6, h7, h8⟩ := hR.2.2.2 t hm
          rw [f1, f2, f3] at h1
          rcases hkd with rfl | rfl
          · obtain ⟨q', g1, g2⟩ := mm_p10 F.2.2.2.2.1 e1
            cases g1.symm.trans hq
            exact W.gets F.1 F.2.1 F.2.2.2.1 (F.2.2.2.2.2.1 _ g2) h1 h2 h3 h4 h5 (fun z => by rw [z] at h6; cases h6) h7 rfl hd (kk H locs ls cells slots hR hS hl hc hs)
          · obtain ⟨q', g1, g2⟩ := mm_p11 F.2.2.2.2.1 e1
            cases g1.symm.trans hq
            exact va_WgetsN F.1 F.2.1 F.2.2.2.1 (va_Nw.use rfl (F.2.2.2.2.2.2.1.2.1 _ g2 rfl)) h1 h2 h3 h4 h5 (fun z => by rw [z] at h6; cases h6) h7 rfl hd (kk H locs ls cells slots hR hS hl hc hs)
        · cases h
      · cases h
    · cases h
  · cases h
end MMO
