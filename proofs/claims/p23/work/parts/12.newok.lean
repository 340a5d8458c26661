/-! ===== new cells, and the calls that the kit knows ===== -/
theorem mm_cell_eta {φ : Nat → Nat} {xs : List Value} {cell : Cell} (h : cell.slots = (xs.map (mm_sh φ)).toArray) (hv : mm_pl cell) : cell = arrV cell.cls xs.length (fun j => (xs.map (mm_sh φ)).getD j .null) := by
  refine hv.2.trans ?_
  unfold arrV
  congr 1
  rw [h]
  apply Array.ext
  · simp
  · intro i h1 h2
    simp at h1
    simp [h1]
theorem mm_cpy_len (xs ys : List Value) (sp dp n : Nat) : (mm_cpy xs ys sp dp n).length = ys.length := by simp [mm_cpy]
section MMN
variable {p : Program} {l : Launch} {e : Env} {R : Room} {s : State} {m : MethodId} {args : Array Value} {below : List Frame} {meth : Method} {c : Code} {Q : State → Prop}
variable {φ : Nat → Nat} {kx bs : Nat} {D : va_G} {zs : List mm_Zt} {cc : ByteArray} {o nL len : Nat} {own : String} {ini : Bool} {σ σ' : mm_S}
theorem mm_S_push {H H1 : Heap} {locs : List Loc} (hbs : bs ≤ s.heap.size) (hS : va_S (mm_B bs) s.heap H locs) (hz : H1.size = H.size + 1) (ho : ∀ q : Nat, q < H.size → H1[q]? = H[q]?) : va_S (mm_B bs) s.heap H1 locs :=
  ⟨Nat.le_trans hS.1 (by omega), fun x h1 h2 => (ho x (Nat.lt_of_lt_of_le h1 hS.1)).trans (hS.2.1 x h1 h2), hS.2.2⟩
theorem mm_new_ok {idx : Nat} (F : mm_Fx p s m args meth c φ kx bs D o own nL ini cc) (hd : decode cc σ.1 = .ok (.new idx, len)) (h : mm_newS o len idx σ = some σ') (kk : mm_Go p l e R s m args below meth c φ kx bs D zs nL Q σ') : mm_Go p l e R s m args below meth c φ kx bs D zs nL Q σ := by
  unfold mm_newS at h
  split at h
  next pc lv st mem cb sb =>
  split at h
  · next idx' kd ci b z pl e1 =>
    split at h
    · next q hq =>
      split at h
      · next e2 =>
        obtain ⟨rfl, rfl, rfl, hcb, hsb⟩ := e2
        cases h
        intro H locs ls cells slots hR hS hl hc hs
        dsimp only at hc hs
        obtain ⟨q', g1, g2, g3, g4⟩ := mm_p4 F.2.2.2.2.1 e1
        cases g1.symm.trans hq
        obtain ⟨hx, hb, -, hown, -, hts, hctx, hph, hbs, -⟩ := F
        have hKn := hctx.1.1 ci _ hq
        have hsz := mm_ph_size hph hR
        dsimp only at hsz
        refine W.newcK hx hb hown (hts _ g2) (hts _ g3) (hts _ g4) rfl hd (by omega) (by omega) hKn.2.1 rfl fun H1 kC hkC e1 z1 o1 => ?_
        have key : mm_at φ kx D vwCl s H1 mem.length (.inr (ci, (List.range q.2.2).map (fun k => defaultValue (mm_ty ci k)))) := by
          refine Or.inl ⟨mm_ci hq, q, hq, by simp, ?_⟩
          rw [hsz]
          refine (u_born (mm_ty ci) hts (mm_cls ci q hq).1 hKn hkC e1 (mm_cls ci q hq).2.1).to (fun k hk => ?_)
          simp [vp_V, hk, mm_sh_def]
        have hR1 := mm_R_push hR key z1 o1
        have := kk H1 locs ls (cells + 1) (slots + q.2.2) hR1 (mm_S_push hbs hS z1 o1) hl (by dsimp only; omega) (by dsimp only; omega)
        rw [← hsz]
        exact this
      · cases h
    · cases h
  · cases h
theorem mm_na_ok {at_ : ArrayType} (F : mm_Fx p s m args meth c φ kx bs D o own nL ini cc) (hd : decode cc σ.1 = .ok (.newarray at_, len)) (h : mm_naS at_ len σ = some σ') (kk : mm_Go p l e R s m args below meth c φ kx bs D zs nL Q σ') : mm_Go p l e R s m args below meth c φ kx bs D zs nL Q σ := by
  unfold mm_naS at h
  split at h
  · next pc lv n r mem cb sb =>
    split at h
    · next e2 =>
      obtain ⟨rfl, hty, hn, hn2, hcb, hsb⟩ := e2
      cases h
      intro H locs ls cells slots hR hS hl hc hs
      dsimp only at hc hs
      obtain ⟨hx, hb, -, hown, -, hts, hctx, hph, hbs, -⟩ := F
      have hsz := mm_ph_size hph hR
      dsimp only at hsz
      have hac : Cond.arrayClass (newarray.typeOf at_) ∈ mm_gw := by
        rcases hty with h | h | h | h | h <;> rw [h]
        · exact mm_ac_int
        · exact mm_ac_long
        · exact mm_ac_byte
        · exact mm_ac_char
        · exact mm_ac_boolean
      have hcmp : componentBytes (newarray.typeOf at_) ≤ 8 := by rcases hty with h | h | h | h | h <;> rw [h] <;> decide
      refine W.newa hx hb (hts _ hac) rfl hd rfl hn (Nat.le_trans (Nat.mul_le_mul hn2 hcmp) (Nat.le_of_ble_eq_true rfl)) (by omega) (by omega) fun cA kA comp f1 f2 f3 => ?_
      generalize hH1 : H.push ({ cls := cA, slots := Array.replicate n.toNatClampNeg (defaultValue (newarray.typeOf at_)), vm := .none } : Cell) = H1
      have z1 : H1.size = H.size + 1 := by rw [← hH1, Array.size_push]
      have g1 : H1[H.size]? = some ({ cls := cA, slots := Array.replicate n.toNatClampNeg (defaultValue (newarray.typeOf at_)), vm := .none } : Cell) := by rw [← hH1, Array.getElem?_push_size]
      have o1 : ∀ q : Nat, q < H.size → H1[q]? = H[q]? := fun q hq => by rw [← hH1, Array.getElem?_push, if_neg (Nat.ne_of_lt hq)]
      have key : mm_at φ kx D vwCl s H1 mem.length (.inl (newarray.typeOf at_, List.replicate n.toNatClampNeg (defaultValue (newarray.typeOf at_)))) := by
        have hsl : ({ cls := cA, slots := Array.replicate n.toNatClampNeg (defaultValue (newarray.typeOf at_)), vm := .none } : Cell).slots = ((List.replicate n.toNatClampNeg (defaultValue (newarray.typeOf at_))).map (mm_sh φ)).toArray := by simp [mm_sh_def]
        refine ⟨_, by rw [hsz]; exact g1, mm_wk_of hsl, (fun z => by cases z), ⟨(fun k z => by cases z), kA, f2, comp, f3⟩, fun _ => ⟨⟨⟨rfl, rfl⟩, hsl⟩, ?_⟩⟩
        · show va_RA s cA (newarray.typeOf at_)
          rcases hty with h | h | h | h | h <;> rw [h] at f1 ⊢ <;> exact f1
      have hR1 := mm_R_push hR key z1 o1
      have := kk H1 locs ls (cells + 1) (slots + n.toNatClampNeg) hR1 (mm_S_push hbs hS z1 o1) hl (by dsimp only; omega) (by dsimp only; omega)
      rw [← hsz]
      exact this
    · cases h
  · cases h
theorem mm_ao : ∀ C : String, (C = "RaftTown$Raft" ∨ C = "RaftTown$Person" ∨ C = "RaftTown$Rope" ∨ C = "RaftTown$Text" ∨ C = "RaftTown$Sheet") → Cond.arrayOver (.object C) ∈ lw_tbl := by
  intro C h
  rcases h with rfl | rfl | rfl | rfl | rfl
  · exact mm_wd_in (pl := 1055) (by decide +kernel)
  · exact mm_wd_in (pl := 1057) (by decide +kernel)
  · exact mm_wd_in (pl := 1059) (by decide +kernel)
  · exact mm_wd_in (pl := 1097) (by decide +kernel)
  · exact mm_wd_in (pl := 2052) (by decide +kernel)
theorem mm_ana_ok {idx : Nat} (F : mm_Fx p s m args meth c φ kx bs D o own nL ini cc) (hd : decode cc σ.1 = .ok (.anewarray idx, len)) (h : mm_anaS o len idx σ = some σ') (kk : mm_Go p l e R s m args below meth c φ kx bs D zs nL Q σ') : mm_Go p l e R s m args below meth c φ kx bs D zs nL Q σ := by
  unfold mm_anaS at h
  split at h
  · next pc lv n r mem cb sb =>
    split at h
    · next idx' kd ci b z pl e1 =>
      split at h
      · next q hq =>
        split at h
        · next e2 =>
          obtain ⟨rfl, rfl, rfl, hC, hn, hn2, hcb, hsb⟩ := e2
          cases h
          intro H locs ls cells slots hR hS hl hc hs
          dsimp only at hc hs
          obtain ⟨q', g1, g2, g3, g4⟩ := mm_p4 F.2.2.2.2.1 e1
          cases g1.symm.trans hq
          obtain ⟨hx, hb, -, hown, -, hts, hctx, hph, hbs, -⟩ := F
          have hsz := mm_ph_size hph hR
          dsimp only at hsz
          refine W.anew hx hb hown (hts _ g2) (va_AO.use (hctx.2.2.1 _ (mm_ao q.1 hC))) rfl hd rfl hn (Nat.le_trans (Nat.mul_le_mul hn2 (Nat.le_refl 4)) (Nat.le_of_ble_eq_true rfl)) (by omega) (by omega) fun cA kA comp f1 f2 f3 f4 => ?_
          generalize hH1 : H.push ({ cls := cA, slots := Array.replicate n.toNatClampNeg .null, vm := .none } : Cell) = H1
          have z1 : H1.size = H.size + 1 := by rw [← hH1, Array.size_push]
          have g1 : H1[H.size]? = some ({ cls := cA, slots := Array.replicate n.toNatClampNeg .null, vm := .none } : Cell) := by rw [← hH1, Array.getElem?_push_size]
          have o1 : ∀ q : Nat, q < H.size → H1[q]? = H[q]? := fun q hq => by rw [← hH1, Array.getElem?_push, if_neg (Nat.ne_of_lt hq)]
          have key : mm_at φ kx D vwCl s H1 mem.length (.inl (.object q.1, List.replicate n.toNatClampNeg .null)) := by
            have hsl : ({ cls := cA, slots := Array.replicate n.toNatClampNeg .null, vm := .none } : Cell).slots = ((List.replicate n.toNatClampNeg Value.null).map (mm_sh φ)).toArray := by simp [mm_sh]
            exact ⟨_, by rw [hsz]; exact g1, mm_wk_of hsl, (fun z => by cases z), ⟨(fun k z => by cases z), kA, f2, comp, f3⟩, fun _ => ⟨⟨⟨rfl, rfl⟩, hsl⟩, kA, comp, f2, f3, f4, f1⟩⟩
          have hR1 := mm_R_push hR key z1 o1
          have := kk H1 locs ls (cells + 1) (slots + n.toNatClampNeg) hR1 (mm_S_push hbs hS z1 o1) hl (by dsimp only; omega) (by dsimp only; omega)
          rw [← hsz]
          exact this
        · cases h
      · cases h
    · cases h
  · cases h
theorem mm_cats (φ : Nat → Nat) (r : List Value) : ((r.map (mm_sh φ)).map fun v => v.category) = r.map fun v => v.category := by simp [mm_sh_cat]
theorem mm_spI_ok {idx : Nat} (F : mm_Fx p s m args meth c φ kx bs D o own nL ini cc) (hRm : 1 ≤ R.frames ∧ 64 ≤ R.locals) (hd : decode cc σ.1 = .ok (.invokespecial idx, len)) (h : mm_spI o len idx σ = some σ') (kk : mm_Go p l e R s m args below meth c φ kx bs D zs nL Q σ') : mm_Go p l e R s m args below meth c φ kx bs D zs nL Q σ := by
  unfold mm_spI at h
  split at h
  · next pc lv a r mem cb sb =>
    split at h
    · next idx' kd ci b z pl e1 =>
      split at h
      · next e2 =>
        obtain ⟨rfl, rfl, rfl, hsum⟩ := e2
        cases h
        intro H locs ls cells slots hR hS hl hc hs
        obtain ⟨hx, hb, hml, hown, ho, hts, -⟩ := F
        refine W.objInit (a := φ a) (rest := r.map (mm_sh φ)) hx hb hown (hts _ (mm_p8 ho e1)) (hts _ mm_obj_i) (hts _ mm_obj_c) rfl (hl.1.trans hml.symm) rfl hd hRm.1 ?_ (kk H locs ls cells slots hR hS hl hc hs)
        rw [mm_cats]
        show 2 * 0 + _ + 12 ≤ _
        omega
      · cases h
    · cases h
  · cases h
theorem mm_spS_ok {idx : Nat} (F : mm_Fx p s m args meth c φ kx bs D o own nL ini cc) (hRm : 1 ≤ R.frames ∧ 64 ≤ R.locals) (hd : decode cc σ.1 = .ok (.invokestatic idx, len)) (h : mm_spS o kx len idx σ = some σ') (kk : mm_Go p l e R s m args below meth c φ kx bs D zs nL Q σ') : mm_Go p l e R s m args below meth c φ kx bs D zs nL Q σ := by
  unfold mm_spS at h
  split at h
  next pc lv st mem cb sb =>
  split at h
  · next idx' kd ci b z pl e1 =>
    split at h
    · next e2 =>
      obtain ⟨rfl, rfl⟩ := e2
      split at h
      · next y x r =>
        split at h
        · next hsum =>
          cases h
          intro H locs ls cells slots hR hS hl hc hs
          obtain ⟨hx, hb, hml, hown, ho, hts, -⟩ := F
          dsimp only at hc hs
          exact va_mmax hx hb (hml.trans hl.1.symm) hown (hts _ (mm_p13 ho e1)) (hts _ mm_max_s) (hts _ mm_math_y) (hts _ mm_max_c) hRm.1 (by rw [mm_cats]; omega) (by omega) (by omega) hd (kk H locs ls cells slots hR hS hl hc hs)
        · cases h
      · next y x r =>
        split at h
        · next hsum =>
          cases h
          intro H locs ls cells slots hR hS hl hc hs
          obtain ⟨hx, hb, hml, hown, ho, hts, -⟩ := F
          dsimp only at hc hs
          exact va_mmin hx hb (hml.trans hl.1.symm) hown (hts _ (mm_p14 ho e1)) (hts _ mm_min_s) (hts _ mm_math_y) (hts _ mm_min_c) hRm.1 (by rw [mm_cats]; omega) (by omega) (by omega) hd (kk H locs ls cells slots hR hS hl hc hs)
        · cases h
      · next n dp d sp a r =>
        split at h
        · next ty xs ty' ys i1 i2 =>
          split at h
          · next e3 =>
            obtain ⟨hsum, hka, hkd, rfl, hrk, h1, h2, h3, h4, h5, hall⟩ := e3
            cases h
            intro H locs ls cells slots hR hS hl hc hs
            obtain ⟨hx, hb, hml, hown, ho, hts, -, hph, -⟩ := F
            obtain ⟨cs, k1, k2, k3, k4, k5⟩ := mm_arr hR i1
            obtain ⟨cd, w1, w2, w3, w4, w5⟩ := mm_arr hR i2
            have nn : ∀ z : Int32, ¬ z < 0 → z.toInt = (z.toNatClampNeg : Int) := by
              intro z hz
              have hz0 : (0 : Int) ≤ z.toInt := by
                have := Int32.not_lt.mp hz
                simpa using Int32.le_iff_toInt_le.mp this
              show z.toInt = ((z.toInt.toNat : Nat) : Int)
              omega
            replace k2 := (k5 hka).1.2
            replace w2 := (w5 hkd).1.2
            have e_cs := mm_cell_eta k2 (k5 hka).1.1
            have e_cd := mm_cell_eta w2 (w5 hkd).1.1
            obtain ⟨v1, ks, hks, cm0, hkk0⟩ := k4
            obtain ⟨v2, kd', hkd', cm1, hkk1⟩ := w4
            intro T hT X
            obtain ⟨vm', X', step⟩ := X.arraycopy hx hown (hts _ (mm_p9 ho e1)) (hts _ mm_cpy_n) (hts _ mm_cpy_s) (hts _ mm_cpy_y) (src := φ a) (dst := φ d) (cs := cs) (cd := cd) (srcPos := sp) (destPos := dp) (n := n) (by rw [hT]; exact k1) (by rw [hT]; exact w1) v1 v2 k3 w3 hks hkd' hkk0 hkk1 (by simp [hrk]) h1 h2 h3
              (by rw [nn sp h1, nn n h3, mm_arr_sz k2]; omega) (by rw [nn dp h2, nn n h3, mm_arr_sz w2]; omega)
              (fun vm₁ _ i hi => by
                have hlt : sp.toNatClampNeg + i < xs.length := by omega
                have e : cs.slots.getD (sp.toNatClampNeg + i) .null = mm_sh φ xs[sp.toNatClampNeg + i] := by
                  rw [k2]; simp [hlt]
                have hf := List.all_eq_true.mp hall xs[sp.toNatClampNeg + i] (List.getElem_mem hlt)
                rw [e]
                refine ⟨mm_fit hf, ?_⟩
                generalize xs[sp.toNatClampNeg + i] = v at hf
                cases v with
                | ref x => cases ty' <;> first | (simp [refKind] at hrk; done) | cases hf
                | _ => trivial)
              (g := F0 m pc ls (.int n :: .int dp :: .ref (φ d) :: .int sp :: .ref (φ a) :: r.map (mm_sh φ))) rfl (hl.1.trans hml.symm) (rest := r.map (mm_sh φ)) rfl (by rw [hb]; exact hd) hRm.1 (by rw [mm_cats]; show 2 * 0 + _ + (nativeFrameWords "java/lang/System" "arraycopy" 5 + 11) ≤ _; rw [show nativeFrameWords "java/lang/System" "arraycopy" 5 = 7 by decide +kernel]; omega)
            have e2 : copied cs cd sp dp n = arrV cd.cls ys.length (va_cpy (fun j => (xs.map (mm_sh φ)).getD j .null) (fun j => (ys.map (mm_sh φ)).getD j .null) sp.toNatClampNeg dp.toNatClampNeg n.toNatClampNeg) := by
              rw [e_cs, e_cd]
              exact va_copied (fun z => z) cs.cls cd.cls _ _ h4
            rw [e2] at X' step
            have hlt : φ d < H.size := (Array.getElem?_eq_some_iff.mp w1).1
            generalize hC : arrV cd.cls ys.length (va_cpy (fun j => (xs.map (mm_sh φ)).getD j .null) (fun j => (ys.map (mm_sh φ)).getD j .null) sp.toNatClampNeg dp.toNatClampNeg n.toNatClampNeg) = C at X' step
            have hheap : ((T.setVm vm').setCell (φ d) C).heap = H.setIfInBounds (φ d) C := by rw [← hT]; rfl
            have oq : ∀ q : Nat, q ≠ φ d → (H.setIfInBounds (φ d) C)[q]? = H[q]? := fun q hq => by simp [Array.getElem?_setIfInBounds, Ne.symm hq]
            have hCs : C.slots = ((mm_cpy xs ys sp.toNatClampNeg dp.toNatClampNeg n.toNatClampNeg).map (mm_sh φ)).toArray := by
              rw [← hC]
              unfold arrV mm_cpy
              apply Array.ext
              · simp
              · intro i q1 q2
                simp at q1
                simp only [Array.getElem_ofFn, List.getElem_toArray, List.getElem_map, List.getElem_range, va_cpy]
                split
                · next hh =>
                  have : sp.toNatClampNeg + (i - dp.toNatClampNeg) < xs.length := by omega
                  simp [this]
                · simp [q1]
            have hR1 : mm_R φ kx bs D vwCl zs s (mem.set d (.inl (ty', mm_cpy xs ys sp.toNatClampNeg dp.toNatClampNeg n.toNatClampNeg))) (H.setIfInBounds (φ d) C) := by
              refine mm_R_set hph hR hkd ⟨C, by simp [Array.getElem?_setIfInBounds, hlt], mm_wk_of hCs, ?_, ?_, fun _ => ⟨⟨?_, hCs⟩, ?_⟩⟩ (by simp) oq
              · rw [← hC]; exact fun z => by cases z
              · rw [← hC]; exact ⟨(fun k z => by cases z), kd', hkd', cm1, hkk1⟩
              · rw [← hC]; exact ⟨rfl, rfl⟩
              · rw [← hC]; exact (w5 hkd).2
            obtain ⟨t, a1, b1⟩ := kk _ (locs ++ (cs.stretch sp.toNatClampNeg n.toNatClampNeg).zipIdx.map fun q => ⟨φ d, dp.toNatClampNeg + q.2⟩) ls cells slots hR1 ⟨by simp; exact hS.1, fun q g1 g2 => by
                rw [oq q (fun e => g2 (by rw [e]; exact mm_ph_ge hph hkd))]
                exact hS.2.1 q g1 g2, fun q hq => by
                rcases List.mem_append.mp hq with h | h
                · exact hS.2.2 q h
                · obtain ⟨z, -, hz⟩ := List.mem_map.mp h
                  rw [← hz]
                  exact mm_ph_ge hph hkd⟩ hl hc hs _ hheap X'
            exact ⟨t, step t a1, b1⟩
          · cases h
        · cases h
      · cases h
    · cases h
  · cases h
end MMN
