/-! ===== the loops in a symbolic run ===== -/
/-- the loops at once -/
def sx_accF (iv : List (Nat × Nat)) (mem : List sx_C) (full : List sx_I) (lv : List (Option sx_V)) (cb sb : Nat) (K : List sx_F) : Option sx_S := match lv[0]?, lv[3]?, lv[4]? with
  | some (some (Sum.inl (Value.ref m))), some (some u3), some (some (Sum.inl (Value.int z))) => match mem[m]? with
    | some (Sum.inr (ci, fs)) => match fs[19]? with
      | some (Sum.inl (Value.ref q)) => match mem[q]? with
        | some (Sum.inl (ty, n, df, up)) => if z = 0 ∧ sx_is2 u3 = false ∧ ci = 12 ∧ ty = .int ∧ n = 4096 ∧ 5 ≤ q ∧ q ≠ m ∧ lv.length = 8 then sx_setK mem q (.inl (.int, 4096, .inl (.int (-1)), [])) (fun mem => some (iv, mem, (316, full, full.dropWhile (fun e => !(Nat.beq e.1 48)), lv.set 4 (some (.inl (.int (nI 4096)))), [], cb, sb), K)) else none
        | _ => none
      | _ => none
    | _ => none
  | _, _, _ => none
def sx_accC (iv : List (Nat × Nat)) (mem : List sx_C) (full : List sx_I) (lv : List (Option sx_V)) (cb sb : Nat) (K : List sx_F) : Option sx_S := match lv[0]?, lv[1]? with
  | some (some (Sum.inl (Value.ref m))), some (some (Sum.inl (Value.int z))) => match mem[m]? with
    | some (Sum.inr (ci, fs)) => match fs[1]?, fs[0]? with
      | some (Sum.inl (Value.ref q)), some (Sum.inl (Value.ref s)) => match mem[q]?, mem[s]? with
        | some (Sum.inl (ty, n, df, up)), some (Sum.inl (ty', n', df', up')) => if z = 0 ∧ ci = 12 ∧ ty = .int ∧ n = 2973 ∧ ty' = .int ∧ n' = 2973 ∧ 5 ≤ q ∧ q ≠ m ∧ q ≠ s ∧ lv.length = 2 ∧ sx_isI df' = true ∧ up'.all (fun e => sx_isI e.2) = true then sx_setK mem q (.inl (.int, 2973, df', up')) (fun mem => some (iv, mem, (327, full, full.dropWhile (fun e => !(Nat.beq e.1 27)), lv.set 1 (some (.inl (.int (nI 2973)))), [], cb, sb), K)) else none
        | _, _ => none
      | _, _ => none
    | _ => none
  | _, _ => none
def sx_acc (S : sx_S) : Option sx_S := match S with
  | (iv, mem, (y, full, e :: _, lv, [], cb, sb), K) => if Nat.beq y 316 && Nat.beq e.1 26 then sx_accF iv mem full lv cb sb K else if Nat.beq y 327 && Nat.beq e.1 2 then sx_accC iv mem full lv cb sb K else none
  | _ => none
theorem sx_dw (full : List sx_I) (pc : Nat) : (∀ e ∈ full.dropWhile (fun e => !(Nat.beq e.1 pc)), e ∈ full) ∧ ∀ e t, full.dropWhile (fun e => !(Nat.beq e.1 pc)) = e :: t → e.1 = pc := by
  refine ⟨fun e he => (List.dropWhile_sublist _).subset he, fun e t he => ?_⟩
  have := List.head?_dropWhile_not (fun e : sx_I => !(Nat.beq e.1 pc)) full
  rw [he] at this
  simp at this
  exact Nat.eq_of_beq_eq_true (by simpa using this)
theorem sx_acc_ok {zs : List mm_Zt} {P : mm_S → Prop} {S S' : sx_S} (h : sx_acc S = some S') (hG : sx_Good 5 zs P S') : sx_Good 5 zs P S := by
  unfold sx_acc at h
  split at h
  · next iv mem y full e tl lv cb sb K =>
    intro env hiv pc lc sc mc Kc hf hm hK hKl
    obtain ⟨hfull, hcs, hat, hlen, hgl, hst⟩ := hf
    dsimp only at hiv hfull hcs hat hlen hgl hst hm hK hKl ⊢
    cases sx_r2_nil hst
    have hpc : e.1 = pc := hat _ _ rfl
    subst hpc
    split at h
    · next hc =>
      rw [Bool.and_eq_true] at hc
      have hy : y = 316 := Nat.eq_of_beq_eq_true hc.1
      have he : e.1 = 26 := Nat.eq_of_beq_eq_true hc.2
      subst hy
      rw [he]
      unfold sx_accF at h
      split at h
      · next m u3 z e0 e3 e4 =>
        split at h
        · next ci fs em =>
          split at h
          · next q eq =>
            split at h
            · next ty n df up ea =>
              split at h
              · next hcond =>
                obtain ⟨rfl, hu3, rfl, rfl, rfl, h5, hqm, hl8⟩ := hcond
                rw [sx_setK_eq] at h
                cases h
                obtain ⟨c1, hc1, hc2⟩ := sx_r2_get hm em
                obtain ⟨ws, rfl, hws⟩ := sx_gc_obj hc2
                obtain ⟨w, hw1, hw2⟩ := sx_r2_get hws eq
                cases hw2
                obtain ⟨c2, hd1, hd2⟩ := sx_r2_get hm ea
                obtain ⟨xs, rfl, hxl, -⟩ := sx_gc_arr hd2
                refine sx_fill (env := env) (lv := lv) hl8 e0 (fun u hu => by rw [e3] at hu; cases hu; exact hu3) hw1 h5 hqm 4096 0 rfl lc mc xs (by rw [nI_0, mm_set_self e4]; exact hgl) hc1 hd1 hxl (fun j hj => absurd hj (Nat.not_lt_zero j)) (fun lc' xs' g1 g2 g3 => ?_)
                exact hG env hiv 48 lc' [] _ Kc ⟨hfull, (sx_dw full 48).1, (sx_dw full 48).2, by dsimp only; rw [List.length_set]; exact hlen, g1, trivial⟩ (sx_r2_set (show sx_gc env (.inl (.int, 4096, .inl (.int (-1)), [])) (.inl (.int, xs')) from ⟨rfl, g2, fun j hj => ⟨_, g3 j hj, rfl⟩⟩) hm q) hK hKl
              · cases h
            · cases h
          · cases h
        · cases h
      · cases h
    · split at h
      · next hc =>
        rw [Bool.and_eq_true] at hc
        have hy : y = 327 := Nat.eq_of_beq_eq_true hc.1
        have he : e.1 = 2 := Nat.eq_of_beq_eq_true hc.2
        subst hy
        rw [he]
        unfold sx_accC at h
        split at h
        · next m z e0 e1 =>
          split at h
          · next ci fs em =>
            split at h
            · next q s eq es =>
              split at h
              · next ty n df up ty2 n2 df2 up2 ea eb =>
                split at h
                · next hcond =>
                  obtain ⟨rfl, rfl, rfl, rfl, rfl, rfl, h5, hqm, hqs, hl2, hdf, hup⟩ := hcond
                  rw [sx_setK_eq] at h
                  cases h
                  obtain ⟨c1, hc1, hc2⟩ := sx_r2_get hm em
                  obtain ⟨ws, rfl, hws⟩ := sx_gc_obj hc2
                  obtain ⟨w, hw1, hw2⟩ := sx_r2_get hws eq
                  cases hw2
                  obtain ⟨w', hv1, hv2⟩ := sx_r2_get hws es
                  cases hv2
                  obtain ⟨c2, hd1, hd2⟩ := sx_r2_get hm ea
                  obtain ⟨xs, rfl, hxl, -⟩ := sx_gc_arr hd2
                  obtain ⟨c3, hf1, hf2⟩ := sx_r2_get hm eb
                  obtain ⟨zs0, rfl, hzl, hz⟩ := sx_gc_arr hf2
                  refine sx_copy (env := env) (lv := lv) hl2 e0 hw1 hv1 h5 hqm hqs hzl (fun j hj => ?_) 2973 0 rfl lc mc xs (by rw [nI_0, mm_set_self e1]; exact hgl) hc1 hf1 hd1 hxl (fun j hj => absurd hj (Nat.not_lt_zero j)) (fun lc' g1 => ?_)
                  · obtain ⟨x, q1, q2⟩ := hz j hj
                    obtain ⟨i, rfl⟩ := sx_isI_g (sx_rd_isI hdf hup) q2
                    exact ⟨i, q1⟩
                  · exact hG env hiv 27 lc' [] _ Kc ⟨hfull, (sx_dw full 27).1, (sx_dw full 27).2, by dsimp only; rw [List.length_set]; exact hlen, g1, trivial⟩ (sx_r2_set hf2 hm q) hK hKl
                · cases h
              · cases h
            · cases h
          · cases h
        · cases h
      · cases h
  · cases h
def sx_stepA (zs : List mm_Zt) (S : sx_S) : sx_R := match sx_acc S with
  | some S' => some [S']
  | none => sx_stepF 5 zs S
def sx_itA (zs : List mm_Zt) : Nat → List sx_S → sx_R
  | 0, [] => some []
  | 0, S :: r => match sx_stepA zs S with
    | some l => some (l ++ r)
    | none => none
  | k + 1, w => match sx_itA zs k w with
    | some [] => some []
    | some (S :: r) => sx_itA zs k (S :: r)
    | none => none
theorem sx_itA_ok {zs : List mm_Zt} {P : mm_S → Prop} (hP : ∀ τ : mm_S, τ.2.2.1 = [.int 1] → decode code τ.1 = .ok (.ireturn, 1) → P τ) : ∀ (k : Nat) {w l : List sx_S}, sx_itA zs k w = some l → (∀ S ∈ l, sx_Good 5 zs P S) → ∀ S ∈ w, sx_Good 5 zs P S := by
  intro k
  induction k with
  | zero =>
    intro w l h hG S hS
    cases w with
    | nil => exact absurd hS List.not_mem_nil
    | cons S0 r =>
      unfold sx_itA at h
      split at h
      · next l0 e =>
        cases h
        rcases List.mem_cons.mp hS with rfl | hS
        · unfold sx_stepA at e
          split at e
          · next S1 e1 =>
            cases e
            exact sx_acc_ok e1 (hG S1 (List.mem_append_left _ List.mem_cons_self))
          · rw [sx_stepF_eq] at e
            exact sx_step_ok hP e (fun S' hS' => hG S' (List.mem_append_left _ hS'))
        · exact hG S (List.mem_append_right _ hS)
      · cases h
  | succ k ih =>
    intro w l h hG
    unfold sx_itA at h
    split at h
    · next e => exact ih e (fun S hS => absurd hS List.not_mem_nil)
    · next S0 r e => exact ih e (ih h hG)
    · cases h
