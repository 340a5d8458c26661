/-! ===== the script's place plays no part while the constructors run ===== -/
/-- a cell that every access gets stuck on -/
def fr_F : mm_C := .inr (999, [])
def fr_R (B : mm_C) (f g : mm_S → Option mm_S) : Prop := ∀ (pc : Nat) (lv : List (Nat × Value)) (st : List Value) (m : List mm_C) (cb sb : Nat) (σ' : mm_S), f (pc, lv, st, fr_F :: m, cb, sb) = some σ' → ∃ pc' lv' st' m' cb' sb', σ' = (pc', lv', st', fr_F :: m', cb', sb') ∧ g (pc, lv, st, B :: m, cb, sb) = some (pc', lv', st', B :: m', cb', sb')
section FRM
variable {B : mm_C} {o kx len idx : Nat} {ini : Bool} {zs zs' : List mm_Zt}
theorem fr_getS : fr_R B (mm_getS o len idx) (mm_getS o len idx) := by
  intro pc lv st m cb sb σ' h
  unfold mm_getS at h ⊢
  (try dsimp only at h ⊢)
  split at h
  · next pc2 lv2 a r mem2 cb2 sb2 heq =>
    cases heq
    (try dsimp only at h ⊢)
    cases a with
    | zero =>
      rw [show (fr_F :: m)[0]? = some (.inr (999, [])) from rfl] at h
      split at h
      · next e1 e2 =>
        cases e2
        split at h
        · simp at h
        · cases h
      · cases h
    | succ a =>
      rw [List.getElem?_cons_succ] at h ⊢
      split at h
      · next e1 e2 =>
        (try rw [e1])
        (try rw [e2])
        (try dsimp only)
        split at h
        · next c =>
          (try rw [if_pos c])
          obtain ⟨v, hv, rfl⟩ := Option.map_eq_some_iff.mp h
          exact ⟨_, _, _, _, _, _, rfl, by rw [hv]; rfl⟩
        · cases h
      · cases h
  · cases h
theorem fr_putS : fr_R B (mm_putS o kx ini len idx) (mm_putS o kx ini len idx) := by
  intro pc lv st m cb sb σ' h
  unfold mm_putS at h ⊢
  (try dsimp only at h ⊢)
  split at h
  · next pc2 lv2 v a r mem2 cb2 sb2 heq =>
    cases heq
    (try dsimp only at h ⊢)
    cases a with
    | zero =>
      rw [show (fr_F :: m)[0]? = some (.inr (999, [])) from rfl] at h
      split at h
      · next e1 e2 =>
        cases e2
        split at h
        · next q e3 =>
          split at h
          · next c =>
            rw [← c.2.2.1] at e3
            cases e3
          · cases h
        · cases h
      · cases h
    | succ a =>
      rw [List.getElem?_cons_succ] at h ⊢
      split at h
      · next e1 e2 =>
        (try rw [e1])
        (try rw [e2])
        (try dsimp only)
        split at h
        · next q e3 =>
          (try rw [e3])
          (try dsimp only)
          split at h
          · next c =>
            (try rw [if_pos c])
            cases h
            exact ⟨_, _, _, _, _, _, rfl, rfl⟩
          · cases h
        · cases h
      · cases h
  · cases h
theorem fr_aldS {P : FieldType → Bool} : fr_R B (mm_aldS P len) (mm_aldS P len) := by
  intro pc lv st m cb sb σ' h
  unfold mm_aldS at h ⊢
  (try dsimp only at h ⊢)
  split at h
  · next pc2 lv2 j a r mem2 cb2 sb2 heq =>
    cases heq
    (try dsimp only at h ⊢)
    cases a with
    | zero =>
      rw [show (fr_F :: m)[0]? = some (.inr (999, [])) from rfl] at h
      cases h
    | succ a =>
      rw [List.getElem?_cons_succ] at h ⊢
      split at h
      · next e2 =>
        (try rw [e2])
        (try dsimp only)
        split at h
        · next c =>
          (try rw [if_pos c])
          obtain ⟨v, hv, rfl⟩ := Option.map_eq_some_iff.mp h
          exact ⟨_, _, _, _, _, _, rfl, by rw [hv]; rfl⟩
        · cases h
      · cases h
  · cases h
theorem fr_astS {ty0 : FieldType} : fr_R B (mm_astS ty0 kx len) (mm_astS ty0 kx len) := by
  intro pc lv st m cb sb σ' h
  unfold mm_astS at h ⊢
  (try dsimp only at h ⊢)
  split at h
  · next pc2 lv2 x j a r mem2 cb2 sb2 heq =>
    cases heq
    (try dsimp only at h ⊢)
    cases a with
    | zero =>
      rw [show (fr_F :: m)[0]? = some (.inr (999, [])) from rfl] at h
      cases h
    | succ a =>
      rw [List.getElem?_cons_succ] at h ⊢
      split at h
      · next e2 =>
        (try rw [e2])
        (try dsimp only)
        split at h
        · next c =>
          (try rw [if_pos c])
          cases h
          exact ⟨_, _, _, _, _, _, rfl, rfl⟩
        · cases h
      · cases h
  · cases h
theorem fr_bstS : fr_R B (mm_bstS kx len) (mm_bstS kx len) := by
  intro pc lv st m cb sb σ' h
  unfold mm_bstS at h ⊢
  (try dsimp only at h ⊢)
  split at h
  · next pc2 lv2 x j a r mem2 cb2 sb2 heq =>
    cases heq
    (try dsimp only at h ⊢)
    cases a with
    | zero =>
      rw [show (fr_F :: m)[0]? = some (.inr (999, [])) from rfl] at h
      cases h
    | succ a =>
      rw [List.getElem?_cons_succ] at h ⊢
      split at h
      · next e2 =>
        (try rw [e2])
        exact fr_astS _ _ _ _ _ _ _ h
      · next e2 =>
        (try rw [e2])
        exact fr_astS _ _ _ _ _ _ _ h
      · cases h
  · cases h
theorem fr_astlS : fr_R B (mm_astlS kx len) (mm_astlS kx len) := by
  intro pc lv st m cb sb σ' h
  unfold mm_astlS at h ⊢
  (try dsimp only at h ⊢)
  split at h
  · next pc2 lv2 x j a r mem2 cb2 sb2 heq =>
    cases heq
    (try dsimp only at h ⊢)
    cases a with
    | zero =>
      rw [show (fr_F :: m)[0]? = some (.inr (999, [])) from rfl] at h
      cases h
    | succ a =>
      rw [List.getElem?_cons_succ] at h ⊢
      split at h
      · next e2 =>
        (try rw [e2])
        (try dsimp only)
        split at h
        · next c =>
          (try rw [if_pos c])
          cases h
          exact ⟨_, _, _, _, _, _, rfl, rfl⟩
        · cases h
      · cases h
  · cases h
theorem fr_astaS : fr_R B (mm_astaS kx len) (mm_astaS kx len) := by
  intro pc lv st m cb sb σ' h
  unfold mm_astaS at h ⊢
  (try dsimp only at h ⊢)
  split at h
  · next pc2 lv2 b j a r mem2 cb2 sb2 heq =>
    cases heq
    (try dsimp only at h ⊢)
    cases a with
    | zero =>
      rw [show (fr_F :: m)[0]? = some (.inr (999, [])) from rfl] at h
      cases h
    | succ a =>
      cases b with
      | zero =>
        rw [show (fr_F :: m)[0]? = some (.inr (999, [])) from rfl] at h
        split at h
        · next e1 e2 =>
          cases e2
          rw [show vwCl[999]? = none from rfl] at h
          cases h
        · cases h
      | succ b =>
        rw [List.getElem?_cons_succ, List.getElem?_cons_succ] at h ⊢
        split at h
        · next e1 e2 =>
          (try rw [e1])
          (try rw [e2])
          (try dsimp only)
          split at h
          · next q e3 =>
            (try rw [e3])
            (try dsimp only)
            split at h
            · next c =>
              (try rw [if_pos c])
              cases h
              exact ⟨_, _, _, _, _, _, rfl, rfl⟩
            · cases h
          · cases h
        · cases h
  · cases h
theorem fr_alenS : fr_R B (mm_alenS len) (mm_alenS len) := by
  intro pc lv st m cb sb σ' h
  unfold mm_alenS at h ⊢
  (try dsimp only at h ⊢)
  split at h
  · next pc2 lv2 a r mem2 cb2 sb2 heq =>
    cases heq
    (try dsimp only at h ⊢)
    cases a with
    | zero =>
      rw [show (fr_F :: m)[0]? = some (.inr (999, [])) from rfl] at h
      cases h
    | succ a =>
      rw [List.getElem?_cons_succ] at h ⊢
      split at h
      · next e2 =>
        (try rw [e2])
        (try dsimp only)
        split at h
        · next c =>
          (try rw [if_pos c])
          cases h
          exact ⟨_, _, _, _, _, _, rfl, rfl⟩
        · cases h
      · cases h
  · cases h
theorem fr_ldcS {k : Nat} : fr_R B (mm_ldcS o k len idx) (mm_ldcS o k len idx) := by
  intro pc lv st m cb sb σ' h
  unfold mm_ldcS at h ⊢
  (try dsimp only at h ⊢)
  split at h
  · next e1 =>
    (try rw [e1])
    (try dsimp only)
    split at h
    · next c =>
      (try rw [if_pos c])
      cases h
      exact ⟨_, _, _, _, _, _, rfl, rfl⟩
    · cases h
  · next e1 =>
    (try rw [e1])
    (try dsimp only)
    split at h
    · next c =>
      (try rw [if_pos c])
      cases h
      exact ⟨_, _, _, _, _, _, rfl, rfl⟩
    · cases h
  · cases h
theorem fr_ldc2S : fr_R B (mm_ldc2S o len idx) (mm_ldc2S o len idx) := by
  intro pc lv st m cb sb σ' h
  unfold mm_ldc2S at h ⊢
  (try dsimp only at h ⊢)
  split at h
  · next e1 =>
    (try rw [e1])
    (try dsimp only)
    split at h
    · next c =>
      (try rw [if_pos c])
      cases h
      exact ⟨_, _, _, _, _, _, rfl, rfl⟩
    · cases h
  · cases h
theorem fr_getstS (hz : ∀ p t, zs.find? p = some t → zs'.find? p = some t) : fr_R B (mm_getstS o zs len idx) (mm_getstS o zs' len idx) := by
  intro pc lv st m cb sb σ' h
  unfold mm_getstS at h ⊢
  (try dsimp only at h ⊢)
  split at h
  · next e1 =>
    (try rw [e1])
    (try dsimp only)
    split at h
    · next q e2 =>
      (try rw [e2])
      (try dsimp only)
      split at h
      · next t e3 =>
        rw [hz _ _ e3]
        (try dsimp only)
        split at h
        · next c =>
          (try rw [if_pos c])
          cases h
          exact ⟨_, _, _, _, _, _, rfl, rfl⟩
        · cases h
      · cases h
    · cases h
  · cases h
theorem fr_newS : fr_R B (mm_newS o len idx) (mm_newS o len idx) := by
  intro pc lv st m cb sb σ' h
  unfold mm_newS at h ⊢
  (try dsimp only at h ⊢)
  split at h
  · next e1 =>
    (try rw [e1])
    (try dsimp only)
    split at h
    · next q e2 =>
      (try rw [e2])
      (try dsimp only)
      split at h
      · next c =>
        (try rw [if_pos c])
        cases h
        exact ⟨_, _, _, _, _, _, rfl, rfl⟩
      · cases h
    · cases h
  · cases h
theorem fr_naS {at_ : ArrayType} : fr_R B (mm_naS at_ len) (mm_naS at_ len) := by
  intro pc lv st m cb sb σ' h
  unfold mm_naS at h ⊢
  (try dsimp only at h ⊢)
  split at h
  · next pc2 lv2 n r mem2 cb2 sb2 heq =>
    cases heq
    (try dsimp only at h ⊢)
    split at h
    · next c =>
      (try rw [if_pos c])
      cases h
      exact ⟨_, _, _, _, _, _, rfl, rfl⟩
    · cases h
  · cases h
theorem fr_anaS : fr_R B (mm_anaS o len idx) (mm_anaS o len idx) := by
  intro pc lv st m cb sb σ' h
  unfold mm_anaS at h ⊢
  (try dsimp only at h ⊢)
  split at h
  · next pc2 lv2 n r mem2 cb2 sb2 heq =>
    cases heq
    (try dsimp only at h ⊢)
    split at h
    · next e1 =>
      (try rw [e1])
      (try dsimp only)
      split at h
      · next q e2 =>
        (try rw [e2])
        (try dsimp only)
        split at h
        · next c =>
          (try rw [if_pos c])
          cases h
          exact ⟨_, _, _, _, _, _, rfl, rfl⟩
        · cases h
      · cases h
    · cases h
  · cases h
theorem fr_spI : fr_R B (mm_spI o len idx) (mm_spI o len idx) := by
  intro pc lv st m cb sb σ' h
  unfold mm_spI at h ⊢
  (try dsimp only at h ⊢)
  split at h
  · next pc2 lv2 a r mem2 cb2 sb2 heq =>
    cases heq
    (try dsimp only at h ⊢)
    split at h
    · next e1 =>
      (try rw [e1])
      (try dsimp only)
      split at h
      · next c =>
        (try rw [if_pos c])
        cases h
        exact ⟨_, _, _, _, _, _, rfl, rfl⟩
      · cases h
    · cases h
  · cases h
theorem fr_spS : fr_R B (mm_spS o kx len idx) (mm_spS o kx len idx) := by
  intro pc lv st m cb sb σ' h
  unfold mm_spS at h ⊢
  (try dsimp only at h ⊢)
  split at h
  · next e1 =>
    (try rw [e1])
    (try dsimp only)
    split at h
    · next c0 =>
      (try rw [if_pos c0])
      split at h
      · split at h
        · next c =>
          (try rw [if_pos c])
          cases h
          exact ⟨_, _, _, _, _, _, rfl, rfl⟩
        · cases h
      · split at h
        · next c =>
          (try rw [if_pos c])
          cases h
          exact ⟨_, _, _, _, _, _, rfl, rfl⟩
        · cases h
      · next n dp dd sp s r =>
        cases s with
        | zero =>
          rw [show (fr_F :: m)[0]? = some (.inr (999, [])) from rfl] at h
          cases h
        | succ s =>
          cases dd with
          | zero =>
            rw [show (fr_F :: m)[0]? = some (.inr (999, [])) from rfl] at h
            split at h
            · next e3 => cases e3
            · cases h
          | succ dd =>
            rw [List.getElem?_cons_succ, List.getElem?_cons_succ] at h ⊢
            split at h
            · next e3 e4 =>
              (try rw [e3])
              (try rw [e4])
              (try dsimp only)
              split at h
              · next c =>
                (try rw [if_pos c])
                cases h
                exact ⟨_, _, _, _, _, _, rfl, rfl⟩
              · cases h
            · cases h
      · cases h
    · cases h
  · cases h
theorem fr_mem {ins : Instr} (hz : ∀ p t, zs.find? p = some t → zs'.find? p = some t) : fr_R B (mm_mem o kx ini zs ins len) (mm_mem o kx ini zs' ins len) := by
  intro pc lv st m cb sb σ' h
  cases ins with
  | getfield idx => exact fr_getS _ _ _ _ _ _ _ h
  | putfield idx => exact fr_putS _ _ _ _ _ _ _ h
  | iaload => exact fr_aldS _ _ _ _ _ _ _ h
  | laload => exact fr_aldS _ _ _ _ _ _ _ h
  | caload => exact fr_aldS _ _ _ _ _ _ _ h
  | baload => exact fr_aldS _ _ _ _ _ _ _ h
  | aaload => exact fr_aldS _ _ _ _ _ _ _ h
  | iastore => exact fr_astS _ _ _ _ _ _ _ h
  | castore => exact fr_astS _ _ _ _ _ _ _ h
  | bastore => exact fr_bstS _ _ _ _ _ _ _ h
  | lastore => exact fr_astlS _ _ _ _ _ _ _ h
  | aastore => exact fr_astaS _ _ _ _ _ _ _ h
  | arraylength => exact fr_alenS _ _ _ _ _ _ _ h
  | ldc idx => exact fr_ldcS _ _ _ _ _ _ _ h
  | ldc_w idx => exact fr_ldcS _ _ _ _ _ _ _ h
  | ldc2_w idx => exact fr_ldc2S _ _ _ _ _ _ _ h
  | getstatic idx => exact fr_getstS hz _ _ _ _ _ _ _ h
  | new idx => exact fr_newS _ _ _ _ _ _ _ h
  | newarray at_ => exact fr_naS _ _ _ _ _ _ _ h
  | anewarray idx => exact fr_anaS _ _ _ _ _ _ _ h
  | invokespecial idx => exact fr_spI _ _ _ _ _ _ _ h
  | invokestatic idx => exact fr_spS _ _ _ _ _ _ _ h
  | _ => cases h
theorem fr_stp {nL : Nat} {ins : Instr} (hz : ∀ p t, zs.find? p = some t → zs'.find? p = some t) : fr_R B (mm_stp o nL kx ini zs ins len) (mm_stp o nL kx ini zs' ins len) := by
  intro pc lv st m cb sb σ' h
  unfold mm_stp at h ⊢
  (try dsimp only at h ⊢)
  split at h
  · next f e =>
    cases h
    exact ⟨_, _, _, _, _, _, rfl, rfl⟩
  · next e => exact fr_mem hz _ _ _ _ _ _ _ h
theorem fr_cal {ins : Instr} {st : List Value} {m : List mm_C} {r : Nat × List Value × List Value} (h : mm_cal o ins len st (fr_F :: m) = some r) : mm_cal o ins len st (B :: m) = some r ∧ ∀ (nL : Nat) (σ : mm_S), mm_stp o nL kx ini zs ins len σ = none := by
  have h0 := h
  unfold mm_cal at h
  split at h
  · split at h
    · next e1 =>
      split at h
      · next t et =>
        split at h
        · next a r' er =>
          split at h
          · next ci fs em =>
            split at h
            · next c =>
              refine ⟨?_, fun nL σ => mm_stp_call (Or.inl rfl) (by rw [e1, c.2.1]) c.2.2.1⟩
              cases a with
              | zero =>
                rw [show (fr_F :: m)[0]? = some (.inr (999, [])) from rfl] at em
                cases em
                have := List.all_eq_true.mp (show mm_mths.all (fun t => !(Nat.beq 999 t.1)) = true by decide +kernel) t (List.mem_of_getElem? et)
                rw [← c.2.2.2.2.1] at this
                cases this
              | succ a =>
                rw [List.getElem?_cons_succ] at em
                rw [← h]
                unfold mm_cal
                dsimp only
                rw [e1]
                dsimp only
                rw [et]
                dsimp only
                rw [er]
                dsimp only
                rw [List.getElem?_cons_succ, em]
                dsimp only
                rw [if_pos c]
            · cases h
          · cases h
        · cases h
      · cases h
    · cases h
  · split at h
    · next e1 =>
      split at h
      · next t et =>
        split at h
        · next c => exact ⟨h0, fun nL σ => mm_stp_call (Or.inr (Or.inl rfl)) (by rw [e1, c.2.1]) c.2.2.1⟩
        · cases h
      · cases h
    · cases h
  · split at h
    · next e1 =>
      split at h
      · next t et =>
        split at h
        · split at h
          · next c => exact ⟨h0, fun nL σ => mm_stp_call (Or.inr (Or.inr rfl)) (by rw [e1, c.2.1]) c.2.2.1⟩
          · cases h
        · cases h
      · cases h
    · cases h
  · cases h
end FRM
/-- a run that the script's place plays no part in -/
theorem fr_run {kx : Nat} {zs zs' : List mm_Zt} {B : mm_C} (hz : ∀ p t, zs.find? p = some t → zs'.find? p = some t) : ∀ (n d d2 : Nat) (fi : mm_Fi) (pc : Nat) (lv : List (Nat × Value)) (st : List Value) (m : List mm_C) (cb sb : Nat) (τ : mm_S), d ≤ d2 → mm_run kx zs n d fi (pc, lv, st, fr_F :: m, cb, sb) = some τ → ∃ pc' lv' st' m' cb' sb', τ = (pc', lv', st', fr_F :: m', cb', sb') ∧ mm_run kx zs' n d2 fi (pc, lv, st, B :: m, cb, sb) = some (pc', lv', st', B :: m', cb', sb') := by
  intro n
  induction n with
  | zero => intro d d2 fi pc lv st m cb sb τ hd2 h; cases h
  | succ n ih =>
    intro d d2 fi pc lv st m cb sb τ hd2 h
    unfold mm_run at h ⊢
    dsimp only at h ⊢
    split at h
    · next ins len hd =>
      (try rw [hd])
      (try dsimp only)
      split at h
      · next hr =>
        cases h
        exact ⟨_, _, _, _, _, _, rfl, by rw [if_pos hr]⟩
      · next hr =>
        rw [if_neg hr]
        split at h
        · next σ₁ hst =>
          obtain ⟨pc', lv', st', m', cb', sb', rfl, h2⟩ := fr_stp (B := B) hz _ _ _ _ _ _ _ hst
          rw [h2]
          dsimp only
          exact ih _ _ _ _ _ _ _ _ _ _ hd2 h
        · next hst =>
          split at h
          · cases h
          · next d' =>
            obtain ⟨e, rfl⟩ : ∃ e, d2 = e + 1 := ⟨d2 - 1, by omega⟩
            split at h
            · cases h
            · next y As rest hcal =>
              obtain ⟨c1, c2⟩ := fr_cal (B := B) (kx := kx) (ini := fi.2.2.2) (zs := zs') hcal
              rw [c2]
              dsimp only
              rw [c1]
              dsimp only
              split at h
              · cases h
              · next t ht =>
                (try rw [ht])
                (try dsimp only)
                split at h
                · next hb =>
                  rw [if_pos hb]
                  split at h
                  · cases h
                  · next τ' hτ =>
                    obtain ⟨pc', lv', st', m', cb', sb', rfl, h2⟩ := ih _ e _ _ _ _ _ _ _ _ (by omega) hτ
                    rw [show mm_run kx zs' n e (mm_fi t) (mm_ent y As (B :: m)) = _ from h2]
                    dsimp only
                    split at h
                    · cases h
                    · next v hv =>
                      rw [show mm_ret t (pc', lv', st', B :: m', cb', sb') = some v from hv]
                      dsimp only
                      exact ih _ _ _ _ _ _ _ _ _ _ hd2 h
                · cases h
    · cases h
