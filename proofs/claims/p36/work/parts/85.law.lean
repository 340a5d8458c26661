/-! ===== the law's arms: arguments out of the script, calls by contract ===== -/
/-- the script (none), a place in it, a value of a kind (and the script's int that it is, where that is known) -/
abbrev la_V : Type := Option Nat ⊕ (se_K × Option Nat)
def la_v (ty : Nat → Option Nat) (i : Nat) (scr : List Value) : la_V → Value → Prop
  | .inl none, x => x = .ref 0
  | .inl (some c), x => x = hb_z ((i + c : Nat) : Int)
  | .inr k, x => se_k ty k.1 x ∧ ∀ c, k.2 = some c → scr[i + c]? = some x
def la_vs (ty : Nat → Option Nat) (i : Nat) (scr : List Value) : List la_V → List Value → Prop
  | [], [] => True
  | v :: t, x :: l => la_v ty i scr v x ∧ la_vs ty i scr t l
  | _, _ => False
def la_sub (k k' : se_K) : Bool := Nat.beq k.1 k'.1 && (match k.1 with
  | 0 => decide (k'.2.1 ≤ k.2.1) && decide (k.2.2 ≤ k'.2.2)
  | _ => true)
def la_fit : List (se_D × se_Sr) → List la_V → Bool
  | [], [] => true
  | d :: ds, .inr k :: vs => (Nat.beq d.1.2.1 0 && la_sub k.1 d.1.1) && ((match vs with | [] => true | _ :: _ => !(Nat.beq k.1.1 1)) && la_fit ds vs)
  | _, _ => false
def la_lvs : Nat → Nat → List (Option se_V) → Bool
  | _, _, [] => true
  | k, n, none :: t => la_lvs (k + 1) n t
  | k, n, some v :: t => (decide (v.1 = 1) && decide (v.2.2 = 0)) && ((Nat.beq v.2.1 k && Nat.blt k n) && la_lvs (k + 1) n t)
def la_sl : List la_V → Nat
  | [] => 0
  | .inr k :: t => (match k.1.1 with | 1 => 2 | _ => 1) + la_sl t
  | _ :: t => 2 + la_sl t
def la_i (c : Int) : Bool := decide (-200000 ≤ c) && decide (c ≤ 200000)
def la_res (as : List la_V) (c : se_C) (e : se_E) : Option (se_K × Option Nat) := match e.2.1 with
  | some v => match decide (v.1 = 0) with
    | true => match la_i v.2.2 with
      | true => some ((0, v.2.2, v.2.2), none)
      | false => none
    | false => match decide (v.1 = 1) && decide (v.2.2 = 0) with
      | true => match as[v.2.1]? with
        | some (.inr k) => match k.1.1 with
          | 0 => some k
          | _ => none
        | some (.inl _) => none
        | none => match (c.2.1.1 ++ e.1)[v.2.1]? with
          | some d => match d.1.1.1 with
            | 0 => some (d.1.1, none)
            | _ => none
          | none => none
      | false => none
  | none => none
def la_ct (C : List se_C) (y : Nat) (as r : List la_V) (kk : List la_V → Bool) : Bool := C.any (fun c => Nat.beq c.1.1 y && ((Nat.ble c.1.2 40 && la_fit c.2.1.1 as) && ((la_lvs 0 as.length c.2.1.2.1 && (c.2.1.2.2.1.isEmpty && c.2.1.2.2.2.isEmpty)) && c.2.2.1.all (fun e => match la_res as c e with
  | some k => kk (.inr k :: r)
  | none => false))))
def la_call (C : List se_C) (y : Nat) (st : List la_V) (kk : List la_V → Bool) : Bool := match mm_mths[y]? with
  | some t => Nat.beq t.2.2.2.2.2.2.1 1 && ((Nat.beq (mm_bud y).1 0 && Nat.beq (mm_bud y).2 0) && (match st.drop t.2.2.2.2.2.1 with
    | .inr k :: r => match k.1.1 with
      | u + 2 => match (se_tt u).1 with
        | some ci => (Nat.beq ci t.1 && Nat.ble r.length 4) && (Nat.ble (la_sl (.inr k :: (st.take t.2.2.2.2.2.1).reverse)) t.2.2.2.1 && la_ct C y (.inr k :: (st.take t.2.2.2.2.2.1).reverse) r kk)
        | none => false
      | _ => false
    | _ => false))
  | none => false
def la_nx (kk : List sx_I → List la_V → Bool) (tl : List sx_I) (pc len k : Nat) (st : List la_V) : Bool := Nat.beq len k && ((match tl with
  | e :: _ => Nat.beq e.1 (pc + k)
  | [] => false) && kk tl st)
def la_to (kk : List sx_I → List la_V → Bool) (tl : List sx_I) (pc len : Nat) (off : Int) (st : List la_V) : Bool := Nat.beq len 3 && (match mm_tgt pc off with
  | some tg => match Nat.beq tg 1636 with
    | true => st.isEmpty
    | false => kk (tl.dropWhile (fun e => !(Nat.beq e.1 tg))) st
  | none => false)
/-- the same int of the script -/
def la_same (a b : Option Nat) : Bool := match a, b with
  | some a, some b => Nat.beq a b
  | _, _ => false
def la_go (C : List se_C) (A : Nat → se_K) : Nat → List sx_I → List la_V → Bool
  | 0, _, _ => false
  | _ + 1, [], _ => false
  | n + 1, (pc, ins, len, kd, a, b, z) :: tl, st => match ins with
    | .aload_n j => match j.val with
      | 0 => la_nx (la_go C A n) tl pc len 1 (.inl none :: st)
      | 1 => la_nx (la_go C A n) tl pc len 1 (.inr ((90, 0, 0), none) :: st)
      | 2 => la_nx (la_go C A n) tl pc len 1 (.inr ((91, 0, 0), none) :: st)
      | _ => false
    | .iload_n j => match j.val with
      | 3 => la_nx (la_go C A n) tl pc len 1 (.inl (some 0) :: st)
      | _ => false
    | .iconst c => la_i c && la_nx (la_go C A n) tl pc len 1 (.inr ((0, c, c), none) :: st)
    | .bipush _ => la_nx (la_go C A n) tl pc len 2 (.inr ((0, se_lo, se_hi), none) :: st)
    | .iadd => match st with
      | .inr ((0, l, h), _) :: .inl (some 0) :: r => (decide (l = h) && (decide (0 ≤ l) && decide (l ≤ 5))) && la_nx (la_go C A n) tl pc len 1 (.inl (some l.toNat) :: r)
      | _ => false
    | .iaload => match st with
      | .inl (some c) :: .inl none :: r => Nat.ble c 5 && la_nx (la_go C A n) tl pc len 1 (.inr (A c, some c) :: r)
      | _ => false
    | .i2l => match st with
      | .inr ((0, _, _), _) :: r => la_nx (la_go C A n) tl pc len 1 (.inr ((1, 0, 0), none) :: r)
      | _ => false
    | .lshl => match st with
      | .inr ((0, _, _), _) :: .inr ((1, _, _), _) :: r => la_nx (la_go C A n) tl pc len 1 (.inr ((1, 0, 0), none) :: r)
      | _ => false
    | .land => match st with
      | .inr ((1, _, _), _) :: .inr ((1, _, _), _) :: r => la_nx (la_go C A n) tl pc len 1 (.inr ((1, 0, 0), none) :: r)
      | _ => false
    | .lor => match st with
      | .inr ((1, _, _), _) :: .inr ((1, _, _), _) :: r => la_nx (la_go C A n) tl pc len 1 (.inr ((1, 0, 0), none) :: r)
      | _ => false
    | .ldc2_w _ => Nat.beq kd 7 && la_nx (la_go C A n) tl pc len 3 (.inr ((1, 0, 0), none) :: st)
    | .pop => match st with
      | .inr ((0, _, _), _) :: r => la_nx (la_go C A n) tl pc len 1 r
      | _ => false
    | .ifCond _ off => match st with
      | .inr ((0, _, _), _) :: r => la_nx (la_go C A n) tl pc len 3 r && la_to (la_go C A n) tl pc len off r
      | _ => false
    | .if_icmp .eq off => match st with
      | .inr ((0, l, h), o) :: .inr ((0, l', h'), o') :: r => ((decide (l = h) && (decide (l' = h') && decide (l = l'))) || la_same o o') && la_to (la_go C A n) tl pc len off r
      | _ => false
    | .goto off => la_to (la_go C A n) tl pc len off st
    | .invokevirtual _ => (Nat.beq len 3 && (Nat.beq kd 2 || Nat.beq kd 3)) && la_call C a st (fun st' => la_nx (la_go C A n) tl pc len 3 st')
    | _ => false
section LAW
variable {ty : Nat → Option Nat} {kx : Nat} {zs : List mm_Zt} {J : List mm_C → Prop} {Q : mm_S → Prop} {d i : Nat} {scr : List Value}
theorem la_cat {k : se_K} {x : Value} (h : se_k ty k x) : x.category = (if k.1 = 1 then 2 else 1) := by
  unfold se_k at h
  split at h
  · next e => obtain ⟨n, rfl, -⟩ := h; rw [if_neg (by omega)]; rfl
  · next e => obtain ⟨n, rfl⟩ := h; rw [if_pos e]; rfl
  · next e => obtain ⟨q, rfl, -⟩ := h; rw [if_neg (by omega)]; rfl
theorem la_sub_ok {k k' : se_K} {x : Value} (h : la_sub k k' = true) (hx : se_k ty k x) : se_k ty k' x := by
  unfold la_sub at h
  rw [Bool.and_eq_true] at h
  obtain ⟨h1, h2⟩ := h
  have h1 := Nat.eq_of_beq_eq_true h1
  unfold se_k at hx ⊢
  rw [← h1]
  split at hx
  · next e =>
    rw [e] at h2
    replace h2 : (decide (k'.2.1 ≤ k.2.1) && decide (k.2.2 ≤ k'.2.2)) = true := h2
    rw [Bool.and_eq_true] at h2
    obtain ⟨n, rfl, a1, a2⟩ := hx
    exact ⟨n, rfl, by have := of_decide_eq_true h2.1; omega, by have := of_decide_eq_true h2.2; omega⟩
  · exact hx
  · exact hx
theorem la_vs_len : ∀ {vs : List la_V} {xs : List Value}, la_vs ty i scr vs xs → xs.length = vs.length
  | [], [], _ => rfl
  | _ :: _, _ :: _, h => congrArg (· + 1) (la_vs_len h.2)
  | [], _ :: _, h => h.elim
  | _ :: _, [], h => h.elim
theorem la_vs_drop : ∀ (n : Nat) {vs : List la_V} {xs : List Value}, la_vs ty i scr vs xs → la_vs ty i scr (vs.drop n) (xs.drop n)
  | 0, _, _, h => h
  | n + 1, [], [], h => h
  | n + 1, _ :: _, _ :: _, h => la_vs_drop n h.2
  | _ + 1, [], _ :: _, h => h.elim
  | _ + 1, _ :: _, [], h => h.elim
theorem la_vs_take : ∀ (n : Nat) {vs : List la_V} {xs : List Value}, la_vs ty i scr vs xs → la_vs ty i scr (vs.take n) (xs.take n)
  | 0, _, _, _ => trivial
  | n + 1, [], [], h => h
  | n + 1, _ :: _, _ :: _, h => ⟨h.1, la_vs_take n h.2⟩
  | _ + 1, [], _ :: _, h => h.elim
  | _ + 1, _ :: _, [], h => h.elim
theorem la_vs_app : ∀ {vs ws : List la_V} {xs ys : List Value}, la_vs ty i scr vs xs → la_vs ty i scr ws ys → la_vs ty i scr (vs ++ ws) (xs ++ ys)
  | [], _, [], _, _, h => h
  | _ :: _, _, _ :: _, _, h, h' => ⟨h.1, la_vs_app h.2 h'⟩
  | [], _, _ :: _, _, h, _ => h.elim
  | _ :: _, _, [], _, h, _ => h.elim
theorem la_vs_rev : ∀ {vs : List la_V} {xs : List Value}, la_vs ty i scr vs xs → la_vs ty i scr vs.reverse xs.reverse
  | [], [], h => h
  | _ :: _, _ :: _, h => by
    rw [List.reverse_cons, List.reverse_cons]
    exact la_vs_app (la_vs_rev h.2) ⟨h.1, trivial⟩
  | [], _ :: _, h => h.elim
  | _ :: _, [], h => h.elim
theorem la_cat2 {v : la_V} {x : Value} (h : la_v ty i scr v x) : x.category ≤ 2 := by
  rcases v with (_ | c) | k
  · rw [show x = .ref 0 from h]; decide
  · rw [show x = hb_z _ from h]; exact Nat.le_succ 1
  · rw [la_cat h.1]; split <;> omega
theorem la_cats : ∀ {vs : List la_V} {xs : List Value}, la_vs ty i scr vs xs → (xs.map fun v => v.category).sum ≤ 2 * vs.length
  | [], [], _ => Nat.le_refl 0
  | _ :: _, _ :: _, h => by
    have h1 := la_cat2 h.1
    have h2 := la_cats h.2
    simp only [List.map_cons, List.sum_cons, List.length_cons]
    omega
  | [], _ :: _, h => h.elim
  | _ :: _, [], h => h.elim
theorem la_slok : ∀ {vs : List la_V} {xs : List Value}, la_vs ty i scr vs xs → (lg_sl xs).length ≤ la_sl vs
  | [], [], _ => Nat.le_refl 0
  | v :: vs, x :: xs, h => by
    have h2 := la_slok h.2
    show ((if x.category = 2 then [Slot.val x, Slot.second] else [Slot.val x]) ++ lg_sl xs).length ≤ _
    rw [List.length_append]
    have h3 : (if x.category = 2 then [Slot.val x, Slot.second] else [Slot.val x]).length ≤ 2 := by split <;> simp
    rcases v with (_ | c) | k
    · unfold la_sl; omega
    · unfold la_sl; omega
    ·
      unfold la_sl
      by_cases e : k.1.1 = 1
      · rw [e]
        show _ ≤ 2 + _
        omega
      · have hc := la_cat h.1.1
        rw [if_neg e] at hc
        rw [hc, if_neg (by decide)]
        split
        · next q => exact absurd q e
        · show 1 + _ ≤ _
          omega
  | [], _ :: _, h => h.elim
  | _ :: _, [], h => h.elim
theorem la_fit_ok : ∀ {ds : List (se_D × se_Sr)} {vs : List la_V} {xs : List Value}, la_fit ds vs = true → la_vs ty i scr vs xs → xs.length = ds.length ∧ (∀ (j : Nat) (d : se_D), (ds.map Prod.fst)[j]? = some d → d.2.1 = 0 ∧ ∃ w, xs[j]? = some w ∧ se_k ty d.1 w) ∧ ∀ (k j : Nat) (w : Value), xs[j]? = some w → mm_lget (lv_args k xs) (k + j) = some w
  | [], [], [], _, _ => ⟨rfl, fun j d h => by simp at h, fun k j w h => by simp at h⟩
  | d :: ds, v :: vs, x :: xs, h, hv => by
    rcases v with (_ | c) | k
    · cases h
    · cases h
    ·
      unfold la_fit at h
      rw [Bool.and_eq_true, Bool.and_eq_true, Bool.and_eq_true] at h
      obtain ⟨⟨h1, h2⟩, h3, h4⟩ := h
      obtain ⟨g1, g2, g3⟩ := la_fit_ok h4 hv.2
      refine ⟨by simp [g1], fun j e he => ?_, fun q j w hw => ?_⟩
      · cases j with
        | zero =>
          simp at he
          subst he
          exact ⟨Nat.eq_of_beq_eq_true h1, x, rfl, la_sub_ok h2 hv.1.1⟩
        | succ j =>
          simp only [List.map_cons, List.getElem?_cons_succ] at he
          exact g2 j e he
      · unfold lv_args
        cases j with
        | zero =>
          simp at hw
          subst hw
          exact mm_lget_cons_eq
        | succ j =>
          simp only [List.getElem?_cons_succ] at hw
          have hc := la_cat hv.1.1
          cases vs with
          | nil =>
            have h0 : xs.length = 0 := la_vs_len hv.2
            have h7 := (List.getElem?_eq_some_iff.mp hw).1
            omega
          | cons v2 vs2 =>
            have hk : k.1.1 ≠ 1 := fun e => by rw [e] at h3; cases h3
            rw [if_neg hk] at hc
            rw [hc, if_neg (by decide), mm_lget_cons_ne (by omega), show q + (j + 1) = q + 1 + j by omega]
            exact g3 (q + 1) j w hw
  | [], _ :: _, _, h, _ => by cases h
  | _ :: _, [], _, h, _ => by cases h
  | _, [], _ :: _, _, h => h.elim
  | _, _ :: _, [], _, h => h.elim
theorem la_lvs_ok : ∀ {lv : List (Option se_V)} {k n : Nat}, la_lvs k n lv = true → ∀ (j : Nat) (v : se_V), lv[j]? = some (some v) → v = (1, k + j, 0) ∧ k + j < n
  | [], k, n, _, j, v, h => by simp at h
  | none :: t, k, n, h, j, v, e => by
    cases j with
    | zero => simp at e
    | succ j =>
      simp only [List.getElem?_cons_succ] at e
      obtain ⟨r1, r2⟩ := la_lvs_ok (k := k + 1) h j v e
      exact ⟨by rw [r1]; congr 2; omega, by omega⟩
  | some u :: t, k, n, h, j, v, e => by
    unfold la_lvs at h
    rw [Bool.and_eq_true, Bool.and_eq_true, Bool.and_eq_true, Bool.and_eq_true] at h
    obtain ⟨⟨h1, h2⟩, ⟨h3, h4⟩, h5⟩ := h
    cases j with
    | zero =>
      simp at e
      subst e
      obtain ⟨u1, u2, u3⟩ := u
      have a1 : u1 = 1 := of_decide_eq_true h1
      have a2 : u3 = 0 := of_decide_eq_true h2
      have a3 : u2 = k := Nat.eq_of_beq_eq_true h3
      have a4 : k < n := Nat.blt_eq.mp h4
      exact ⟨by rw [a1, a2, a3]; rfl, a4⟩
    | succ j =>
      simp only [List.getElem?_cons_succ] at e
      obtain ⟨r1, r2⟩ := la_lvs_ok (k := k + 1) h5 j v e
      exact ⟨by rw [r1]; congr 2; omega, by omega⟩
theorem la_ci {c : Int} (h : la_i c = true) : hb_i c := by
  unfold la_i at h
  rw [Bool.and_eq_true] at h
  have h1 := of_decide_eq_true h.1
  have h2 := of_decide_eq_true h.2
  exact ⟨by unfold se_lo; omega, by unfold se_hi; omega⟩
theorem la_vs_at : ∀ {vs : List la_V} {xs : List Value}, la_vs ty i scr vs xs → ∀ (j : Nat) (v : la_V), vs[j]? = some v → ∃ x, xs[j]? = some x ∧ la_v ty i scr v x
  | [], [], _, j, v, h => by simp at h
  | a :: vs, b :: xs, hv, j, v, h => by
    cases j with
    | zero =>
      simp at h
      subst h
      exact ⟨b, rfl, hv.1⟩
    | succ j =>
      simp only [List.getElem?_cons_succ] at h ⊢
      exact la_vs_at hv.2 j v h
  | [], _ :: _, h, _, _, _ => h.elim
  | _ :: _, [], h, _, _, _ => h.elim
theorem la_res_ok {as : List la_V} {As : List Value} {c : se_C} {e : se_E} {k : se_K × Option Nat} {δ : List Value} {v : Option Value} (h : la_res as c e = some k) (hv : la_vs ty i scr as As) (he : se_env ty (As ++ δ) (c.2.1.1.map Prod.fst ++ e.1.map Prod.fst)) (hr : ∀ rv, e.2.1 = some rv → ∃ x, v = some x ∧ se_v (As ++ δ) rv = some x) : ∃ x, v = some x ∧ la_v ty i scr (.inr k) x := by
  unfold la_res at h
  split at h
  · next rv erv =>
    obtain ⟨x, h1, h2⟩ := hr rv erv
    refine ⟨x, h1, ?_⟩
    split at h
    · next e0 =>
      split at h
      · next ei =>
        cases h
        have e0 := of_decide_eq_true e0
        unfold se_v at h2
        rw [if_pos e0] at h2
        cases h2
        exact ⟨hb_kz (la_ci ei) (Int.le_refl _) (Int.le_refl _), fun c hc => by cases hc⟩
      · cases h
    · split at h
      · next e1 =>
        rw [Bool.and_eq_true] at e1
        have e2 := of_decide_eq_true e1.1
        have e3 := of_decide_eq_true e1.2
        obtain ⟨r1, r2, r3⟩ := rv
        dsimp only at e2 e3 h
        subst e2
        subst e3
        split at h
        · next k' ek' =>
          split at h
          · cases h
            obtain ⟨y, y1, y2⟩ := la_vs_at hv r2 _ ek'
            have y3 : (As ++ δ)[r2]? = some y := by
              rw [List.getElem?_append_left (List.getElem?_eq_some_iff.mp y1).1]
              exact y1
            rw [se_v_one y3] at h2
            cases h2
            exact y2
          · cases h
        · cases h
        · split at h
          · next dd edd =>
            split at h
            · next ek =>
              cases h
              have : (c.2.1.1.map Prod.fst ++ e.1.map Prod.fst)[r2]? = some dd.1 := by
                rw [← List.map_append, List.getElem?_map, edd]
                rfl
              obtain ⟨w, w1, w2⟩ := he.2 _ _ this
              rw [se_v_one w1] at h2
              cases h2
              exact ⟨w2.1, fun c hc => by cases hc⟩
            · cases h
          · cases h
      · cases h
  · cases h
end LAW
