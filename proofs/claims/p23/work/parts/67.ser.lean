/-! ===== runs from cut to cut: a method's check, and what it gives ===== -/
/-- a node of a method: its place, its state, its measure -/
abbrev se_Nd : Type := Nat × se_N × List se_V
section SEU
variable (tt : Nat → se_Ty) (C : List se_C) (Z : se_W) (tw : Nat) (zt : Nat → Option Nat)
def se_gh (σ : List se_V) (g : Nat) : Bool := (List.range g).all (fun n => match σ[n]? with
  | some v => se_eq v (1, n, 0)
  | none => false)
def se_lexq (ds : List se_D) (P : se_P) (σ new : List se_V) (old : Option (List se_V)) : Bool := match old with
  | none => true
  | some o => se_lex ds P σ 16 new o
def se_some (r : se_R) : Bool := match r with
  | some _ => true
  | none => false
/-- an arrival at a node -/
def se_arr (g : Nat) (old : Option (List se_V)) (Ns : List se_Nd) (ds : List se_D) (M : se_M) (lv : List (Option se_V)) (P : se_P) (pc : Nat) : Bool := Ns.any (fun n => Nat.beq n.1 pc && se_some (se_match tt lv P n.2.1 ds M (fun ds _ σ => if se_gh σ g && se_lexq ds P σ n.2.2 old then some [] else none)))
/-- the entry's unknowns, as such -/
def se_gt : Nat → se_T → se_T
  | _, [] => []
  | k, (d, _) :: t => (d, 3, (0, k, 0), (0, 0, 0)) :: se_gt (k + 1) t
def se_exq (c : se_C) (ds : List se_D) (M : se_M) (st : List se_V) (P : se_P) : Bool := c.2.2.1.any (fun e => match e.2.1, st with
  | none, [] => se_some (se_match tt [] P (se_gt 0 c.2.1.1 ++ e.1, [], e.2.2.1, e.2.2.2) ds M (fun _ _ σ => if se_gh σ c.2.1.1.length then some [] else none))
  | some rv, [v] => se_some (se_match tt [some v] P (se_gt 0 c.2.1.1 ++ e.1, [some rv], e.2.2.1, e.2.2.2) ds M (fun _ _ σ => if se_gh σ c.2.1.1.length then some [] else none))
  | _, _ => false)
def se_rok (t : mm_Mt) (ds : List se_D) (ins : Instr) (len : Nat) (st : List se_V) : Bool := Nat.beq len 1 && (match ins, t.2.2.2.2.1, st with
  | .ireturn, some ty, [v] => Nat.beq (se_kd ds v) 0 && (match se_rg ds v with
    | (l, h) => se_nar ty l h)
  | .areturn, some (.object _), [v] => Nat.ble 2 (se_kd ds v)
  | .lreturn, some .long, [v] => Nat.beq (se_kd ds v) 1
  | .return_, none, [] => true
  | _, _, _ => false)
def se_fin (c : se_C) (t : mm_Mt) (Ns : List se_Nd) (old : Option (List se_V)) (S : se_S) : Bool := match S with
  | (ds, M, (y, _, cs, lv, st), K, P, _) => match K, cs with
    | [], (pc, ins, len, _) :: _ => Nat.beq y c.1.1 && (if mm_isR ins then se_rok t ds ins len st && se_exq tt c ds M st P else (match st with
      | [] => se_arr tt c.2.1.1.length old Ns ds M lv P pc
      | _ => false))
    | _, _ => false
def se_runq (c : se_C) (t : mm_Mt) (Ns : List se_Nd) (k : Nat) (old : Option (List se_V)) (r : se_R) : Bool := match r with
  | some w => w.all (fun S => match se_step tt C c.2.2.2 Z tw zt S with
    | some w => (se_it tt C c.2.2.2 Z tw zt (Ns.map (fun n => n.1)) k w).all (se_fin tt c t Ns old)
    | none => false)
  | none => false
def se_start (y : Nat) (code : List sx_I) (nL : Nat) (N : se_N) (pc : Nat) : se_R := se_go (N.1.map Prod.fst) N.2.2.1 y code code (se_pad nL N.2.1) [] [] N.2.2.2 none pc
def se_chk0 (c : se_C) (Ns : List se_Nd) (k : Nat) : Bool := match mm_mths[c.1.1]?, sx_cods[c.1.1]? with
  | some t, some code => C.all (fun c' => Nat.blt c'.1.2 c.1.2) && (Nat.ble 1 c.1.2 && (Nat.ble c.2.1.2.1.length t.2.2.2.1 && se_runq tt C Z tw zt c t Ns k none (se_start c.1.1 code t.2.2.2.1 c.2.1 0)))
  | _, _ => false
def se_chkn (c : se_C) (Ns : List se_Nd) (k : Nat) (n : se_Nd) : Bool := match mm_mths[c.1.1]?, sx_cods[c.1.1]? with
  | some t, some code => n.2.2.all (fun v => decide (v.1 = 0) || Nat.blt v.2.1 n.2.1.1.length) && (Nat.ble n.2.1.2.1.length t.2.2.2.1 && se_runq tt C Z tw zt c t Ns k (some n.2.2) (se_start c.1.1 code t.2.2.2.1 n.2.1 n.1))
  | _, _ => false
end SEU
section SEV
variable {kx : Nat} {zs : List mm_Zt} {Q : mm_S → Prop} {ρ0 : List Value} {d : Nat}
variable {ty : Nat → Option Nat} {tt : Nat → se_Ty} {W Z : se_W} {tw : Nat} {J : List mm_C → Prop} {m0 : List mm_C} {C : List se_C} {zt : Nat → Option Nat} {lvl : Nat}
theorem se_it_ok (hl1 : 1 ≤ lvl) (hC : ∀ c ∈ C, se_Met ty tt J kx zs c ∧ c.1.2 < lvl) (hdl : 13 * lvl ≤ d) (hJ : se_Jz ty Z J) (hkx : ∀ p t, ty p = some t → tw ≤ t → kx ≤ p) (hzt : se_zok ty zs zt) {stops : List Nat} : ∀ (k : Nat) {w : List se_S}, (∀ S ∈ se_it tt C W Z tw zt stops k w, se_Good ty tt W J m0 kx zs Q ρ0 d S) → ∀ S ∈ w, se_Good ty tt W J m0 kx zs Q ρ0 d S
  | 0, w, h, S, hS => by
    have hsub : ∀ T ∈ (if se_stop stops S then [S] else se_one tt C W Z tw zt S), se_Good ty tt W J m0 kx zs Q ρ0 d T := fun T hT => h T (List.mem_flatMap.mpr ⟨S, hS, hT⟩)
    split at hsub
    · exact hsub S List.mem_cons_self
    · unfold se_one at hsub
      split at hsub
      · next l hl => exact se_step_ok hl1 hC hdl hJ hkx hzt hl hsub
      · exact hsub S List.mem_cons_self
  | k + 1, w, h, S, hS => se_it_ok hl1 hC hdl hJ hkx hzt k (fun T hT => se_it_ok hl1 hC hdl hJ hkx hzt k h T hT) S hS
theorem se_some_ok {r : se_R} (h : se_some r = true) : ∃ l, r = some l := by
  unfold se_some at h
  split at h
  · exact ⟨_, rfl⟩
  · cases h
theorem se_gh_ok {σ : List se_V} {g : Nat} {ρ τ : List Value} (h : se_gh σ g = true) (hσ : sx_r2 (se_sv ρ) σ τ) (hg : ρ0.length = g) (hρ : ρ0 <+: ρ) : ρ0 <+: τ := by
  obtain ⟨δ, rfl⟩ := hρ
  have key : ∀ n, n < g → τ[n]? = ρ0[n]? := by
    intro n hn
    have h1 := List.all_eq_true.mp h n (List.mem_range.mpr hn)
    split at h1
    · next v hv =>
      obtain ⟨x, x1, x2⟩ := sx_r2_get hσ hv
      rw [se_eq_ok h1] at x2
      have hlt : n < ρ0.length := by omega
      have h3 : (ρ0 ++ δ)[n]? = some ρ0[n] := by rw [List.getElem?_append_left hlt, List.getElem?_eq_getElem hlt]
      have x2 : se_v (ρ0 ++ δ) (1, n, 0) = some x := x2
      rw [se_v_one h3] at x2
      cases x2
      rw [x1, List.getElem?_eq_getElem hlt]
    · cases h1
  refine ⟨τ.drop g, ?_⟩
  apply List.ext_getElem?
  intro n
  by_cases hn : n < ρ0.length
  · rw [List.getElem?_append_left hn, key n (by omega)]
  · rw [List.getElem?_append_right (by omega), List.getElem?_drop]
    congr 1
    omega
theorem se_kd_val {ds : List se_D} {ρ : List Value} (he : se_env ty ρ ds) (v : se_V) (h : se_kd ds v = 0) : ∃ x, se_v ρ v = some x := by
  by_cases e : v.1 = 0
  · exact ⟨_, by unfold se_v; rw [if_pos e]⟩
  · unfold se_kd at h
    rw [if_neg e] at h
    split at h
    · next d hd =>
      obtain ⟨w, w1, _⟩ := he.2 _ _ hd
      exact ⟨_, se_v_mul w1 e⟩
    · cases h
theorem se_gt_map : ∀ (k : Nat) (T : se_T), (se_gt k T).map Prod.fst = T.map Prod.fst
  | _, [] => rfl
  | k, (d, s) :: t => by
    show d :: (se_gt (k + 1) t).map Prod.fst = d :: t.map Prod.fst
    rw [se_gt_map (k + 1) t]
theorem se_pad_gl {n : Nat} {l : List (Option se_V)} {ρ : List Value} {lc : List (Nat × Value)} (h : se_gl ρ l lc) : se_gl ρ (se_pad n l) lc := by
  intro i v hi
  unfold se_pad at hi
  by_cases hl : i < l.length
  · rw [List.getElem?_append_left hl] at hi
    exact h i v hi
  · rw [List.getElem?_append_right (by omega)] at hi
    have := List.eq_of_mem_replicate (List.mem_of_getElem? hi)
    cases this
theorem se_pad_len {n : Nat} {l : List (Option se_V)} (h : l.length ≤ n) : (se_pad n l).length = n := by
  unfold se_pad
  simp
  omega
/-- what holds at a node -/
def se_Hn (ty : Nat → Option Nat) (tt : Nat → se_Ty) (W : se_W) (J : List mm_C → Prop) (m0 : List mm_C) (ρ0 : List Value) (N : se_N) (ρ : List Value) (lc : List (Nat × Value)) (mc : List mm_C) : Prop := se_env ty ρ (N.1.map Prod.fst) ∧ ρ0 <+: ρ ∧ se_gl ρ N.2.1 lc ∧ se_mf ρ N.2.2.1 mc ∧ se_pf ρ N.2.2.2 ∧ se_tm ty tt mc ∧ J mc ∧ se_fq ty W m0 mc
def se_Q (ty : Nat → Option Nat) (tt : Nat → se_Ty) (J : List mm_C → Prop) (c : se_C) (t : mm_Mt) (ρ0 : List Value) (m0 : List mm_C) (τ : mm_S) : Prop := ∃ v, mm_ret t τ = some v ∧ se_post ty tt J c ρ0 m0 v τ.2.2.2.1
theorem se_fin_ok {c : se_C} {t : mm_Mt} {Ns : List se_Nd} {old : Option (List se_V)} {S : se_S} (ht : mm_mths[c.1.1]? = some t) (h : se_fin tt c t Ns old S = true) (hg : ρ0.length = c.2.1.1.length) (ρo : List Value) (hpre : ∀ ρ, ρo <+: ρ → ∀ o, old = some o → se_enc ρ 16 o = se_enc ρo 16 o) (hρo : ρ0 <+: ρo) (hN : ∀ n ∈ Ns, ∀ (ρ : List Value) (lc : List (Nat × Value)) (mc : List mm_C) (cb sb : Nat), (∀ o, old = some o → se_enc ρ 16 n.2.2 < se_enc ρo 16 o) → se_Hn ty tt c.2.2.2 J m0 ρ0 n.2.1 ρ lc mc → mm_T kx zs (se_Q ty tt J c t ρ0 m0) [] d (sx_fi c.1.1) (n.1, lc, [], mc, cb, sb)) : se_Good ty tt c.2.2.2 J m0 kx zs (se_Q ty tt J c t ρ0 m0) ρo d S := by
  obtain ⟨ds, M, ⟨y, full, cs, lv, st⟩, K, P, L⟩ := S
  intro ρ hρ pc lc sc mc Kc cb sb he hf hX
  obtain ⟨hfull, hcs, hat, hlen, hgl, hst⟩ := id hf
  dsimp only at he hfull hcs hat hlen hgl hst hX ⊢
  unfold se_fin at h
  dsimp only at h
  split at h
  · next pc' ins len e4 rest =>
    have hpc : pc' = pc := hat _ _ rfl
    subst hpc
    rw [Bool.and_eq_true] at h
    obtain ⟨hy, h⟩ := h
    have hy := Nat.eq_of_beq_eq_true hy
    subst hy
    obtain ⟨hM, hK, hKl, hP, hL, htm, hJm, hF⟩ := hX
    cases Kc with
    | cons a b => exact hK.elim
    | nil =>
      obtain ⟨hd, hck⟩ := sx_dec hfull (hcs _ List.mem_cons_self)
      dsimp only at hd
      have hl : ∀ i v, se_ld lv i = some v → ∃ x, se_v ρ v = some x := fun i v hv => by
        obtain ⟨x, _, g⟩ := se_ld_ok hgl hv
        exact ⟨x, g⟩
      have hρ0 : ρ0 <+: ρ := List.IsPrefix.trans hρo hρ
      split at h
      · next hr =>
        refine mm_T_fin hd hr ?_
        rw [Bool.and_eq_true] at h
        obtain ⟨h1, h2⟩ := h
        have hdd : decode t.2.2.1 pc' = .ok (ins, len) := by
          rw [sx_cods_mths ht] at hd
          exact hd
        unfold se_exq at h2
        obtain ⟨e, e1, e2⟩ := List.any_eq_true.mp h2
        have post : ∀ {lvs nlv : List (Option se_V)} (v : Option Value), (∀ i v, se_ld lvs i = some v → ∃ x, se_v ρ v = some x) → se_some (se_match tt lvs P (se_gt 0 c.2.1.1 ++ e.1, nlv, e.2.2.1, e.2.2.2) ds M (fun _ _ σ => if se_gh σ c.2.1.1.length then some [] else none)) = true → (e.2.1 = none → v = none) → (∀ (ρ1 τ : List Value), (∀ (i : Nat) (u : se_V), nlv[i]? = some (some u) → ∃ w x, lvs[i]? = some (some w) ∧ se_v (ρ ++ ρ1) w = some x ∧ se_v τ u = some x) → ∀ rv, e.2.1 = some rv → ∃ x, v = some x ∧ se_v τ rv = some x) → se_post ty tt J c ρ0 m0 v mc := by
          intro lvs nlv v q1 q2 q3 q4
          obtain ⟨l, hl2⟩ := se_some_ok q2
          obtain ⟨δ, ds2, M2, σ, τ, g1, g2, g3, g4, g5, g6, g7, g8⟩ := se_match_ok htm hl2 he hP hM q1
          split at g1
          · next gg =>
            obtain ⟨δ2, rfl⟩ := se_gh_ok gg g4 hg (List.IsPrefix.trans hρ0 (List.prefix_append _ _))
            refine ⟨e, e1, δ2, ?_, g7, g8, q3, q4 δ _ g6, htm, hJm, hF⟩
            rw [List.map_append, se_gt_map] at g5
            exact g5
          · cases g1
        unfold se_rok at h1
        rw [Bool.and_eq_true] at h1
        obtain ⟨hl0, h1'⟩ := h1
        have hl1 := Nat.eq_of_beq_eq_true hl0
        clear hl0
        subst hl1
        have one : ∀ {v : se_V} {x : Value}, st = [v] → se_v ρ v = some x → ∃ vv, se_post ty tt J c ρ0 m0 vv mc ∧ (vv = some x) := by
          intro v x es hx
          subst es
          split at e2
          · next hh1 hh2 => cases hh2
          · next rv v' her hev =>
            cases hev
            refine ⟨some x, post (some x) (fun i u hu => ?_) e2 (fun z => by rw [z] at her; cases her) (fun ρ1 τ hh rv' hrv => ?_), rfl⟩
            · unfold se_ld at hu
              cases i with
              | zero => simp at hu; subst hu; exact ⟨x, hx⟩
              | succ i => simp at hu
            · rw [hrv] at her
              cases her
              obtain ⟨w, x', w1, w2, w3⟩ := hh 0 _ rfl
              simp at w1
              subst w1
              rw [se_v_app hx] at w2
              cases w2
              exact ⟨_, rfl, w3⟩
          · cases e2
        split at h1'
        · next fty v hty =>
          have h1 := h1'
          have hq := sx_r2_cons hst; clear hst; obtain ⟨b1, rc, rfl, g1, hst⟩ := hq
          cases sx_r2_nil hst
          replace h1 : (Nat.beq (se_kd ds v) 0 && se_nar fty (se_rg ds v).1 (se_rg ds v).2) = true := h1
          rw [Bool.and_eq_true] at h1
          obtain ⟨n, rfl, a1, a2⟩ := se_int he g1 (Nat.eq_of_beq_eq_true h1.1)
          obtain ⟨vv, k1, rfl⟩ := one rfl g1
          refine ⟨some (.int n), ?_, k1⟩
          unfold mm_ret
          rw [hdd]
          dsimp only
          rw [hty]
          dsimp only
          rw [if_pos (se_nar_ok h1.2 a1 a2).1]
          rfl
        · next nm v hty =>
          have hq := sx_r2_cons hst; clear hst; obtain ⟨b1, rc, rfl, g1, hst⟩ := hq
          cases sx_r2_nil hst
          have h1 := Nat.le_of_ble_eq_true h1'
          obtain ⟨t', et⟩ : ∃ t, se_kd ds v = t + 2 := ⟨se_kd ds v - 2, by omega⟩
          obtain ⟨q, rfl, _⟩ := se_ref he g1 et
          obtain ⟨vv, k1, rfl⟩ := one rfl g1
          refine ⟨some (.ref q), ?_, k1⟩
          unfold mm_ret
          rw [hdd]
          dsimp only
          rw [hty]
          rfl
        · next v hty =>
          have hq := sx_r2_cons hst; clear hst; obtain ⟨b1, rc, rfl, g1, hst⟩ := hq
          cases sx_r2_nil hst
          obtain ⟨n, rfl⟩ := se_long he g1 (Nat.eq_of_beq_eq_true h1')
          obtain ⟨vv, k1, rfl⟩ := one rfl g1
          refine ⟨some (.long n), ?_, k1⟩
          unfold mm_ret
          rw [hdd]
          dsimp only
          rw [hty]
          rfl
        · next hty =>
          cases sx_r2_nil hst
          refine ⟨none, ?_, ?_⟩
          · unfold mm_ret
            rw [hdd]
            dsimp only
            rw [hty]
            rfl
          · split at e2
            · next her _ =>
              exact post none (fun i u hu => by unfold se_ld at hu; simp at hu) e2 (fun _ => rfl) (fun ρ1 τ hh rv hrv => by rw [hrv] at her; cases her)
            · next hh1 hh2 => cases hh2
            · cases e2
        · cases h1'
      · split at h
        · cases sx_r2_nil hst
          unfold se_arr at h
          obtain ⟨n, n1, n2⟩ := List.any_eq_true.mp h
          rw [Bool.and_eq_true] at n2
          have hnp := Nat.eq_of_beq_eq_true n2.1
          obtain ⟨l, hl2⟩ := se_some_ok n2.2
          obtain ⟨δ, ds2, M2, σ, τ, g1, g2, g3, g4, g5, g6, g7, g8⟩ := se_match_ok htm hl2 he hP hM hl
          split at g1
          · next gg =>
            rw [Bool.and_eq_true] at gg
            have hτ := se_gh_ok gg.1 g4 hg (List.IsPrefix.trans hρ0 (List.prefix_append ρ δ))
            rw [← hnp]
            refine hN n n1 τ lc mc cb sb (fun o ho => ?_) ⟨g5, hτ, fun i v hv => ?_, g7, g8, htm, hJm, hF⟩
            · have hlq := gg.2
              rw [ho] at hlq
              have hlt := se_lex_ok (ty := ty) g2 (se_pf_app hP δ) g4 (se_kd_val g2) 16 hlq
              rw [hpre (ρ ++ δ) (List.IsPrefix.trans hρ (List.prefix_append _ _)) o ho] at hlt
              exact hlt
            · obtain ⟨w, x, w1, w2, w3⟩ := g6 i v hv
              obtain ⟨x', x1, x2⟩ := hgl i w w1
              rw [se_v_app x2] at w2
              cases w2
              exact ⟨_, x1, w3⟩
          · cases g1
        · cases h
  · cases h
end SEV
