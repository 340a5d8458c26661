/-! ===== printed by wip/iv/gen_v8.py: what p8 compares of either side; a day, days of the reference ===== -/
/-- floats, persons, today; the floats' kinds, planks, sunk or not -/
abbrev V8 : Type := Int × Int × Int × (Int → Int) × (Int → Int) × (Int → Int)
def vR (μ : iv_M) : V8 := (μ 196 0, μ 196 1, μ 196 3, kR μ, pR μ, sR μ)
def vC (μ : iv_M) : V8 := (μ 39 2, μ 39 4, μ 39 9, fun i => μ (i + 55) 0, fun i => μ (i + 55) 2, fun i => μ (i + 55) 6)
def pas (F G : Int → Int → Int → Int → Int) (v w : V8) : Prop := w.1 = v.1 ∧ w.2.1 = v.2.1 ∧ w.2.2.1 = iv_w (v.2.2.1 + 1) ∧ (∀ i, 0 ≤ i → i < 10 → w.2.2.2.1 i = v.2.2.2.1 i) ∧ rinv (F v.2.2.1) (G v.2.2.1) v.1 v.2.2.2.1 v.2.2.2.2.1 v.2.2.2.2.2 w.2.2.2.2.1 w.2.2.2.2.2
def pasn (F G : Int → Int → Int → Int → Int) : Nat → V8 → V8 → Prop
  | 0, v, w => w = v
  | m + 1, v, w => ∃ u, pas F G v u ∧ pasn F G m u w
def R8 (v w : V8) : Prop := v.1 = w.1 ∧ v.2.1 = w.2.1 ∧ v.2.2.1 = w.2.2.1 ∧ ∀ i, 0 ≤ i → i < 10 → v.2.2.2.1 i = w.2.2.2.1 i ∧ v.2.2.2.2.1 i = w.2.2.2.2.1 i ∧ v.2.2.2.2.2 i = w.2.2.2.2.2 i ∧ (0 ≤ v.2.2.2.2.2 i ∧ v.2.2.2.2.2 i ≤ 1) ∧ (i < v.1 → v.2.2.2.2.2 i = 0 → 1 ≤ v.2.2.2.2.1 i ∧ v.2.2.2.2.1 i ≤ 99)
theorem R8_pas {v w v' w' : V8} (h : R8 v w) (h1 : pas rpC rsC v v') (h2 : pas rpR rsR w w') : R8 v' w' := by
  obtain ⟨n, m, t, k, p, s⟩ := v
  obtain ⟨n2, m2, t2, k2, p2, s2⟩ := w
  obtain ⟨n', m', t', k', p', s'⟩ := v'
  obtain ⟨n2', m2', t2', k2', p2', s2'⟩ := w'
  obtain ⟨a1, a2, a3, a4⟩ := h
  obtain ⟨b1, b2, b3, b4, b5⟩ := h1
  obtain ⟨c1, c2, c3, c4, c5⟩ := h2
  dsimp only at *
  subst a1 a2 a3
  refine ⟨by rw [b1, c1], by rw [b2, c2], by rw [b3, c3], fun i i0 i1 => ?_⟩
  obtain ⟨e1, e2, e3, e4, e5⟩ := a4 i i0 i1
  obtain ⟨x1, x2⟩ := b5 i i0 i1
  obtain ⟨y1, y2⟩ := c5 i i0 i1
  dsimp only
  rw [b4 i i0 i1, c4 i i0 i1, b1]
  by_cases hi : i < n
  · obtain ⟨x1, x3⟩ := x1 hi
    obtain ⟨y1, y3⟩ := y1 hi
    have q := e5 hi
    rw [x1, x3, y1, y3, ← e1, ← e2, ← e3]
    unfold rpC rpR rsC rsR
    by_cases c : s i ≠ 0 ∨ (k i ≠ 5 ∧ iv_rem t 10 ≠ 0)
    · have c' : s i = 1 ∨ (k i ≠ 5 ∧ iv_rem t 10 ≠ 0) := by omega
      rw [if_pos c, if_pos c, if_pos c', if_pos c']
      exact ⟨rfl, rfl, rfl, e4, fun _ => q⟩
    · have c' : ¬ (s i = 1 ∨ (k i ≠ 5 ∧ iv_rem t 10 ≠ 0)) := by omega
      have q := q (by omega)
      have e : iv_w (p i - 1) = p i - 1 := iv_w_id (by omega) (by omega)
      rw [if_neg c, if_neg c, if_neg c', if_neg c', e]
      by_cases z : p i - 1 = 0
      · rw [if_pos (show p i - 1 ≤ 0 by omega), if_pos z]
        exact ⟨rfl, rfl, rfl, ⟨by decide, by decide⟩, fun _ h => absurd h (by decide)⟩
      · rw [if_neg (show ¬ p i - 1 ≤ 0 by omega), if_neg z]
        exact ⟨rfl, rfl, rfl, e4, fun _ _ => ⟨by omega, by omega⟩⟩
  · obtain ⟨x1, x3⟩ := x2 (by omega)
    obtain ⟨y1, y3⟩ := y2 (by omega)
    rw [x1, x3, y1, y3]
    exact ⟨e1, e2, e3, e4, fun h => absurd h hi⟩
theorem R8_pasn : ∀ (m : Nat) {v w v' w' : V8}, R8 v w → pasn rpC rsC m v v' → pasn rpR rsR m w w' → R8 v' w'
  | 0, v, w, v', w', h, h1, h2 => by
    cases h1
    cases h2
    exact h
  | m + 1, v, w, v', w', h, ⟨u, a1, a2⟩, ⟨u', b1, b2⟩ => R8_pasn m (R8_pas h a1 b1) a2 b2
theorem rinv_cong {F G : Int → Int → Int → Int} {l : Int} {k p0 s0 p s k' p0' s0' p' s' : Int → Int} (h : rinv F G l k p0 s0 p s) (e : ∀ i, 0 ≤ i → i < 10 → k' i = k i ∧ p0' i = p0 i ∧ s0' i = s0 i ∧ p' i = p i ∧ s' i = s i) : rinv F G l k' p0' s0' p' s' := fun i i0 i1 => by
  obtain ⟨a, b, c, d, f⟩ := e i i0 i1
  rw [a, b, c, d, f]
  exact h i i0 i1
section V8S
variable {L : Nat} {xs : Nat → Int32} {vz : Value} {μ : iv_M}
theorem vR_upd {p k v : Int} (h : p ≠ 196) : vR (iv_upd μ p k v) = vR μ := by
  have e : ∀ j, iv_upd μ p k v 196 j = μ 196 j := fun j => iv_upd_ne _ _ (Or.inl (fun q => h q.symm))
  unfold vR kR pR sR
  simp only [e]
theorem k_and {r r' : Option iv_Z} {m1 m2 : iv_M} (a1 : r.map iv_cz = r'.map iv_cz) (a2 : iv_m L xs m1 = iv_m L xs m2) (q1 : br_J L xs m2) (q3 : r' = none) : br_J L xs m1 ∧ r = none := by
  subst q3
  refine ⟨by unfold br_J at q1 ⊢; rw [a2]; exact q1, ?_⟩
  cases r with
  | none => rfl
  | some _ => cases a1
theorem k_passes {d : Nat} (hL : L ≤ 3072) (hv : vz.category = 1) (hd : 100 ≤ d) (hJ : br_J L xs μ) {a b : Int} : iv_C L xs vz d 270 [(14, 195), (0, a), (0, b)] μ (fun r μ' => pas rpR rsR (vR μ) (vR μ') ∧ br_J L xs μ' ∧ ∃ z, r = some (0, z)) := by
  refine iv_C_N (fun hN _ => iv_C_of ?_)
  refine sg_270_0 hL (by omega) ?_
  refine iv_call (want := 1) (y := 270) (pc := 2) (z := 271) (cls := 12) (sa := [(0, a)]) (th := [(14, 195)]) (r := []) (d' := d - 1) (show iv_cck 1 270 2 271 = true by decide +kernel) (Or.inl ⟨rfl, _, rfl⟩) (show iv_mck 1 271 1 12 2 = true by decide +kernel) (show (0 : Nat) ≤ 8 by decide) (by omega) (iv_C_mono (pb_271 hv (by omega) hJ) (fun v μ1 hp => ?_))
  obtain ⟨j1, f1, z, rfl, hz, -, -⟩ := hp
  have k1 : kq K3 μ μ1 := kq_br (by decide +kernel) f1
  refine sg_270_5 hL (by omega) ?_
  refine iv_call (want := 1) (y := 270) (pc := 8) (z := 272) (cls := 12) (sa := [(0, b)]) (th := [(14, 195)]) (r := []) (d' := d - 1) (show iv_cck 1 270 8 272 = true by decide +kernel) (Or.inl ⟨rfl, _, rfl⟩) (show iv_mck 1 272 1 12 2 = true by decide +kernel) (show (0 : Nat) ≤ 8 by decide) (by omega) (iv_C_mono (iv_C_and (k_rains hL (by omega) j1) (pb_272 hv (by omega) j1) (fun r μ' => br_J L xs μ' ∧ r = none) (fun r m1 r' m2 a1 a2 _ _ a3 => k_and a1 a2 a3.1 a3.2.2)) (fun v μ2 hp => ?_))
  obtain ⟨k2, j2, rfl⟩ := hp
  have k2 := kq_tr k1 k2
  refine sg_270_11 hL (by omega) ?_
  refine iv_call (want := 1) (y := 270) (pc := 12) (z := 274) (cls := 12) (sa := []) (th := [(14, 195)]) (r := []) (d' := d - 1) (show iv_cck 1 270 12 274 = true by decide +kernel) (Or.inl ⟨rfl, _, rfl⟩) (show iv_mck 1 274 0 12 1 = true by decide +kernel) (show (0 : Nat) ≤ 8 by decide) (by omega) (iv_C_mono (iv_C_and (k_drink hL hv (by omega) j2) (pb_274 hv (by omega) j2) (fun r μ' => br_J L xs μ' ∧ r = none) (fun r m1 r' m2 a1 a2 _ _ a3 => k_and a1 a2 a3.1 a3.2.2)) (fun v μ3 hp => ?_))
  obtain ⟨k3, j3, rfl⟩ := hp
  have k3 := kq_tr k2 k3
  refine sg_270_15 hL (by omega) ?_
  refine iv_call (want := 1) (y := 270) (pc := 17) (z := 276) (cls := 12) (sa := [(0, b)]) (th := [(14, 195)]) (r := []) (d' := d - 1) (show iv_cck 1 270 17 276 = true by decide +kernel) (Or.inl ⟨rfl, _, rfl⟩) (show iv_mck 1 276 1 12 2 = true by decide +kernel) (show (0 : Nat) ≤ 8 by decide) (by omega) (iv_C_mono (pb_276 hv (by omega) j3) (fun v μ4 hp => ?_))
  obtain ⟨j4, f4, rfl⟩ := hp
  have k4 := kq_tr k3 (kq_br (by decide +kernel) f4)
  refine sg_270_20 hL (by omega) ?_
  refine iv_call (want := 1) (y := 270) (pc := 21) (z := 277) (cls := 12) (sa := []) (th := [(14, 195)]) (r := []) (d' := d - 1) (show iv_cck 1 270 21 277 = true by decide +kernel) (Or.inl ⟨rfl, _, rfl⟩) (show iv_mck 1 277 0 12 1 = true by decide +kernel) (show (0 : Nat) ≤ 8 by decide) (by omega) (iv_C_mono (iv_C_and (k_rots hL hv (by omega) j4) (pb_277 hv (by omega) j4) (fun r μ' => br_J L xs μ' ∧ r = none) (fun r m1 r' m2 a1 a2 _ _ a3 => k_and a1 a2 a3.1 a3.2.2)) (fun v μ5 hp => ?_))
  obtain ⟨⟨k5, r5⟩, j5, rfl⟩ := hp
  have e0 : True := trivial
  refine sg_270_24 hL (by omega) ?_
  refine iv_call (want := 1) (y := 270) (pc := 25) (z := 279) (cls := 12) (sa := []) (th := [(14, 195)]) (r := []) (d' := d - 1) (show iv_cck 1 270 25 279 = true by decide +kernel) (Or.inl ⟨rfl, _, rfl⟩) (show iv_mck 1 279 0 12 1 = true by decide +kernel) (show (0 : Nat) ≤ 8 by decide) (by omega) (iv_C_mono (iv_C_and (k_drifts hL (by omega) j5) (pb_279 hv (by omega) j5) (fun r μ' => br_J L xs μ' ∧ r = none) (fun r m1 r' m2 a1 a2 _ _ a3 => k_and a1 a2 a3.1 a3.2.2)) (fun v μ6 hp => ?_))
  obtain ⟨k6, j6, rfl⟩ := hp
  have e : ∀ (v : Int) (j : Int), j ≠ 3 → iv_upd μ6 196 3 v 196 j = μ6 196 j := fun v j hj => iv_upd_ne _ _ (Or.inr hj)
  have n6 : μ6 196 0 = μ 196 0 := (k6 0 (by omega)).trans ((k5 0 (by omega)).trans (k4 0 (by omega)))
  have m6 : μ6 196 1 = μ 196 1 := (k6 1 (by omega)).trans ((k5 1 (by omega)).trans (k4 1 (by omega)))
  have t6 : μ6 196 3 = μ 196 3 := (k6 3 (by omega)).trans ((k5 3 (by omega)).trans (k4 3 (by omega)))
  rw [k4 3 (by omega), k4 0 (by omega)] at r5
  have hp : pas rpR rsR (vR μ) (vR (iv_upd μ6 196 3 (iv_w (μ6 196 3 + 1)))) := by
    refine ⟨?_, ?_, ?_, fun i i0 i1 => ?_, ?_⟩
    · exact (e (iv_w (μ6 196 3 + 1)) 0 (by decide)).trans n6
    · exact (e (iv_w (μ6 196 3 + 1)) 1 (by decide)).trans m6
    · show iv_upd μ6 196 3 (iv_w (μ6 196 3 + 1)) 196 3 = iv_w (μ 196 3 + 1)
      rw [iv_upd_same, t6]
    · exact (e (iv_w (μ6 196 3 + 1)) (i * 7 + 80) (by omega)).trans ((k6 (i * 7 + 80) (by omega)).trans ((k5 (i * 7 + 80) (by omega)).trans (k4 (i * 7 + 80) (by omega))))
    · refine rinv_cong r5 (fun i i0 i1 => ⟨(k4 (i * 7 + 80) (by omega)).symm, (k4 (i * 7 + 82) (by omega)).symm, (k4 (i * 7 + 86) (by omega)).symm, ?_, ?_⟩)
      · exact (e (iv_w (μ6 196 3 + 1)) (i * 7 + 82) (by omega)).trans (k6 (i * 7 + 82) (by omega))
      · exact (e (iv_w (μ6 196 3 + 1)) (i * 7 + 86) (by omega)).trans (k6 (i * 7 + 86) (by omega))
  exact sg_270_28 hL (by omega) ⟨hp, br_J_now j6 (by decide) (by decide) (show se_seg (se_tt 56).2.2.2 (3 : Int).toNat = (0, (-2147483648), 2147483647) from rfl) (iv_w_i32 _) (iv_w_i32 _), _, rfl⟩
def gday (a b : Int) : Prop := 0 ≤ a ∧ a ≤ 20 ∧ 0 ≤ b ∧ b ≤ 9
theorem k_day {d : Nat} (hL : L ≤ 3072) (hv : vz.category = 1) (hd : 110 ≤ d) (hJ : br_J L xs μ) {a b : Int} : iv_C L xs vz d 269 [(14, 195), (0, a), (0, b)] μ (fun _ μ' => (¬ gday a b → vR μ' = vR μ) ∧ (gday a b → pas rpR rsR (vR μ) (vR μ'))) := by
  refine iv_C_N (fun hN _ => iv_C_of ?_)
  refine sg_269_0 hL (by omega) ?_ ?_ ?_ ?_ ?_ <;> intros <;> first | exact ⟨fun _ => vR_upd (by decide), fun q => by unfold gday at q; omega⟩ | skip
  refine iv_call (want := 1) (y := 269) (pc := 20) (z := 270) (cls := 12) (sa := [(0, b), (0, a)]) (th := [(14, 195)]) (r := []) (d' := d - 1) (show iv_cck 1 269 20 270 = true by decide +kernel) (Or.inl ⟨rfl, _, rfl⟩) (show iv_mck 1 270 2 12 3 = true by decide +kernel) (show (0 : Nat) ≤ 8 by decide) (by omega) (iv_C_mono (k_passes hL hv (by omega) hJ) (fun v μ1 hp => ?_))
  obtain ⟨k1, j1, z, rfl⟩ := hp
  exact sg_269_23 hL (by omega) ⟨fun q => absurd (show gday a b from ⟨by omega, by omega, by omega, by omega⟩) q, fun _ => k1⟩
theorem k_days51 {d : Nat} (hL : L ≤ 3072) (hv : vz.category = 1) (hd : 110 ≤ d) {n s : Int} (hn : n ≤ 30) (hs : 0 ≤ s ∧ s ≤ 3) : ∀ (m : Nat) (k w r c : Int) (μ : iv_M), 0 ≤ k → n = k + m → br_J L xs μ → iv_G L xs vz d 281 51 [some (14, 195), some (0, n), some (0, s), some (0, w), some (0, r), some (0, c), some (0, k), none] [] μ (fun _ μ' => pasn rpR rsR m (vR μ) (vR μ')) := by
  intro m
  have size : ∀ {μ : iv_M}, br_J L xs μ → iv_N μ → μ 210 s ≤ 20 := by
    intro μ hJ hN
    obtain ⟨i, rfl⟩ := Int.eq_ofNat_of_zero_le hs.1
    have hi : i < 4 := by omega
    have q : ∀ i, i < 4 → se_seg (se_tt (match st_ty 210 with | some t => t | none => 0)).2.2.2 i = (0, 0, 20) := by decide +kernel
    exact (br_rg (p := 210) (k := i) (l := 0) (h := 20) hJ hN (show st_ty 210 = some (match st_ty 210 with | some t => t | none => 0) from rfl) ⟨by decide, by decide⟩ (show i < 4 from hi) (q i hi)).2
  induction m with
  | zero =>
    intro k w r c μ h0 h1 hJ
    refine iv_intro (fun hN _ _ => ?_)
    refine sg_281_51 hL (by omega) (size hJ hN) hn hs.1 hs.2 h0 ?_ ?_ ?_ ?_ ?_ ?_ ?_ ?_ ?_ <;> intros <;> first | exact rfl | omega
  | succ m ih =>
    intro k w r c μ h0 h1 hJ
    refine iv_intro (fun hN _ _ => ?_)
    have hz := size hJ hN
    have go : ∀ (w' r' g : Int), k ≤ 30 → iv_G L xs vz d 281 182 [some (14, 195), some (0, n), some (0, s), some (0, w'), some (0, r'), some (0, c), some (0, k), some (0, g)] [(0, r'), (0, w'), (14, 195), (0, c)] μ (fun _ μ' => pasn rpR rsR (m + 1) (vR μ) (vR μ')) := by
      intro w' r' g h30
      refine iv_call (want := 1) (y := 281) (pc := 182) (z := 270) (cls := 12) (sa := [(0, r'), (0, w')]) (th := [(14, 195)]) (r := [(0, c)]) (d' := d - 1) (show iv_cck 1 281 182 270 = true by decide +kernel) (Or.inl ⟨rfl, _, rfl⟩) (show iv_mck 1 270 2 12 3 = true by decide +kernel) (show (1 : Nat) ≤ 8 by decide) (by omega) (iv_C_mono (k_passes hL hv (by omega) hJ) (fun v μ1 hp => ?_))
      obtain ⟨k1, j1, z, rfl⟩ := hp
      refine sg_281_185 hL (by omega) h0 h30 hn hs.1 hs.2 ?_
      refine iv_wk (ls' := [some (14, 195), some (0, n), some (0, s), some (0, w'), some (0, r'), some (0, iv_w (c + z)), some (0, k + 1), none]) (iv_G_mono (ih (k + 1) w' r' _ μ1 (by omega) (by omega) j1) (Nat.le_refl _) (fun r μ' _ _ hq => ⟨_, k1, hq⟩)) ⟨Or.inr rfl, Or.inr rfl, Or.inr rfl, Or.inr rfl, Or.inr rfl, Or.inr rfl, Or.inr rfl, Or.inl rfl, trivial⟩
    refine sg_281_51 hL (by omega) hz hn hs.1 hs.2 h0 ?_ ?_ ?_ ?_ ?_ ?_ ?_ ?_ ?_ <;> intros <;> first | omega | exact go _ _ _ (by omega)
def gdays (n s b : Int) : Prop := 1 ≤ n ∧ n ≤ 30 ∧ 0 ≤ s ∧ s ≤ 3 ∧ b ≠ 0
theorem k_days {d : Nat} (hL : L ≤ 3072) (hv : vz.category = 1) (hd : 110 ≤ d) (hJ : br_J L xs μ) {a b : Int} : iv_C L xs vz d 281 [(14, 195), (0, a), (0, b)] μ (fun _ μ' => (¬ gdays a b (μ 209 b) → vR μ' = vR μ) ∧ (gdays a b (μ 209 b) → pasn rpR rsR a.toNat (vR μ) (vR μ'))) := by
  refine iv_C_N (fun hN _ => iv_C_of ?_)
  refine sg_281_0 hL (by omega) ?_ ?_ ?_ ?_ ?_ ?_ <;> intros <;> first | exact ⟨fun _ => vR_upd (by decide), fun q => by unfold gdays at q; omega⟩ | skip
  refine iv_G_mono (k_days51 hL hv hd (by omega) ⟨by omega, by omega⟩ a.toNat 0 0 0 0 μ (by decide) (by omega) hJ) (Nat.le_refl _) (fun r μ' _ _ hq => ⟨fun q => absurd (show gdays a b (μ 209 b) from ⟨by omega, by omega, by omega, by omega, by omega⟩) q, fun _ => hq⟩)
end V8S
