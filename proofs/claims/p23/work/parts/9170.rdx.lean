/-! ===== the class's reader: a clause, the whole text ===== -/
def rd_FG (cl : Int) (μ μ' : iv_M) : Prop := ∀ p k : Int, p ≠ 182 ∨ (k ≠ 3 ∧ k ≠ 4 ∧ k ≠ 5 ∧ k ≠ 6) → p ≠ 184 ∨ k ≠ 3 → p ≠ 185 → p ≠ 186 ∨ k ≠ cl → μ' p k = μ p k
theorem rd_FG_F {cl : Int} {μ μ1 : iv_M} (h : rd_F μ μ1) : rd_FG cl μ μ1 := fun p k a b c _ => h p k a b c
theorem rd_FG_tr {cl : Int} {μ μ1 μ2 : iv_M} (h : rd_FG cl μ μ1) (h2 : rd_FG cl μ1 μ2) : rd_FG cl μ μ2 := fun p k a b c e => (h2 p k a b c e).trans (h p k a b c e)
theorem rd_T_E {b : Nat → Int} {n i t : Nat} {μ : iv_M} (k v : Int) (hT : rd_T b n μ i t) : rd_T b n (iv_upd μ 186 k v) i t := by
  obtain ⟨⟨b1, b2, b3⟩, hi, ht, e3, e4, e5, e6⟩ := hT
  have f : ∀ j, iv_upd μ 186 k v 182 j = μ 182 j := fun j => iv_upd_ne _ _ (Or.inl (by decide))
  exact ⟨⟨(f _).trans b1, b2, fun j hj => (iv_upd_ne _ _ (Or.inl (by decide))).trans (b3 j hj)⟩, hi, ht, (f _).trans e3, (f _).trans e4, (f _).trans e5, fun q => (f _).trans (e6 q)⟩
theorem rd_D_E {μ : iv_M} {c : List Int} (k v : Int) (h : rd_D μ c) : rd_D (iv_upd μ 186 k v) c := ⟨(iv_upd_ne _ _ (Or.inl (by decide))).trans h.1, h.2.1, fun j hj => (iv_upd_ne _ _ (Or.inl (by decide))).trans (h.2.2 j hj)⟩
section RDX
variable {L : Nat} {xs : Nat → Int32} {vz : Value} {b : Nat → Int} {n : Nat}
theorem rd_pass {d : Nat} {μ : iv_M} (hL : L ≤ 3072) (hv : vz.category = 1) (hd : 64 ≤ d) {i t : Nat} (hT : rd_T b n μ i t) (u : Nat) : iv_C L xs vz d 154 [(10, 182), (0, (u : Int))] μ (fun q μ' => (t ≠ u ∧ q = some (0, 0) ∧ μ' = μ) ∨ (t = u ∧ q = some (0, 1) ∧ rd_F0 μ μ' ∧ ∃ t', rd_T b n μ' (tk_e b n i) t')) := by
  have e4 := hT.2.2.2.2.1
  refine iv_C_of (sg_154_0 hL (by omega) (fun q => ?_) (fun q => Or.inl ⟨by omega, rfl, rfl⟩))
  refine iv_call (want := 1) (y := 154) (pc := 11) (z := 133) (cls := 8) (sa := []) (th := [(10, 182)]) (r := []) (d' := d - 1) (show iv_cck 1 154 11 133 = true by decide +kernel) (Or.inl ⟨rfl, _, rfl⟩) (show iv_mck 1 133 0 8 1 = true by decide +kernel) (show (0 : Nat) ≤ 8 by decide) (by omega) (iv_C_mono (rd_T_next hL hv (by omega) hT) (fun q μ' hq => ?_))
  obtain ⟨rfl, hF, t', hT'⟩ := hq
  exact sg_154_14 hL (by omega) (Or.inr ⟨by omega, rfl, hF, t', hT'⟩)
/-- what a clause comes to -/
def rd_Y (b : Nat → Int) (n i t u cl : Nat) (c : List Int) (μ : iv_M) (q : Option iv_Z) (μ' : iv_M) : Prop := rd_FG (cl : Int) μ μ' ∧ 0 ≤ μ' 184 3 ∧ ∃ j t', i ≤ j ∧ rd_T b n μ' j t' ∧ ((q = some (0, 0) ∧ ((t ≠ u ∧ j = i) ∨ (t = u ∧ mc_Q b n (tk_e b n i) ([], 0, c) none j))) ∨ (q = some (0, 1) ∧ t = u ∧ ∃ c' j0, mc_Q b n (tk_e b n i) ([], 0, c) (some c') j0 ∧ j = tk_e b n j0 ∧ rd_D μ' c' ∧ c'.length ≤ j ∧ μ' 186 (cl : Int) = (c'.length : Int)))
theorem rd_cla {d : Nat} {μ : iv_M} (hL : L ≤ 3072) (hv : vz.category = 1) (hd : 130 ≤ d) {i t : Nat} {c : List Int} (hT : rd_T b n μ i t) (hD : rd_D μ c) (hc : c.length ≤ i) {u cl : Nat} (hu : u < 23) (hcl : cl < 3) : iv_C L xs vz d 153 [(10, 182), (0, (u : Int)), (0, (cl : Int))] μ (rd_Y b n i t u cl c μ) := by
  have h0 := rd_D_0le hD
  -- the clause's end is told in any case
  have fin0 : ∀ (j t' : Nat) (μ' : iv_M), rd_F μ μ' → 0 ≤ μ' 184 3 → i ≤ j → rd_T b n μ' j t' → ((t ≠ u ∧ j = i) ∨ (t = u ∧ mc_Q b n (tk_e b n i) ([], 0, c) none j)) → iv_G L xs vz d 153 36 [some (10, 182), some (0, (u : Int)), some (0, (cl : Int)), some (0, 0)] [(0, (cl : Int)), (11, 184)] μ' (rd_Y b n i t u cl c μ) := fun j t' μ' hF h0' hij hT' hq => by
    refine iv_call (want := 1) (y := 153) (pc := 36) (z := 163) (cls := 9) (sa := [(0, (cl : Int))]) (th := [(11, 184)]) (r := []) (d' := d - 1) (show iv_cck 1 153 36 163 = true by decide +kernel) (Or.inl ⟨rfl, _, rfl⟩) (show iv_mck 1 163 1 9 2 = true by decide +kernel) (show (0 : Nat) ≤ 8 by decide) (by omega) (iv_C_of (sg_163_0 hL (by omega) (fun q => by exfalso; omega) (fun _ q => by exfalso; omega) (fun _ _ => ?_)))
    exact sg_153_39 hL (by omega) (fun _ => ⟨rd_FG_tr (rd_FG_F hF) (fun p k _ _ _ e => iv_upd_ne _ _ e), (by rw [iv_upd_ne _ _ (Or.inl (by decide))]; exact h0'), j, t', hij, rd_T_E _ _ hT', Or.inl ⟨rfl, hq⟩⟩) (fun h => h ⟨by omega, by omega⟩)
  refine iv_C_of (sg_153_0 hL (by omega) ?_)
  refine iv_call (want := 1) (y := 153) (pc := 2) (z := 154) (cls := 8) (sa := [(0, (u : Int))]) (th := [(10, 182)]) (r := []) (d' := d - 1) (show iv_cck 1 153 2 154 = true by decide +kernel) (Or.inl ⟨rfl, _, rfl⟩) (show iv_mck 1 154 1 8 2 = true by decide +kernel) (show (0 : Nat) ≤ 8 by decide) (by omega) (iv_C_mono (rd_pass hL hv (by omega) hT u) (fun q μ1 hq => ?_))
  rcases hq with ⟨htu, rfl, rfl⟩ | ⟨htu, rfl, hF1, t1, hT1⟩
  · exact sg_153_5 hL (by omega) (fun _ => fin0 i t _ (rd_F_rfl _) h0 (Nat.le_refl i) hT (Or.inl ⟨htu, rfl⟩)) (fun q => absurd rfl q)
  · have ha := tk_adv hT.2.1 hT.2.2.1 (by omega)
    refine sg_153_5 hL (by omega) (fun q => by cases q) (fun _ => ?_)
    have hor := (rd_all (L := L) (xs := xs) (vz := vz) (b := b) (n := n) hL hv 4 0 rfl).1
    refine iv_call (want := 1) (y := 153) (pc := 10) (z := 155) (cls := 8) (sa := [(0, ((0 : Nat) : Int))]) (th := [(10, 182)]) (r := []) (d' := d - 1) (show iv_cck 1 153 10 155 = true by decide +kernel) (Or.inl ⟨rfl, _, rfl⟩) (show iv_mck 1 155 1 8 2 = true by decide +kernel) (show (0 : Nat) ≤ 8 by decide) (by omega) (iv_C_mono (iv_C_le (hor μ1 _ t1 [] 0 c 0 hT1 (rd_D_0 hF1 hD) (by omega) (by omega) (fun _ => rfl) (fun q => by cases q) (fun _ _ q => by cases q) rfl) (by omega)) (fun q μ2 hq => ?_))
    obtain ⟨hF2, h02, j, t2, hij, hT2, hq⟩ := hq
    have hF := rd_F_tr (rd_F_0 hF1) hF2
    rcases hq with ⟨rfl, c', S', hD2, hk2, hw, hx, hK⟩ | ⟨rfl, hQ⟩
    · refine sg_153_13 hL (by omega) (fun q => by cases q) (fun _ => ?_)
      refine iv_call (want := 1) (y := 153) (pc := 19) (z := 154) (cls := 8) (sa := [(0, ((18 : Nat) : Int))]) (th := [(10, 182)]) (r := []) (d' := d - 1) (show iv_cck 1 153 19 154 = true by decide +kernel) (Or.inl ⟨rfl, _, rfl⟩) (show iv_mck 1 154 1 8 2 = true by decide +kernel) (show (0 : Nat) ≤ 8 by decide) (by omega) (iv_C_mono (rd_pass hL hv (by omega) hT2 18) (fun q μ3 hq => ?_))
      rcases hq with ⟨h18, rfl, rfl⟩ | ⟨h18, rfl, hF3, t3, hT3⟩
      · exact sg_153_22 hL (by omega) (fun _ => fin0 j t2 _ hF h02 (by omega) hT2 (Or.inr ⟨htu, mc_K_end hK hT2.2.2.1 (mc_stuck hw hx (fun _ => rfl) (fun q => absurd q h18))⟩)) (fun q => absurd rfl q)
      · subst h18
        have ha2 := tk_adv hT2.2.1 hT2.2.2.1 (by omega)
        have hQ := mc_K_end hK hT2.2.2.1 (mc_semi hw)
        have hD3 := rd_D_0 hF3 hD2
        refine sg_153_22 hL (by omega) (fun q => by cases q) (fun _ => ?_)
        refine iv_call (want := 1) (y := 153) (pc := 36) (z := 163) (cls := 9) (sa := [(0, (cl : Int))]) (th := [(11, 184)]) (r := []) (d' := d - 1) (show iv_cck 1 153 36 163 = true by decide +kernel) (Or.inl ⟨rfl, _, rfl⟩) (show iv_mck 1 163 1 9 2 = true by decide +kernel) (show (0 : Nat) ≤ 8 by decide) (by omega) (iv_C_of (sg_163_0 hL (by omega) (fun q => by exfalso; omega) (fun _ q => by exfalso; omega) (fun _ _ => ?_)))
        exact sg_153_39 hL (by omega) (fun _ => ⟨rd_FG_tr (rd_FG_F (rd_F_tr hF (rd_F_0 hF3))) (fun p k _ _ _ e => iv_upd_ne _ _ e), (by rw [iv_upd_ne _ _ (Or.inl (by decide))]; exact rd_D_0le hD3), _, t3, by omega, rd_T_E _ _ hT3, Or.inr ⟨rfl, htu, c', j, hQ, rfl, rd_D_E _ _ hD3, by omega, by rw [show (184 : Int) + 2 = 186 from rfl, iv_upd_same]; exact hD3.1⟩⟩) (fun h => h ⟨by omega, by omega⟩)
    · exact sg_153_13 hL (by omega) (fun _ => fin0 j t2 μ2 hF h02 (by omega) hT2 (Or.inr ⟨htu, hQ⟩)) (fun q => absurd rfl q)
/-- the text's code in the draft -/
def rd_Z (μ : iv_M) (cs : List (List Int)) : Prop := ∃ c0 c1 c2, cs = [c0, c1, c2] ∧ rd_D μ (c0 ++ (c1 ++ c2)) ∧ μ 186 0 = (c0.length : Int) ∧ μ 186 1 = ((c0.length + c1.length : Nat) : Int) ∧ μ 186 2 = ((c0.length + c1.length + c2.length : Nat) : Int) ∧ μ 184 0 = 1
def rd_W (b : Nat → Int) (n : Nat) (μ : iv_M) (q : Option iv_Z) (μ' : iv_M) : Prop := (∀ p k : Int, p ≠ 182 → p ≠ 184 → p ≠ 185 → p ≠ 186 → μ' p k = μ p k) ∧ (∀ k : Int, k < 1 → μ' 182 k = μ 182 k) ∧ μ' 182 1 = 0 ∧ ∃ z, tx_Q b n 3 0 z ∧ ((∃ s, z = .inl s ∧ q = some (0, (s : Int))) ∨ (∃ cs, z = .inr cs ∧ q = some (0, -1) ∧ rd_Z μ' cs))
theorem rd_Z_E {μ : iv_M} {cs : List (List Int)} (k v : Int) (h : rd_Z μ cs) : rd_Z (iv_upd μ 182 k v) cs := by
  obtain ⟨c0, c1, c2, e, ⟨d1, d2, d3⟩, e0, e1, e2, e3⟩ := h
  have f : ∀ p j, p ≠ 182 → iv_upd μ 182 k v p j = μ p j := fun p j hp => iv_upd_ne _ _ (Or.inl hp)
  exact ⟨c0, c1, c2, e, ⟨(f _ _ (by decide)).trans d1, d2, fun j hj => (f _ _ (by decide)).trans (d3 j hj)⟩, (f _ _ (by decide)).trans e0, (f _ _ (by decide)).trans e1, (f _ _ (by decide)).trans e2, (f _ _ (by decide)).trans e3⟩
theorem rd_read {d : Nat} {μ : iv_M} (hL : L ≤ 3072) (hv : vz.category = 1) (hd : 140 ≤ d) (hB : rd_B b n μ) : iv_C L xs vz d 131 [(10, 182)] μ (rd_W b n μ) := by
  -- the frame up to here
  let FR : iv_M → Prop := fun μ' => (∀ p k : Int, p ≠ 182 → p ≠ 184 → p ≠ 185 → p ≠ 186 → μ' p k = μ p k) ∧ (∀ k : Int, k < 1 → μ' 182 k = μ 182 k)
  have fr : ∀ {cl : Int} {μ1 μ2 : iv_M}, FR μ1 → rd_FG cl μ1 μ2 → FR μ2 := fun h h2 => ⟨fun p k a b' c e => (h2 p k (Or.inl a) (Or.inl b') c (Or.inl e)).trans (h.1 p k a b' c e), fun k hk => (h2 _ _ (Or.inr (by omega)) (Or.inl (by decide)) (by decide) (Or.inl (by decide))).trans (h.2 k hk)⟩
  have frE : ∀ {μ1 : iv_M} (v : Int), FR μ1 → FR (iv_upd μ1 182 1 v) := fun v h => ⟨fun p k a b' c e => (iv_upd_ne _ _ (Or.inl a)).trans (h.1 p k a b' c e), fun k hk => (iv_upd_ne _ _ (Or.inr (by omega))).trans (h.2 k hk)⟩
  -- a fault
  have bad : ∀ (μ' : iv_M) (j t' : Nat) (z : Nat ⊕ List (List Int)), FR μ' → rd_T b n μ' j t' → tx_Q b n 3 0 z → z = .inl (tk_s b n j) → rd_W b n μ (some (0, ((iv_upd μ' 182 1 0) 182 5))) (iv_upd μ' 182 1 0) := fun μ' j t' z hF hT hz e => ⟨(frE 0 hF).1, (frE 0 hF).2, iv_upd_same _ _ _ _, z, hz, Or.inl ⟨_, e, by rw [iv_upd_ne _ _ (Or.inr (by decide)), hT.2.2.2.2.2.1]⟩⟩
  refine iv_C_of (sg_131_0 hL (by omega) ?_)
  refine iv_call (want := 1) (y := 131) (pc := 9) (z := 132) (cls := 9) (sa := []) (th := [(11, 184)]) (r := []) (d' := d - 1) (show iv_cck 1 131 9 132 = true by decide +kernel) (Or.inl ⟨rfl, _, rfl⟩) (show iv_mck 1 132 0 9 1 = true by decide +kernel) (show (0 : Nat) ≤ 8 by decide) (by omega) (iv_C_of (sg_132_0 hL (by omega) ?_))
  generalize hμ1 : iv_upd (iv_upd (iv_upd μ 182 3 0) 184 0 1) 184 3 0 = μ1
  have hB1 : rd_B b n μ1 := by
    subst hμ1
    refine ⟨?_, hB.2.1, fun k hk => ?_⟩
    · rw [iv_upd_ne _ _ (Or.inl (by decide)), iv_upd_ne _ _ (Or.inl (by decide)), iv_upd_ne _ _ (Or.inr (by decide))]
      exact hB.1
    · rw [iv_upd_ne _ _ (Or.inl (by decide)), iv_upd_ne _ _ (Or.inl (by decide)), iv_upd_ne _ _ (Or.inl (by decide))]
      exact hB.2.2 k hk
  have h31 : μ1 182 3 = ((0 : Nat) : Int) := by
    subst hμ1
    rw [iv_upd_ne _ _ (Or.inl (by decide)), iv_upd_ne _ _ (Or.inl (by decide)), iv_upd_same]
    rfl
  have hD1 : rd_D μ1 [] := by
    subst hμ1
    exact ⟨iv_upd_same _ _ _ _, by decide, fun k hk => absurd hk (Nat.not_lt_zero k)⟩
  have htold : μ1 184 0 = 1 := by
    subst hμ1
    rw [iv_upd_ne _ _ (Or.inr (by decide)), iv_upd_same]
  have hF1 : FR μ1 := by
    subst hμ1
    refine ⟨fun p k a b' c e => ?_, fun k hk => ?_⟩
    · rw [iv_upd_ne _ _ (Or.inl b'), iv_upd_ne _ _ (Or.inl b'), iv_upd_ne _ _ (Or.inl a)]
    · rw [iv_upd_ne _ _ (Or.inl (by decide)), iv_upd_ne _ _ (Or.inl (by decide)), iv_upd_ne _ _ (Or.inr (by omega))]
  refine sg_131_12 hL (by omega) ?_
  refine iv_call (want := 1) (y := 131) (pc := 13) (z := 133) (cls := 8) (sa := []) (th := [(10, 182)]) (r := []) (d' := d - 1) (show iv_cck 1 131 13 133 = true by decide +kernel) (Or.inl ⟨rfl, _, rfl⟩) (show iv_mck 1 133 0 8 1 = true by decide +kernel) (show (0 : Nat) ≤ 8 by decide) (by omega) (iv_C_mono (rd_next hL hv (by omega) hB1 (Nat.zero_le n) h31) (fun q μ2 hq => ?_))
  obtain ⟨rfl, hF2, t0, hT2⟩ := hq
  have hFR2 : FR μ2 := fr (cl := 0) hF1 (rd_FG_F (rd_F_0 hF2))
  have ht2 : μ2 184 0 = 1 := (hF2 _ _ (Or.inl (by decide))).trans htold
  refine sg_131_16 hL (by omega) ?_
  refine iv_call (want := 1) (y := 131) (pc := 20) (z := 153) (cls := 8) (sa := [(0, ((0 : Nat) : Int)), (0, ((9 : Nat) : Int))]) (th := [(10, 182)]) (r := []) (d' := d - 1) (show iv_cck 1 131 20 153 = true by decide +kernel) (Or.inl ⟨rfl, _, rfl⟩) (show iv_mck 1 153 2 8 3 = true by decide +kernel) (show (0 : Nat) ≤ 8 by decide) (by omega) (iv_C_mono (rd_cla hL hv (by omega) hT2 (rd_D_0 hF2 hD1) (Nat.zero_le _) (u := 9) (cl := 0) (by decide) (by decide)) (fun q μ3 hq => ?_))
  obtain ⟨hG3, h03, j, t3, hij, hT3, hq⟩ := hq
  have hFR3 := fr hFR2 hG3
  rcases hq with ⟨rfl, hq⟩ | ⟨rfl, ht9, c0, j0, hQ0, rfl, hD3, hc3, he3⟩
  · refine sg_131_23 hL (by omega) (fun _ => bad μ3 j t3 _ hFR3 hT3 ?_ rfl) (fun q => absurd rfl q)
    refine ⟨t0, hT2.2.2.1, ?_⟩
    rcases hq with ⟨a, rfl⟩ | ⟨a, c⟩
    · exact Or.inl ⟨by show t0 + 2 ≠ 11; omega, rfl⟩
    · exact Or.inr ⟨by show t0 + 2 = 11; omega, Or.inl ⟨j, c, rfl⟩⟩
  refine sg_131_23 hL (by omega) (fun q => by cases q) (fun _ => ?_)
  have tx0 : ∀ z', tx_Q b n 2 (tk_e b n j0) z' → tx_Q b n 3 0 (z'.map id (c0 :: ·)) := fun z' hz => ⟨t0, hT2.2.2.1, Or.inr ⟨by show t0 + 2 = 11; omega, Or.inr ⟨c0, j0, z', hQ0, hz, rfl⟩⟩⟩
  have ht3 : μ3 184 0 = 1 := (hG3 _ _ (Or.inl (by decide)) (Or.inr (by decide)) (by decide) (Or.inl (by decide))).trans ht2
  refine iv_call (want := 1) (y := 131) (pc := 30) (z := 153) (cls := 8) (sa := [(0, ((1 : Nat) : Int)), (0, ((10 : Nat) : Int))]) (th := [(10, 182)]) (r := []) (d' := d - 1) (show iv_cck 1 131 30 153 = true by decide +kernel) (Or.inl ⟨rfl, _, rfl⟩) (show iv_mck 1 153 2 8 3 = true by decide +kernel) (show (0 : Nat) ≤ 8 by decide) (by omega) (iv_C_mono (rd_cla hL hv (by omega) hT3 hD3 hc3 (u := 10) (cl := 1) (by decide) (by decide)) (fun q μ4 hq => ?_))
  obtain ⟨hG4, h04, j, t4, hij4, hT4, hq⟩ := hq
  have hFR4 := fr hFR3 hG4
  rcases hq with ⟨rfl, hq⟩ | ⟨rfl, ht10, c1', j1, hQ1, rfl, hD4, hc4, he4⟩
  · refine sg_131_33 hL (by omega) (fun _ => bad μ4 j t4 _ hFR4 hT4 (tx0 (.inl (tk_s b n j)) ⟨t3, hT3.2.2.1, ?_⟩) rfl) (fun q => absurd rfl q)
    rcases hq with ⟨a, rfl⟩ | ⟨a, c⟩
    · exact Or.inl ⟨by show t3 + 1 ≠ 11; omega, rfl⟩
    · obtain ⟨r', e, c⟩ := mc_Q_un c
      cases r' with
      | none => exact Or.inr ⟨by show t3 + 1 = 11; omega, Or.inl ⟨j, c, rfl⟩⟩
      | some x => cases e
  refine sg_131_33 hL (by omega) (fun q => by cases q) (fun _ => ?_)
  obtain ⟨r1, er1, hR1⟩ := mc_Q_un hQ1
  cases r1 with
  | none => cases er1
  | some c1 =>
  have er1 : c1' = c0 ++ c1 := Option.some.inj er1
  subst er1
  have tx1 : ∀ z', tx_Q b n 1 (tk_e b n j1) z' → tx_Q b n 3 0 ((z'.map id (c1 :: ·)).map id (c0 :: ·)) := fun z' hz => tx0 _ ⟨t3, hT3.2.2.1, Or.inr ⟨by show t3 + 1 = 11; omega, Or.inr ⟨c1, j1, z', hR1, hz, rfl⟩⟩⟩
  have ht4 : μ4 184 0 = 1 := (hG4 _ _ (Or.inl (by decide)) (Or.inr (by decide)) (by decide) (Or.inl (by decide))).trans ht3
  have he3' : μ4 186 0 = (c0.length : Int) := (hG4 _ _ (Or.inl (by decide)) (Or.inl (by decide)) (by decide) (Or.inr (by decide))).trans he3
  refine iv_call (want := 1) (y := 131) (pc := 40) (z := 153) (cls := 8) (sa := [(0, ((2 : Nat) : Int)), (0, ((11 : Nat) : Int))]) (th := [(10, 182)]) (r := []) (d' := d - 1) (show iv_cck 1 131 40 153 = true by decide +kernel) (Or.inl ⟨rfl, _, rfl⟩) (show iv_mck 1 153 2 8 3 = true by decide +kernel) (show (0 : Nat) ≤ 8 by decide) (by omega) (iv_C_mono (rd_cla hL hv (by omega) hT4 hD4 hc4 (u := 11) (cl := 2) (by decide) (by decide)) (fun q μ5 hq => ?_))
  obtain ⟨hG5, h05, j, t5, hij5, hT5, hq⟩ := hq
  have hFR5 := fr hFR4 hG5
  rcases hq with ⟨rfl, hq⟩ | ⟨rfl, ht11, c2', j2, hQ2, rfl, hD5, hc5, he5⟩
  · refine sg_131_43 hL (by omega) (fun _ => bad μ5 j t5 _ hFR5 hT5 (tx1 (.inl (tk_s b n j)) ⟨t4, hT4.2.2.1, ?_⟩) rfl) (fun q => absurd rfl q) (fun q => absurd rfl q)
    rcases hq with ⟨a, rfl⟩ | ⟨a, c⟩
    · exact Or.inl ⟨by show t4 + 0 ≠ 11; omega, rfl⟩
    · obtain ⟨r', e, c⟩ := mc_Q_un c
      cases r' with
      | none => exact Or.inr ⟨by show t4 + 0 = 11; omega, Or.inl ⟨j, c, rfl⟩⟩
      | some x => cases e
  obtain ⟨r2, er2, hR2⟩ := mc_Q_un hQ2
  cases r2 with
  | none => cases er2
  | some c2 =>
  have er2 : c2' = (c0 ++ c1) ++ c2 := Option.some.inj er2
  subst er2
  have tx2 : ∀ z', tx_Q b n 0 (tk_e b n j2) z' → tx_Q b n 3 0 (((z'.map id (c2 :: ·)).map id (c1 :: ·)).map id (c0 :: ·)) := fun z' hz => tx1 _ ⟨t4, hT4.2.2.1, Or.inr ⟨by show t4 + 0 = 11; omega, Or.inr ⟨c2, j2, z', hR2, hz, rfl⟩⟩⟩
  have ht5 : μ5 184 0 = 1 := (hG5 _ _ (Or.inl (by decide)) (Or.inr (by decide)) (by decide) (Or.inl (by decide))).trans ht4
  have he3'' : μ5 186 0 = (c0.length : Int) := (hG5 _ _ (Or.inl (by decide)) (Or.inl (by decide)) (by decide) (Or.inr (by decide))).trans he3'
  have he4' : μ5 186 1 = ((c0 ++ c1).length : Int) := (hG5 _ _ (Or.inl (by decide)) (Or.inl (by decide)) (by decide) (Or.inr (by decide))).trans he4
  have e4 := hT5.2.2.2.2.1
  refine sg_131_43 hL (by omega) (fun q => by cases q) (fun _ q => ?_) (fun _ q => ?_)
  · exact bad μ5 _ t5 _ hFR5 hT5 (tx2 (.inl (tk_s b n _)) ⟨t5, hT5.2.2.1, Or.inr ⟨by omega, rfl⟩⟩) rfl
  · refine ⟨(frE 0 hFR5).1, (frE 0 hFR5).2, iv_upd_same _ _ _ _, _, tx2 (.inr []) ⟨t5, hT5.2.2.1, Or.inl ⟨by omega, rfl⟩⟩, Or.inr ⟨_, rfl, rfl, rd_Z_E _ _ ⟨c0, c1, c2, rfl, by rw [← List.append_assoc]; exact hD5, he3'', ?_, ?_, ht5⟩⟩⟩
    · rw [he4', List.length_append]
    · refine he5.trans ?_
      rw [List.length_append, List.length_append]
end RDX
