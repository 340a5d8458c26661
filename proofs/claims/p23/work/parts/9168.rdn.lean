/-! ===== the class's reader: the next token ===== -/
section RDN
variable {L : Nat} {xs : Nat → Int32} {vz : Value} {b : Nat → Int} {n : Nat}
theorem rd_nw {d : Nat} {μ0 μ : iv_M} (hL : L ≤ 3072) (hv : vz.category = 1) (hd : 60 ≤ d) (hB : rd_B b n μ0) {s : Nat} (hs : s ≤ n) {t0 v : Int} (hA : rd_A μ0 μ (s : Int) t0 (s : Int) v) : iv_C L xs vz d 136 [(10, 182)] μ (fun q μ' => q = none ∧ ∃ t : Nat, tk_wd b s (tk_rn n (fun k => tk_L (b k)) s - s) t ∧ rd_A μ0 μ' (tk_rn n (fun k => tk_L (b k)) s : Nat) (t : Int) (s : Int) v) := by
  have hbd := tk_rn_bd (n := n) (p := fun k => tk_L (b k)) _ s rfl
  generalize he : tk_rn n (fun k => tk_L (b k)) s = e at hbd ⊢
  have hen := hbd.2.1 hs
  have hse := hbd.1
  have hn := hB.2.1
  -- the words, one by one
  have lp2 : ∀ (m w : Nat) (μ : iv_M) (t : Nat), 15 ≤ w + m → w ≤ 15 → ((t < w ∧ tk_is b s (e - s) t) ∨ (t = 24 ∧ ∀ x, x < w → ¬ tk_is b s (e - s) x)) → rd_A μ0 μ (e : Int) (t : Int) (s : Int) v → iv_G L xs vz d 136 46 [some (10, 182), some (0, (w : Int))] [] μ (fun q μ' => q = none ∧ ∃ t : Nat, tk_wd b s (e - s) t ∧ rd_A μ0 μ' (e : Int) (t : Int) (s : Int) v) := by
    intro m
    have fin : ∀ (w : Nat) (μ : iv_M) (t : Nat), (w : Int) ≥ 15 → w ≤ 15 → ((t < w ∧ tk_is b s (e - s) t) ∨ (t = 24 ∧ ∀ x, x < w → ¬ tk_is b s (e - s) x)) → rd_A μ0 μ (e : Int) (t : Int) (s : Int) v → (none : Option iv_Z) = none ∧ ∃ t : Nat, tk_wd b s (e - s) t ∧ rd_A μ0 μ (e : Int) (t : Int) (s : Int) v := fun w μ t q q2 h hA => by
      refine ⟨rfl, t, ?_, hA⟩
      rcases h with ⟨a, c⟩ | ⟨a, c⟩
      · exact Or.inl ⟨by omega, c⟩
      · refine Or.inr ⟨a, fun x hx => ?_⟩
        rcases Nat.lt_or_ge x 15 with g | g
        · exact c x (by omega) hx
        · obtain ⟨u, g1, -⟩ := hx
          have : x < 15 := (List.getElem?_eq_some_iff.mp g1).1
          omega
    induction m with
    | zero =>
      intro w μ t h1 h2 h3 hA
      refine sg_136_46 hL (by omega) (by omega) (fun q => fin w μ t q h2 h3 hA) ?_ ?_ ?_ ?_ ?_ ?_ ?_ ?_ ?_ ?_ ?_ ?_ ?_ ?_ ?_ ?_
      all_goals (intros; exfalso; omega)
    | succ m ih =>
      intro w μ t h1 h2 h3 hA
      have hB1 := rd_F0_B hA.1 hB
      have go : w < 15 → iv_G L xs vz d 136 57 [some (10, 182), some (0, (w : Int))] [(17, (w : Int) + 5), (10, 182)] μ (fun q μ' => q = none ∧ ∃ t : Nat, tk_wd b s (e - s) t ∧ rd_A μ0 μ' (e : Int) (t : Int) (s : Int) v) := fun hw => by
        refine iv_call (want := 1) (y := 136) (pc := 57) (z := 138) (cls := 8) (sa := [(17, (w : Int) + 5)]) (th := [(10, 182)]) (r := []) (d' := d - 1) (show iv_cck 1 136 57 138 = true by decide +kernel) (Or.inl ⟨rfl, _, rfl⟩) (show iv_mck 1 138 1 8 2 = true by decide +kernel) (show (0 : Nat) ≤ 8 by decide) (by omega) (iv_C_mono (rd_std hL hv (by omega) hB1 hw hse hen hA.2.1 hA.2.2.2.1) (fun q μ' hq => ?_))
        have ew : iv_w ((w : Int) + 1) = ((w + 1 : Nat) : Int) := by rw [iv_w_id (by omega) (by omega)]; omega
        rcases hq with ⟨rfl, ⟨rfl, hi⟩ | ⟨rfl, hi⟩⟩
        · refine sg_136_60 hL (by omega) (fun q => by cases q) (fun _ => ?_)
          rw [ew]
          exact ih (w + 1) _ w (by omega) (by omega) (Or.inl ⟨by omega, hi⟩) (rd_A4 hA _)
        · refine sg_136_60 hL (by omega) (fun _ => ?_) (fun q => absurd rfl q)
          rw [ew]
          refine ih (w + 1) _ t (by omega) (by omega) ?_ hA
          rcases h3 with ⟨a, c⟩ | ⟨a, c⟩
          · exact Or.inl ⟨by omega, c⟩
          · refine Or.inr ⟨a, fun x hx hx2 => ?_⟩
            by_cases ex : x = w
            · rw [ex] at hx2; exact hi hx2
            · exact c x (by omega) hx2
      refine sg_136_46 hL (by omega) (by omega) (fun q => fin w μ t q h2 h3 hA) (fun _ q => by (have ew : w = 0 := by omega); subst ew; exact go (by omega)) (fun _ q => by (have ew : w = 1 := by omega); subst ew; exact go (by omega)) (fun _ q => by (have ew : w = 2 := by omega); subst ew; exact go (by omega)) (fun _ q => by (have ew : w = 3 := by omega); subst ew; exact go (by omega)) (fun _ q => by (have ew : w = 4 := by omega); subst ew; exact go (by omega)) (fun _ q => by (have ew : w = 5 := by omega); subst ew; exact go (by omega)) (fun _ q => by (have ew : w = 6 := by omega); subst ew; exact go (by omega)) (fun _ q => by (have ew : w = 7 := by omega); subst ew; exact go (by omega)) (fun _ q => by (have ew : w = 8 := by omega); subst ew; exact go (by omega)) (fun _ q => by (have ew : w = 9 := by omega); subst ew; exact go (by omega)) (fun _ q => by (have ew : w = 10 := by omega); subst ew; exact go (by omega)) (fun _ q => by (have ew : w = 11 := by omega); subst ew; exact go (by omega)) (fun _ q => by (have ew : w = 12 := by omega); subst ew; exact go (by omega)) (fun _ q => by (have ew : w = 13 := by omega); subst ew; exact go (by omega)) (fun _ q => by (have ew : w = 14 := by omega); subst ew; exact go (by omega)) ?_
      intros
      exfalso
      omega
  have lp1 : ∀ (m j : Nat) (μ : iv_M), n ≤ j + m → j ≤ n → tk_rn n (fun k => tk_L (b k)) j = e → rd_A μ0 μ (j : Int) t0 (s : Int) v → iv_G L xs vz d 136 0 [some (10, 182)] [] μ (fun q μ' => q = none ∧ ∃ t : Nat, tk_wd b s (e - s) t ∧ rd_A μ0 μ' (e : Int) (t : Int) (s : Int) v) := by
    have out : ∀ (j : Nat) (μ : iv_M), (j < n → tk_L (b j) = false) → tk_rn n (fun k => tk_L (b k)) j = e → rd_A μ0 μ (j : Int) t0 (s : Int) v → iv_G L xs vz d 136 46 [some (10, 182), some (0, 0)] [] (iv_upd μ 182 4 24) (fun q μ' => q = none ∧ ∃ t : Nat, tk_wd b s (e - s) t ∧ rd_A μ0 μ' (e : Int) (t : Int) (s : Int) v) := fun j μ h1 h2 hA => by
      rw [tk_rn_f h1] at h2
      subst h2
      exact lp2 15 0 _ 24 (by omega) (by omega) (Or.inr ⟨rfl, fun x hx => absurd hx (Nat.not_lt_zero x)⟩) (rd_A4 hA 24)
    intro m
    induction m with
    | zero =>
      intro j μ h1 h2 h3 hA
      have hB1 := rd_F0_B hA.1 hB
      have e1 := hB1.1
      have e3 := hA.2.1
      exact sg_136_0 hL (by omega) (by omega) (by omega) (fun _ => out j μ (fun q => by omega) h3 hA) (fun q => by exfalso; omega)
    | succ m ih =>
      intro j μ h1 h2 h3 hA
      have hB1 := rd_F0_B hA.1 hB
      have e1 := hB1.1
      have e3 := hA.2.1
      refine sg_136_0 hL (by omega) (by omega) (by omega) (fun q => out j μ (fun q => by omega) h3 hA) (fun q => ?_)
      have hj : j < n := by omega
      rw [e3]
      refine iv_call (want := 1) (y := 136) (pc := 16) (z := 134) (cls := 8) (sa := [(0, (j : Int))]) (th := [(10, 182)]) (r := []) (d' := d - 1) (show iv_cck 1 136 16 134 = true by decide +kernel) (Or.inl ⟨rfl, _, rfl⟩) (show iv_mck 1 134 1 8 2 = true by decide +kernel) (show (0 : Nat) ≤ 8 by decide) (by omega) (iv_C_mono (rd_byte hL (by omega) hB1 j) (fun q μ' hq => ?_))
      obtain ⟨rfl, rfl⟩ := hq
      rw [if_pos hj]
      refine iv_call (want := 0) (y := 136) (pc := 19) (z := 135) (cls := 0) (sa := [(0, b j)]) (th := []) (r := []) (d' := d - 1) (show iv_cck 0 136 19 135 = true by decide +kernel) (Or.inr ⟨rfl, rfl⟩) (show iv_mck 0 135 1 0 1 = true by decide +kernel) (show (0 : Nat) ≤ 8 by decide) (by omega) (iv_C_mono (rd_let hL (by omega) (b j)) (fun q μ2 hq => ?_))
      obtain ⟨rfl, rfl⟩ := hq
      cases hl : tk_L (b j) with
      | false =>
        refine sg_136_22 hL (by omega) (fun _ => out j _ (fun _ => hl) h3 hA) (fun q => ?_)
        exact absurd rfl q
      | true =>
        refine sg_136_22 hL (by omega) (fun q => by cases q) (fun _ => ?_)
        refine iv_wkn (ls := [some (10, 182)]) ?_ [none]
        rw [e3, show iv_w ((j : Int) + 1) = ((j + 1 : Nat) : Int) by rw [iv_w_id (by omega) (by omega)]; omega]
        refine ih (j + 1) _ (by omega) (by omega) ?_ (rd_A3 hA _)
        rw [← tk_rn_t (p := fun k => tk_L (b k)) hj hl]
        exact h3
  exact iv_C_of (lp1 n s μ (by omega) hs he hA)
theorem rd_nn {d : Nat} {μ0 μ : iv_M} (hL : L ≤ 3072) (hd : 40 ≤ d) (hB : rd_B b n μ0) {s : Nat} (hs : s ≤ n) {t0 v0 : Int} (hA : rd_A μ0 μ (s : Int) t0 (s : Int) v0) : iv_C L xs vz d 151 [(10, 182)] μ (fun q μ' => q = none ∧ rd_A μ0 μ' (tk_rn n (fun k => tk_D (b k)) s : Nat) (((if tk_rn n (fun k => tk_D (b k)) s - s ≤ 4 then 15 else 24 : Nat)) : Int) (s : Int) (tk_nv b s (tk_rn n (fun k => tk_D (b k)) s - s))) := by
  have hbd := tk_rn_bd (n := n) (p := fun k => tk_D (b k)) _ s rfl
  generalize he : tk_rn n (fun k => tk_D (b k)) s = e at hbd ⊢
  have hen := hbd.2.1 hs
  have hse := hbd.1
  have hn := hB.2.1
  have lp : ∀ (m j : Nat) (μ : iv_M), n ≤ j + m → s ≤ j → j ≤ n → tk_rn n (fun k => tk_D (b k)) j = e → rd_A μ0 μ (j : Int) t0 (s : Int) (tk_nv b s (j - s)) → iv_G L xs vz d 151 5 [some (10, 182)] [] μ (fun q μ' => q = none ∧ rd_A μ0 μ' (e : Int) (((if e - s ≤ 4 then 15 else 24 : Nat)) : Int) (s : Int) (tk_nv b s (e - s))) := by
    have o1 : ∀ (j : Nat) (μ : iv_M), s ≤ j → j ≤ n → (j < n → tk_D (b j) = false) → tk_rn n (fun k => tk_D (b k)) j = e → rd_A μ0 μ (j : Int) t0 (s : Int) (tk_nv b s (j - s)) → iv_w ((μ 182 3) - (μ 182 5)) > 4 → (none : Option iv_Z) = none ∧ rd_A μ0 (iv_upd μ 182 4 24) (e : Int) (((if e - s ≤ 4 then 15 else 24 : Nat)) : Int) (s : Int) (tk_nv b s (e - s)) := fun j μ h0 h0b h1 h2 hA h3 => by
      rw [tk_rn_f h1] at h2
      subst h2
      rw [hA.2.1, hA.2.2.2.1, iv_w_id (by omega) (by omega)] at h3
      rw [if_neg (by omega)]
      exact ⟨rfl, rd_A4 hA _⟩
    have o2 : ∀ (j : Nat) (μ : iv_M), s ≤ j → j ≤ n → (j < n → tk_D (b j) = false) → tk_rn n (fun k => tk_D (b k)) j = e → rd_A μ0 μ (j : Int) t0 (s : Int) (tk_nv b s (j - s)) → iv_w ((μ 182 3) - (μ 182 5)) ≤ 4 → (none : Option iv_Z) = none ∧ rd_A μ0 (iv_upd μ 182 4 15) (e : Int) (((if e - s ≤ 4 then 15 else 24 : Nat)) : Int) (s : Int) (tk_nv b s (e - s)) := fun j μ h0 h0b h1 h2 hA h3 => by
      rw [tk_rn_f h1] at h2
      subst h2
      rw [hA.2.1, hA.2.2.2.1, iv_w_id (by omega) (by omega)] at h3
      rw [if_pos (by omega)]
      exact ⟨rfl, rd_A4 hA _⟩
    intro m
    induction m with
    | zero =>
      intro j μ h1 h1b h2 h3 hA
      have hB1 := rd_F0_B hA.1 hB
      have e1 := hB1.1
      have e3 := hA.2.1
      exact sg_151_5 hL (by omega) (by omega) (by omega) (fun _ q => o1 j μ h1b h2 (fun q => by omega) h3 hA q) (fun _ q => o2 j μ h1b h2 (fun q => by omega) h3 hA q) (fun q => by exfalso; omega)
    | succ m ih =>
      intro j μ h1 h1b h2 h3 hA
      have hB1 := rd_F0_B hA.1 hB
      have e1 := hB1.1
      have e3 := hA.2.1
      refine sg_151_5 hL (by omega) (by omega) (by omega) (fun _ q => o1 j μ h1b h2 (fun q => by omega) h3 hA q) (fun _ q => o2 j μ h1b h2 (fun q => by omega) h3 hA q) (fun q => ?_)
      have hj : j < n := by omega
      rw [e3]
      refine iv_call (want := 1) (y := 151) (pc := 21) (z := 134) (cls := 8) (sa := [(0, (j : Int))]) (th := [(10, 182)]) (r := []) (d' := d - 1) (show iv_cck 1 151 21 134 = true by decide +kernel) (Or.inl ⟨rfl, _, rfl⟩) (show iv_mck 1 134 1 8 2 = true by decide +kernel) (show (0 : Nat) ≤ 8 by decide) (by omega) (iv_C_mono (rd_byte hL (by omega) hB1 j) (fun q μ' hq => ?_))
      obtain ⟨rfl, rfl⟩ := hq
      rw [if_pos hj]
      refine iv_call (want := 0) (y := 151) (pc := 24) (z := 150) (cls := 0) (sa := [(0, b j)]) (th := []) (r := []) (d' := d - 1) (show iv_cck 0 151 24 150 = true by decide +kernel) (Or.inr ⟨rfl, rfl⟩) (show iv_mck 0 150 1 0 1 = true by decide +kernel) (show (0 : Nat) ≤ 8 by decide) (by omega) (iv_C_mono (rd_dig hL (by omega) (b j)) (fun q μ2 hq => ?_))
      obtain ⟨rfl, rfl⟩ := hq
      cases hl : tk_D (b j) with
      | false =>
        exact sg_151_27 hL (by omega) (fun _ q => o1 j _ h1b h2 (fun _ => hl) h3 hA q) (fun _ q => o2 j _ h1b h2 (fun _ => hl) h3 hA q) (fun q => absurd rfl q)
      | true =>
        refine sg_151_27 hL (by omega) (fun q => by cases q) (fun q => by cases q) (fun _ => ?_)
        rw [e3]
        refine iv_call (want := 1) (y := 151) (pc := 43) (z := 134) (cls := 8) (sa := [(0, (j : Int))]) (th := [(10, 182)]) (r := [(0, _), (10, 182)]) (d' := d - 1) (show iv_cck 1 151 43 134 = true by decide +kernel) (Or.inl ⟨rfl, _, rfl⟩) (show iv_mck 1 134 1 8 2 = true by decide +kernel) (show (2 : Nat) ≤ 8 by decide) (by omega) (iv_C_mono (rd_byte hL (by omega) hB1 j) (fun q μ3 hq => ?_))
        obtain ⟨rfl, rfl⟩ := hq
        rw [if_pos hj]
        refine sg_151_46 hL (by omega) ?_
        have hA2 := rd_A6 hA (iv_w (iv_w (iv_w ((μ3 182 6) * 10) + b j) - 48))
        rw [hA2.2.1, show iv_w ((j : Int) + 1) = ((j + 1 : Nat) : Int) by rw [iv_w_id (by omega) (by omega)]; omega]
        refine ih (j + 1) _ (by omega) (by omega) (by omega) (by rw [← tk_rn_t (p := fun k => tk_D (b k)) hj hl]; exact h3) ?_
        have hA3 := rd_A3 hA2 ((j + 1 : Nat) : Int)
        rw [show j + 1 - s = (j - s) + 1 by omega]
        unfold tk_nv
        rw [show s + (j - s) = j by omega, ← hA.2.2.2.2]
        exact hA3
  refine iv_C_of (sg_151_0 hL (by omega) ?_)
  refine lp n s _ (by omega) (Nat.le_refl _) hs he ?_
  rw [Nat.sub_self]
  exact rd_A6 hA 0
/-- the token at hand, read on from i -/
def rd_T (b : Nat → Int) (n : Nat) (μ : iv_M) (i t : Nat) : Prop := rd_B b n μ ∧ i ≤ n ∧ tk_t b n i t ∧ μ 182 3 = (tk_e b n i : Int) ∧ μ 182 4 = (t : Int) ∧ μ 182 5 = (tk_s b n i : Int) ∧ (t = 15 → μ 182 6 = tk_v b n i)
theorem rd_next {d : Nat} {μ : iv_M} (hL : L ≤ 3072) (hv : vz.category = 1) (hd : 62 ≤ d) (hB : rd_B b n μ) {i : Nat} (hi : i ≤ n) (h3 : μ 182 3 = (i : Int)) : iv_C L xs vz d 133 [(10, 182)] μ (fun q μ' => q = none ∧ rd_F0 μ μ' ∧ ∃ t : Nat, rd_T b n μ' i t) := by
  have hn := hB.2.1
  have hbd := tk_rn_bd (n := n) (p := fun k => decide (b k = 32)) _ i rfl
  have hsn : tk_s b n i ≤ n := hbd.2.1 hi
  have hX : ∀ (μ' : iv_M) (a t v : Int) (T : Nat), rd_A μ μ' a t (tk_s b n i : Int) v → a = (tk_e b n i : Int) → t = (T : Int) → tk_t b n i T → (T = 15 → v = tk_v b n i) → (none : Option iv_Z) = none ∧ rd_F0 μ μ' ∧ ∃ t : Nat, rd_T b n μ' i t := fun μ' a t v T hA ha ht hT hv => ⟨rfl, hA.1, T, rd_F0_B hA.1 hB, hi, hT, hA.2.1.trans ha, hA.2.2.1.trans ht, hA.2.2.2.1, fun q => hA.2.2.2.2.trans (hv q)⟩
  -- behind the blanks
  have go : ∀ (μ1 : iv_M) (t v : Int), rd_A μ μ1 (tk_s b n i : Int) t (tk_s b n i : Int) v → iv_G L xs vz d 133 50 [some (10, 182), none] [(0, (tk_s b n i : Int)), (10, 182)] μ1 (fun q μ' => q = none ∧ rd_F0 μ μ' ∧ ∃ t : Nat, rd_T b n μ' i t) := fun μ1 t v hA => by
    have hB1 := rd_F0_B hA.1 hB
    have e1 := hB1.1
    have e3 := hA.2.1
    refine iv_call (want := 1) (y := 133) (pc := 50) (z := 134) (cls := 8) (sa := [(0, (tk_s b n i : Int))]) (th := [(10, 182)]) (r := []) (d' := d - 1) (show iv_cck 1 133 50 134 = true by decide +kernel) (Or.inl ⟨rfl, _, rfl⟩) (show iv_mck 1 134 1 8 2 = true by decide +kernel) (show (0 : Nat) ≤ 8 by decide) (by omega) (iv_C_mono (rd_byte hL (by omega) hB1 (tk_s b n i)) (fun q μ' hq => ?_))
    obtain ⟨rfl, rfl⟩ := hq
    refine sg_133_53 hL (by omega) (by omega) (by omega) (fun q => ?_) (fun q => ?_)
    · have hlt : tk_s b n i < n := by omega
      rw [if_pos hlt]
      refine iv_call (want := 0) (y := 133) (pc := 75) (z := 135) (cls := 0) (sa := [(0, b (tk_s b n i))]) (th := []) (r := []) (d' := d - 1) (show iv_cck 0 133 75 135 = true by decide +kernel) (Or.inr ⟨rfl, rfl⟩) (show iv_mck 0 135 1 0 1 = true by decide +kernel) (show (0 : Nat) ≤ 8 by decide) (by omega) (iv_C_mono (rd_let hL (by omega) _) (fun q μ2 hq => ?_))
      obtain ⟨rfl, rfl⟩ := hq
      cases hl : tk_L (b (tk_s b n i)) with
      | true =>
        refine sg_133_78 hL (by omega) (fun q => by cases q) (fun _ => ?_)
        refine iv_call (want := 1) (y := 133) (pc := 82) (z := 136) (cls := 8) (sa := []) (th := [(10, 182)]) (r := []) (d' := d - 1) (show iv_cck 1 133 82 136 = true by decide +kernel) (Or.inl ⟨rfl, _, rfl⟩) (show iv_mck 1 136 0 8 1 = true by decide +kernel) (show (0 : Nat) ≤ 8 by decide) (by omega) (iv_C_mono (rd_nw hL hv (by omega) hB hsn hA) (fun q μ3 hq => ?_))
        obtain ⟨rfl, T, hT, hA3⟩ := hq
        refine sg_133_85 hL (by omega) (hX μ3 _ _ _ T hA3 ?_ rfl ?_ ?_)
        · unfold tk_e
          rw [if_neg (by omega), if_pos hl]
        · unfold tk_t tk_e
          rw [if_neg (by omega), if_pos hl, if_neg (by omega), if_pos hl]
          exact hT
        · intro h15
          rcases hT with ⟨a, -⟩ | ⟨a, -⟩ <;> omega
      | false =>
        refine sg_133_78 hL (by omega) (fun _ => ?_) (fun q => absurd rfl q)
        refine iv_call (want := 0) (y := 133) (pc := 89) (z := 150) (cls := 0) (sa := [(0, b (tk_s b n i))]) (th := []) (r := []) (d' := d - 1) (show iv_cck 0 133 89 150 = true by decide +kernel) (Or.inr ⟨rfl, rfl⟩) (show iv_mck 0 150 1 0 1 = true by decide +kernel) (show (0 : Nat) ≤ 8 by decide) (by omega) (iv_C_mono (rd_dig hL (by omega) _) (fun q μ3 hq => ?_))
        obtain ⟨rfl, rfl⟩ := hq
        cases hg : tk_D (b (tk_s b n i)) with
        | true =>
          refine sg_133_92 hL (by omega) (fun q => by cases q) (fun _ => ?_)
          refine iv_call (want := 1) (y := 133) (pc := 96) (z := 151) (cls := 8) (sa := []) (th := [(10, 182)]) (r := []) (d' := d - 1) (show iv_cck 1 133 96 151 = true by decide +kernel) (Or.inl ⟨rfl, _, rfl⟩) (show iv_mck 1 151 0 8 1 = true by decide +kernel) (show (0 : Nat) ≤ 8 by decide) (by omega) (iv_C_mono (rd_nn hL (by omega) hB hsn hA) (fun q μ4 hq => ?_))
          obtain ⟨rfl, hA4⟩ := hq
          have ee : tk_e b n i = tk_rn n (fun k => tk_D (b k)) (tk_s b n i) := by
            unfold tk_e
            rw [if_neg (by omega), if_neg (by rw [hl]; decide), if_pos hg]
          refine sg_133_99 hL (by omega) (hX μ4 _ _ _ _ hA4 (by rw [ee]) rfl ?_ ?_)
          · unfold tk_t
            rw [if_neg (by omega), if_neg (by rw [hl]; decide), if_pos hg, ee]
          · intro _
            unfold tk_v
            rw [ee]
        | false =>
          refine sg_133_92 hL (by omega) (fun _ => ?_) (fun q => absurd rfl q)
          refine iv_call (want := 0) (y := 133) (pc := 104) (z := 152) (cls := 0) (sa := [(0, b (tk_s b n i))]) (th := []) (r := [(10, 182)]) (d' := d - 1) (show iv_cck 0 133 104 152 = true by decide +kernel) (Or.inr ⟨rfl, rfl⟩) (show iv_mck 0 152 1 0 1 = true by decide +kernel) (show (1 : Nat) ≤ 8 by decide) (by omega) (iv_C_mono (rd_sig hL (by omega) _) (fun q μ4 hq => ?_))
          obtain ⟨rfl, rfl⟩ := hq
          refine sg_133_107 hL (by omega) ?_
          have hA4 := rd_A4 hA (tk_sg (b (tk_s b n i)) : Int)
          refine hX _ _ _ _ _ (rd_A3 hA4 _) ?_ rfl ?_ ?_
          · rw [hA4.2.1, iv_w_id (by omega) (by omega)]
            unfold tk_e
            rw [if_neg (by omega), if_neg (by rw [hl]; decide), if_neg (by rw [hg]; decide)]
            omega
          · unfold tk_t
            rw [if_neg (by omega), if_neg (by rw [hl]; decide), if_neg (by rw [hg]; decide)]
          · intro h15
            exfalso
            unfold tk_sg at h15
            repeat' (split at h15)
            all_goals omega
    · have hge : n ≤ tk_s b n i := by omega
      refine hX _ _ _ _ 23 (rd_A4 hA 23) ?_ rfl ?_ (fun q => by omega)
      · unfold tk_e
        rw [if_pos hge]
      · unfold tk_t
        rw [if_pos hge]
  have lp : ∀ (m j : Nat) (μ1 : iv_M) (t s v : Int), n ≤ j + m → j ≤ n → tk_rn n (fun k => decide (b k = 32)) j = tk_s b n i → rd_A μ μ1 (j : Int) t s v → iv_G L xs vz d 133 0 [some (10, 182)] [] μ1 (fun q μ' => q = none ∧ rd_F0 μ μ' ∧ ∃ t : Nat, rd_T b n μ' i t) := by
    have out : ∀ (j : Nat) (μ1 : iv_M) (t s v : Int), (j < n → decide (b j = 32) = false) → tk_rn n (fun k => decide (b k = 32)) j = tk_s b n i → rd_A μ μ1 (j : Int) t s v → iv_G L xs vz d 133 50 [some (10, 182), none] [(0, ((iv_upd μ1 182 5 (μ1 182 3)) 182 3)), (10, 182)] (iv_upd μ1 182 5 (μ1 182 3)) (fun q μ' => q = none ∧ rd_F0 μ μ' ∧ ∃ t : Nat, rd_T b n μ' i t) := fun j μ1 t s v h1 h2 hA => by
      rw [tk_rn_f h1] at h2
      have hA5 := rd_A5 hA (μ1 182 3)
      rw [hA5.2.1]
      rw [hA.2.1, h2] at hA5
      rw [hA.2.1, h2]
      exact go _ _ _ hA5
    intro m
    induction m with
    | zero =>
      intro j μ1 t s v h1 h2 h3 hA
      have hB1 := rd_F0_B hA.1 hB
      have e1 := hB1.1
      have e3 := hA.2.1
      exact sg_133_0 hL (by omega) (by omega) (by omega) (fun _ => out j μ1 t s v (fun q => by omega) h3 hA) (fun q => by exfalso; omega)
    | succ m ih =>
      intro j μ1 t s v h1 h2 h3 hA
      have hB1 := rd_F0_B hA.1 hB
      have e1 := hB1.1
      have e3 := hA.2.1
      refine sg_133_0 hL (by omega) (by omega) (by omega) (fun q => out j μ1 t s v (fun q => by omega) h3 hA) (fun q => ?_)
      have hj : j < n := by omega
      rw [e3]
      refine iv_call (want := 1) (y := 133) (pc := 16) (z := 134) (cls := 8) (sa := [(0, (j : Int))]) (th := [(10, 182)]) (r := []) (d' := d - 1) (show iv_cck 1 133 16 134 = true by decide +kernel) (Or.inl ⟨rfl, _, rfl⟩) (show iv_mck 1 134 1 8 2 = true by decide +kernel) (show (0 : Nat) ≤ 8 by decide) (by omega) (iv_C_mono (rd_byte hL (by omega) hB1 j) (fun q μ' hq => ?_))
      obtain ⟨rfl, rfl⟩ := hq
      rw [if_pos hj]
      refine sg_133_19 hL (by omega) (fun q => out j _ t s v (fun _ => by rw [decide_eq_false_iff_not]; exact q) h3 hA) (fun q => ?_)
      refine iv_wkn (ls := [some (10, 182)]) ?_ [none]
      rw [e3, show iv_w ((j : Int) + 1) = ((j + 1 : Nat) : Int) by rw [iv_w_id (by omega) (by omega)]; omega]
      refine ih (j + 1) _ t s v (by omega) (by omega) ?_ (rd_A3 hA _)
      rw [← tk_rn_t (p := fun k => decide (b k = 32)) hj (by rw [decide_eq_true_eq]; exact q)]
      exact h3
  have hA := rd_A0 μ
  rw [h3] at hA
  exact iv_C_of (lp n i μ _ _ _ (by omega) hi rfl hA)
end RDN
