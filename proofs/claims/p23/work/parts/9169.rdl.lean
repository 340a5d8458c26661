/-! ===== the class's reader: the draft, the levels ===== -/
def rd_D (μ : iv_M) (c : List Int) : Prop := μ 184 3 = (c.length : Int) ∧ c.length ≤ 160 ∧ ∀ k : Nat, k < c.length → μ 185 (k : Int) = c.getD k 0
/-- all but the draft's code stays -/
def rd_FD (μ μ' : iv_M) : Prop := ∀ p k : Int, p ≠ 184 ∨ k ≠ 3 → p ≠ 185 → μ' p k = μ p k
def rd_F (μ μ' : iv_M) : Prop := ∀ p k : Int, p ≠ 182 ∨ (k ≠ 3 ∧ k ≠ 4 ∧ k ≠ 5 ∧ k ≠ 6) → p ≠ 184 ∨ k ≠ 3 → p ≠ 185 → μ' p k = μ p k
theorem rd_F_rfl (μ : iv_M) : rd_F μ μ := fun _ _ _ _ _ => rfl
theorem rd_F_tr {μ μ1 μ2 : iv_M} (h : rd_F μ μ1) (h2 : rd_F μ1 μ2) : rd_F μ μ2 := fun p k a b c => (h2 p k a b c).trans (h p k a b c)
theorem rd_F_0 {μ μ1 : iv_M} (h : rd_F0 μ μ1) : rd_F μ μ1 := fun p k a _ _ => h p k a
theorem rd_F_D {μ μ1 : iv_M} (h : rd_FD μ μ1) : rd_F μ μ1 := fun p k _ b c => h p k b c
theorem rd_D_0 {μ μ1 : iv_M} {c : List Int} (h : rd_F0 μ μ1) (hD : rd_D μ c) : rd_D μ1 c := ⟨(h _ _ (Or.inl (by decide))).trans hD.1, hD.2.1, fun k hk => (h _ _ (Or.inl (by decide))).trans (hD.2.2 k hk)⟩
theorem rd_T_D {b : Nat → Int} {n i t : Nat} {μ μ1 : iv_M} (h : rd_FD μ μ1) (hT : rd_T b n μ i t) : rd_T b n μ1 i t := by
  obtain ⟨⟨b1, b2, b3⟩, hi, ht, e3, e4, e5, e6⟩ := hT
  have f : ∀ k, μ1 182 k = μ 182 k := fun k => h _ _ (Or.inl (by decide)) (by decide)
  exact ⟨⟨(f _).trans b1, b2, fun k hk => (h _ _ (Or.inl (by decide)) (by decide)).trans (b3 k hk)⟩, hi, ht, (f _).trans e3, (f _).trans e4, (f _).trans e5, fun q => (f _).trans (e6 q)⟩
theorem rd_D_0le {μ : iv_M} {c : List Int} (h : rd_D μ c) : 0 ≤ μ 184 3 := by rw [h.1]; omega
theorem rd_D_app {μ : iv_M} {c : List Int} (h : rd_D μ c) (hc : c.length < 160) (x : Int) : rd_D (iv_upd (iv_upd μ (184 + 1) (μ 184 3) x) 184 3 (iv_w (((iv_upd μ (184 + 1) (μ 184 3) x) 184 3) + 1))) (c ++ [x]) := by
  refine ⟨?_, by rw [List.length_append]; show c.length + 1 ≤ 160; omega, fun k hk => ?_⟩
  · rw [iv_upd_same, iv_upd_ne _ _ (Or.inl (by decide)), h.1, List.length_append, iv_w_id (by omega) (by omega)]
    show (c.length : Int) + 1 = ((c.length + 1 : Nat) : Int)
    omega
  · rw [List.length_append] at hk
    have hk : k < c.length + 1 := hk
    rw [iv_upd_ne _ _ (Or.inl (by decide)), h.1]
    by_cases e : k = c.length
    · subst e
      rw [show (184 : Int) + 1 = 185 from rfl, iv_upd_same]
      simp [List.getD_eq_getElem?_getD]
    · rw [iv_upd_ne _ _ (Or.inr (by omega)), h.2.2 k (by omega), List.getD_eq_getElem?_getD, List.getD_eq_getElem?_getD, List.getElem?_append_left (by omega)]
theorem rd_FD_upd (μ : iv_M) (s x y : Int) : rd_FD μ (iv_upd (iv_upd μ (184 + 1) s x) 184 3 y) := fun p k a b => by
  rw [iv_upd_ne _ _ a, iv_upd_ne _ _ (Or.inl (by omega))]
section RDL
variable {L : Nat} {xs : Nat → Int32} {vz : Value} {b : Nat → Int} {n : Nat}
theorem rd_num {d : Nat} {μ : iv_M} (hL : L ≤ 3072) (hd : 6 ≤ d) {x : Int} {c : List Int} (hD : rd_D μ c) (hc : c.length < 160) : iv_C L xs vz d 161 [(11, 184), (0, x)] μ (fun q μ' => q = none ∧ rd_FD μ μ' ∧ rd_D μ' (c ++ [x])) := by
  have e := hD.1
  refine iv_C_of (sg_161_0 hL hd (fun h => by exfalso; omega) (fun _ _ => ⟨rfl, rd_FD_upd _ _ _ _, rd_D_app hD hc x⟩) (fun _ h => h ⟨by omega, by omega⟩))
theorem rd_tok {d : Nat} {μ : iv_M} (hL : L ≤ 3072) (hd : 6 ≤ d) {t : Nat} (ht : t ≤ 24) (h0 : 0 ≤ μ 184 3) : iv_C L xs vz d 162 [(11, 184), (0, (t : Int))] μ (fun q μ' => q = none ∧ rd_FD μ μ' ∧ 0 ≤ μ' 184 3 ∧ ∀ c : List Int, rd_D μ c → c.length < 160 → rd_D μ' (c ++ [-1 - (t : Int)])) := by
  refine iv_C_of (sg_162_0 hL hd (fun h => ⟨rfl, fun _ _ _ _ => rfl, h0, fun c hD hc => ?_⟩) (fun h _ => ⟨rfl, rd_FD_upd _ _ _ _, ?_, fun c hD hc => ?_⟩) (fun h g => g ⟨h0, h⟩))
  · have := hD.1
    omega
  · rw [iv_upd_same, iv_upd_ne _ _ (Or.inl (by decide)), iv_w_id (by omega) (by omega)]
    omega
  · rw [show iv_w (-1 - (t : Int)) = -1 - (t : Int) from iv_w_id (by omega) (by omega)]
    exact rd_D_app hD hc _
/-- what a level of an expression comes to -/
def rd_O (b : Nat → Int) (n r i k : Nat) (W : List Nat) (m : Nat) (c : List Int) (μ : iv_M) (q : Option iv_Z) (μ' : iv_M) : Prop := rd_F μ μ' ∧ 0 ≤ μ' 184 3 ∧ ∃ j t, i ≤ j ∧ rd_T b n μ' j t ∧ ((q = some (0, 1) ∧ ∃ c' S', rd_D μ' c' ∧ c'.length + k ≤ j ∧ mc_wx r W c' S' ∧ mc_xt r W S' t ∧ mc_K b n i (W, m, c) j S') ∨ (q = some (0, 0) ∧ mc_Q b n i (W, m, c) none j))
def rd_L (L : Nat) (xs : Nat → Int32) (vz : Value) (b : Nat → Int) (n D z r tp dp : Nat) (nt : Bool) : Prop := ∀ (μ : iv_M) (i t : Nat) (W : List Nat) (m : Nat) (c : List Int) (k : Nat), rd_T b n μ i t → rd_D μ c → c.length + k ≤ i → m < 2 → (nt = true → m = 0) → (nt = false → m = 0 → t ≠ 14) → mc_tp tp W → mc_dp W = dp → iv_C L xs vz D z [(10, 182), (0, (dp : Int))] μ (rd_O b n r i k W m c μ)
theorem rd_L_le {D D' z r tp dp : Nat} {nt : Bool} (h : rd_L L xs vz b n D z r tp dp nt) (hD : D ≤ D') : rd_L L xs vz b n D' z r tp dp nt := fun μ i t W m c k a1 a2 a3 a4 a5 a6 a7 a8 => iv_C_le (h μ i t W m c k a1 a2 a3 a4 a5 a6 a7 a8) hD
theorem rd_T_next {d : Nat} {μ : iv_M} (hL : L ≤ 3072) (hv : vz.category = 1) (hd : 62 ≤ d) {i t : Nat} (hT : rd_T b n μ i t) : iv_C L xs vz d 133 [(10, 182)] μ (fun q μ' => q = none ∧ rd_F0 μ μ' ∧ ∃ t' : Nat, rd_T b n μ' (tk_e b n i) t') := rd_next hL hv hd hT.1 (tk_e_bd hT.2.1).2.1 hT.2.2.2.1
theorem rd_one {D dp : Nat} (hL : L ≤ 3072) (hv : vz.category = 1) (hD : 70 ≤ D) (hor : dp < 4 → rd_L L xs vz b n (D - 1) 155 1 1 (dp + 1) true) : rd_L L xs vz b n D 160 6 6 dp false := by
  intro μ i t W m c k hT hc hck hm _ hn htp hdp
  have hn := hn rfl
  obtain ⟨hB, hi, ht, e3, e4, e5, e6⟩ := id hT
  have h0 := rd_D_0le hc
  have h160 := hB.2.1
  have bad : ∀ q : mc_step t (tk_v b n i) (W, m, c) = .inr none, rd_O b n 6 i k W m c μ (some (0, 0)) μ := fun q => ⟨rd_F_rfl μ, h0, i, t, Nat.le_refl i, hT, Or.inr ⟨rfl, mc_Q_end ht q⟩⟩
  -- one that stands by itself
  have good : ∀ (μ1 μ2 : iv_M) (t2 : Nat) (x : Int), t ≠ 23 → mc_step t (tk_v b n i) (W, m, c) = .inl (W, 2, c ++ [x]) → rd_F μ μ1 → rd_D μ1 (c ++ [x]) → rd_F0 μ1 μ2 → rd_T b n μ2 (tk_e b n i) t2 → rd_O b n 6 i k W m c μ (some (0, 1)) μ2 := fun μ1 μ2 t2 x h23 hs hF hD1 hF2 hT2 => by
    have ha := tk_adv hi ht h23
    have hD2 := rd_D_0 hF2 hD1
    refine ⟨rd_F_tr hF (rd_F_0 hF2), rd_D_0le hD2, _, t2, by omega, hT2, Or.inl ⟨rfl, _, (W, 2, c ++ [x]), hD2, ?_, mc_wx_rfl, ⟨fun q => by omega, fun q => by omega, fun _ => rfl, fun q => by omega, fun q => by omega⟩, mc_K_step mc_K_rfl ht hs⟩⟩
    rw [List.length_append]
    show c.length + 1 + k ≤ _
    omega
  refine iv_C_of (sg_160_0 hL (by omega) (fun q1 q2 q3 => bad (mc_none hm (by omega) hn (by omega) (by omega))) (fun q1 q2 q3 q4 => ?_) (fun q1 q2 q3 q4 => bad (mc_opens_no (by omega) hm (by omega))) (fun q1 q2 => ?_) (fun q1 => ?_))
  · -- a bracket
    have h16 : t = 16 := by omega
    subst h16
    have ha := tk_adv hi ht (by omega)
    have hs := mc_opens (v := tk_v b n i) (W := W) (c := c) (Or.inl rfl : (16 : Nat) = 16 ∨ ((16 : Nat) = 14 ∧ m = 0)) hm (by omega)
    have hK := mc_K_step (mc_K_rfl (b := b) (n := n) (i := i) (S := (W, m, c))) ht hs
    refine iv_call (want := 1) (y := 160) (pc := 69) (z := 133) (cls := 8) (sa := []) (th := [(10, 182)]) (r := []) (d' := D - 1) (show iv_cck 1 160 69 133 = true by decide +kernel) (Or.inl ⟨rfl, _, rfl⟩) (show iv_mck 1 133 0 8 1 = true by decide +kernel) (show (0 : Nat) ≤ 8 by decide) (by omega) (iv_C_mono (rd_T_next hL hv (by omega) hT) (fun q μ1 hq => ?_))
    obtain ⟨rfl, hF1, t1, hT1⟩ := hq
    refine sg_160_72 hL (by omega) ?_
    rw [show iv_w ((dp : Int) + 1) = ((dp + 1 : Nat) : Int) by rw [iv_w_id (by omega) (by omega)]; omega]
    refine iv_call (want := 1) (y := 160) (pc := 76) (z := 155) (cls := 8) (sa := [(0, ((dp + 1 : Nat) : Int))]) (th := [(10, 182)]) (r := []) (d' := D - 1) (show iv_cck 1 160 76 155 = true by decide +kernel) (Or.inl ⟨rfl, _, rfl⟩) (show iv_mck 1 155 1 8 2 = true by decide +kernel) (show (0 : Nat) ≤ 8 by decide) (by omega) (iv_C_mono (hor (by omega) μ1 _ t1 (16 :: W) 0 c k hT1 (rd_D_0 hF1 hc) (by omega) (by omega) (fun _ => rfl) (fun q => by cases q) (mc_tp_cons (by decide)) (by rw [mc_dp_in (Or.inl rfl), hdp])) (fun q μ2 hq => ?_))
    obtain ⟨hF2, h02, j, t2, hij, hT2, hq⟩ := hq
    have hF := rd_F_tr (rd_F_0 hF1) hF2
    rcases hq with ⟨rfl, c', S', hD2, hk2, hw, hx, hK2⟩ | ⟨rfl, hQ⟩
    · have hK3 := mc_K_tr hK hK2
      refine sg_160_79 hL (by omega) (fun q => by cases q) (fun _ q => ?_) (fun _ q => ?_)
      · have h17 : t2 = 17 := by have := hT2.2.2.2.2.1; omega
        subst h17
        have ha2 := tk_adv hT2.2.1 hT2.2.2.1 (by omega)
        refine iv_call (want := 1) (y := 160) (pc := 94) (z := 133) (cls := 8) (sa := []) (th := [(10, 182)]) (r := []) (d' := D - 1) (show iv_cck 1 160 94 133 = true by decide +kernel) (Or.inl ⟨rfl, _, rfl⟩) (show iv_mck 1 133 0 8 1 = true by decide +kernel) (show (0 : Nat) ≤ 8 by decide) (by omega) (iv_C_mono (rd_T_next hL hv (by omega) hT2) (fun q μ3 hq => ?_))
        obtain ⟨rfl, hF3, t3, hT3⟩ := hq
        have hD3 := rd_D_0 hF3 hD2
        exact sg_160_97 hL (by omega) ⟨rd_F_tr hF (rd_F_0 hF3), rd_D_0le hD3, _, t3, by omega, hT3, Or.inl ⟨rfl, c', (W, 2, c'), hD3, by omega, mc_wx_rfl, ⟨fun q => by omega, fun q => by omega, fun _ => rfl, fun q => by omega, fun q => by omega⟩, mc_K_step hK3 hT2.2.2.1 (mc_close hw)⟩⟩
      · have h17 : t2 ≠ 17 := by have := hT2.2.2.2.2.1; omega
        exact ⟨hF, h02, j, t2, by omega, hT2, Or.inr ⟨rfl, mc_K_end hK3 hT2.2.2.1 (mc_stuck hw hx (fun q => absurd q h17) (fun _ => by rw [mc_op_16]; omega))⟩⟩
    · exact sg_160_79 hL (by omega) (fun _ => ⟨hF, h02, j, t2, by omega, hT2, Or.inr ⟨rfl, hK _ _ hQ⟩⟩) (fun q => absurd rfl q) (fun q => absurd rfl q)
  · -- a name
    have ha := tk_adv hi ht (by omega)
    rw [e4]
    refine iv_call (want := 1) (y := 160) (pc := 43) (z := 162) (cls := 9) (sa := [(0, (t : Int))]) (th := [(11, 184)]) (r := []) (d' := D - 1) (show iv_cck 1 160 43 162 = true by decide +kernel) (Or.inl ⟨rfl, _, rfl⟩) (show iv_mck 1 162 1 9 2 = true by decide +kernel) (show (0 : Nat) ≤ 8 by decide) (by omega) (iv_C_mono (rd_tok hL (by omega) (by omega) h0) (fun q μ1 hq => ?_))
    obtain ⟨rfl, hF1, -, hD1⟩ := hq
    refine sg_160_46 hL (by omega) ?_
    refine iv_call (want := 1) (y := 160) (pc := 47) (z := 133) (cls := 8) (sa := []) (th := [(10, 182)]) (r := []) (d' := D - 1) (show iv_cck 1 160 47 133 = true by decide +kernel) (Or.inl ⟨rfl, _, rfl⟩) (show iv_mck 1 133 0 8 1 = true by decide +kernel) (show (0 : Nat) ≤ 8 by decide) (by omega) (iv_C_mono (rd_T_next hL hv (by omega) (rd_T_D hF1 hT)) (fun q μ2 hq => ?_))
    obtain ⟨rfl, hF2, t2, hT2⟩ := hq
    exact sg_160_50 hL (by omega) (good μ1 μ2 t2 _ (by omega) (mc_nam hm (by omega)) (rd_F_D hF1) (hD1 c hc (by omega)) hF2 hT2)
  · -- a number
    have h15 : t = 15 := by omega
    subst h15
    have ha := tk_adv hi ht (by omega)
    rw [e6 rfl]
    refine iv_call (want := 1) (y := 160) (pc := 17) (z := 161) (cls := 9) (sa := [(0, tk_v b n i)]) (th := [(11, 184)]) (r := []) (d' := D - 1) (show iv_cck 1 160 17 161 = true by decide +kernel) (Or.inl ⟨rfl, _, rfl⟩) (show iv_mck 1 161 1 9 2 = true by decide +kernel) (show (0 : Nat) ≤ 8 by decide) (by omega) (iv_C_mono (rd_num hL (by omega) hc (by omega)) (fun q μ1 hq => ?_))
    obtain ⟨rfl, hF1, hD1⟩ := hq
    refine sg_160_20 hL (by omega) ?_
    refine iv_call (want := 1) (y := 160) (pc := 21) (z := 133) (cls := 8) (sa := []) (th := [(10, 182)]) (r := []) (d' := D - 1) (show iv_cck 1 160 21 133 = true by decide +kernel) (Or.inl ⟨rfl, _, rfl⟩) (show iv_mck 1 133 0 8 1 = true by decide +kernel) (show (0 : Nat) ≤ 8 by decide) (by omega) (iv_C_mono (rd_T_next hL hv (by omega) (rd_T_D hF1 hT)) (fun q μ2 hq => ?_))
    obtain ⟨rfl, hF2, t2, hT2⟩ := hq
    exact sg_160_24 hL (by omega) (good μ1 μ2 t2 _ (by omega) (mc_num hm) (rd_F_D hF1) hD1 hF2 hT2)
theorem rd_sum {D dp : Nat} (hL : L ≤ 3072) (hv : vz.category = 1) (hD : 70 ≤ D) (hsub : rd_L L xs vz b n (D - 1) 160 6 6 dp false) : rd_L L xs vz b n D 159 5 5 dp false := by
  intro μ i t W m c k hT hc hck hm hn1 hn htp hdp
  have h160 := hT.1.2.1
  have hdl : mc_dp W ≤ W.length := List.countP_le_length
  -- where it does not go on
  have bad : ∀ (l3 : Int) (j : Nat) (t' : Nat) (μ' : iv_M), 0 ≤ l3 → rd_F μ μ' → 0 ≤ μ' 184 3 → i ≤ j → rd_T b n μ' j t' → mc_Q b n i (W, m, c) none j → iv_G L xs vz D 159 8 [some (10, 182), some (0, (dp : Int)), some (0, 0), some (0, l3), none] [] μ' (rd_O b n 5 i k W m c μ) := fun l3 j t' μ' hl hF h0 hij hT' hQ => by
    refine sg_159_8 hL (by omega) hl (fun _ _ => ⟨hF, h0, j, t', hij, hT', Or.inr ⟨rfl, hQ⟩⟩) (fun _ h => h ⟨by omega, by omega⟩) (fun _ _ => ⟨hF, h0, j, t', hij, hT', Or.inr ⟨rfl, hQ⟩⟩) (fun _ q => absurd rfl q) (fun _ q => absurd rfl q) (fun _ q => absurd rfl q) (fun _ q => absurd rfl q)
  have lp : ∀ (m2 cnt j t' : Nat) (μ' : iv_M) (c' : List Int) (S' : mc_S), 160 ≤ cnt + m2 → cnt ≤ j → i ≤ j → rd_F μ μ' → rd_T b n μ' j t' → rd_D μ' c' → c'.length + k ≤ j → mc_wx 5 W c' S' → mc_xt 6 W S' t' → mc_K b n i (W, m, c) j S' → iv_G L xs vz D 159 8 [some (10, 182), some (0, (dp : Int)), some (0, 1), some (0, (cnt : Int)), none] [] μ' (rd_O b n 5 i k W m c μ) := by
    intro m2
    have stop : ∀ (j t' : Nat) (μ' : iv_M) (c' : List Int) (S' : mc_S), ¬ (t' = 19 ∨ t' = 20) → i ≤ j → rd_F μ μ' → rd_T b n μ' j t' → rd_D μ' c' → c'.length + k ≤ j → mc_wx 5 W c' S' → mc_xt 6 W S' t' → mc_K b n i (W, m, c) j S' → rd_O b n 5 i k W m c μ (some (0, 1)) μ' := fun j t' μ' c' S' hs hij hF hT' hD' hk hw hx hK => ⟨hF, rd_D_0le hD', j, t', hij, hT', Or.inl ⟨rfl, c', S', hD', hk, hw, ⟨fun _ => by omega, fun q => by omega, hx.2.2.1 ∘ (fun _ => by omega), fun q => by omega, fun q => by omega⟩, hK⟩⟩
    induction m2 with
    | zero =>
      intro cnt j t' μ' c' S' h1 h2 hij hF hT' hD' hk hw hx hK
      have hs : ¬ (t' = 19 ∨ t' = 20) := fun q => by
        have := tk_adv hT'.2.1 hT'.2.2.1 (by omega)
        omega
      have e4 := hT'.2.2.2.2.1
      refine sg_159_8 hL (by omega) (by omega) (fun _ _ => stop j t' μ' c' S' hs hij hF hT' hD' hk hw hx hK) (fun _ h => h ⟨by omega, by omega⟩) (fun g => by exfalso; omega) (fun g => by exfalso; omega) (fun g => by exfalso; omega) (fun g => by exfalso; omega) (fun g => by exfalso; omega)
    | succ m2 ih =>
      intro cnt j t' μ' c' S' h1 h2 hij hF hT' hD' hk hw hx hK
      have e4 := hT'.2.2.2.2.1
      have h160' : (cnt : Int) ≥ 160 → ¬ (t' = 19 ∨ t' = 20) := fun g q => by
        have := tk_adv hT'.2.1 hT'.2.2.1 (by omega)
        omega
      have step : ∀ z : Nat, t' = z → (z = 19 ∨ z = 20) → cnt < 160 → iv_G L xs vz D 159 44 [some (10, 182), some (0, (dp : Int)), some (0, 1), some (0, (cnt : Int)), some (0, (t' : Int))] [(10, 182)] μ' (rd_O b n 5 i k W m c μ) := fun z hz hzs hcnt => by
        subst hz
        have ha := tk_adv hT'.2.1 hT'.2.2.1 (by omega)
        have hr : mc_rk t' = 5 := by rcases hzs with e | e <;> rw [e] <;> rfl
        have hb := mc_bin (v := tk_v b n j) hw hr (by omega) (by omega) htp (fun q => by omega)
        have hK1 := mc_K_step hK hT'.2.2.1 hb
        refine iv_call (want := 1) (y := 159) (pc := 44) (z := 133) (cls := 8) (sa := []) (th := [(10, 182)]) (r := []) (d' := D - 1) (show iv_cck 1 159 44 133 = true by decide +kernel) (Or.inl ⟨rfl, _, rfl⟩) (show iv_mck 1 133 0 8 1 = true by decide +kernel) (show (0 : Nat) ≤ 8 by decide) (by omega) (iv_C_mono (rd_T_next hL hv (by omega) hT') (fun q μ1 hq => ?_))
        obtain ⟨rfl, hF1, t1, hT1⟩ := hq
        refine sg_159_47 hL (by omega) ?_
        refine iv_call (want := 1) (y := 159) (pc := 49) (z := 160) (cls := 8) (sa := [(0, (dp : Int))]) (th := [(10, 182)]) (r := []) (d' := D - 1) (show iv_cck 1 159 49 160 = true by decide +kernel) (Or.inl ⟨rfl, _, rfl⟩) (show iv_mck 1 160 1 8 2 = true by decide +kernel) (show (0 : Nat) ≤ 8 by decide) (by omega) (iv_C_mono (hsub μ1 _ t1 (t' :: W) 1 c' (k + 1) hT1 (rd_D_0 hF1 hD') (by omega) (by omega) (fun q => by cases q) (fun q q2 => by cases q2) (mc_tp_cons (by omega)) (by rw [mc_dp_cons (by omega) (by omega), hdp])) (fun q μ2 hq => ?_))
        obtain ⟨hF2, h02, j2, t2, hij2, hT2, hq⟩ := hq
        have hF3 := rd_F_tr hF (rd_F_tr (rd_F_0 hF1) hF2)
        have ew : iv_w ((cnt : Int) + 1) = ((cnt + 1 : Nat) : Int) := by rw [iv_w_id (by omega) (by omega)]; omega
        rcases hq with ⟨rfl, c2, S2, hD2, hk2, hw2, hx2, hK2⟩ | ⟨rfl, hQ⟩
        · refine sg_159_52 hL (by omega) ?_
          refine iv_call (want := 1) (y := 159) (pc := 59) (z := 162) (cls := 9) (sa := [(0, (t' : Int))]) (th := [(11, 184)]) (r := []) (d' := D - 1) (show iv_cck 1 159 59 162 = true by decide +kernel) (Or.inl ⟨rfl, _, rfl⟩) (show iv_mck 1 162 1 9 2 = true by decide +kernel) (show (0 : Nat) ≤ 8 by decide) (by omega) (iv_C_mono (rd_tok hL (by omega) (by omega) h02) (fun q μ3 hq => ?_))
          obtain ⟨rfl, hF4, -, hD4⟩ := hq
          have hT3 := rd_T_D hF4 hT2
          have hj2 := hT2.2.1
          have hD5 := hD4 c2 hD2 (by omega)
          refine sg_159_62 hL (by omega) ?_
          rw [ew]
          refine iv_wk (ih (cnt + 1) j2 t2 μ3 _ S2 (by omega) (by omega) (by omega) (rd_F_tr hF3 (rd_F_D hF4)) hT3 hD5 (by rw [List.length_append]; show c2.length + 1 + k ≤ j2; omega) (mc_bin2 hw2 hr (by omega) (by omega)) ⟨fun q => by omega, fun q => by omega, fun q => (hx2.2.2.1 q).trans (mc_ts_cons5 hr), fun q => by omega, fun q => by omega⟩ (mc_K_tr hK1 hK2)) ⟨Or.inr rfl, Or.inr rfl, Or.inr rfl, Or.inr rfl, Or.inl rfl, trivial⟩
        · refine sg_159_52 hL (by omega) ?_
          refine iv_call (want := 1) (y := 159) (pc := 59) (z := 162) (cls := 9) (sa := [(0, (t' : Int))]) (th := [(11, 184)]) (r := []) (d' := D - 1) (show iv_cck 1 159 59 162 = true by decide +kernel) (Or.inl ⟨rfl, _, rfl⟩) (show iv_mck 1 162 1 9 2 = true by decide +kernel) (show (0 : Nat) ≤ 8 by decide) (by omega) (iv_C_mono (rd_tok hL (by omega) (by omega) h02) (fun q μ3 hq => ?_))
          obtain ⟨rfl, hF4, h04, -⟩ := hq
          refine sg_159_62 hL (by omega) ?_
          rw [ew]
          refine iv_wk (bad _ j2 t2 μ3 (by omega) (rd_F_tr hF3 (rd_F_D hF4)) h04 (by omega) (rd_T_D hF4 hT2) (hK1 _ _ hQ)) ⟨Or.inr rfl, Or.inr rfl, Or.inr rfl, Or.inr rfl, Or.inl rfl, trivial⟩
      refine sg_159_8 hL (by omega) (by omega) (fun g _ => stop j t' μ' c' S' (h160' g) hij hF hT' hD' hk hw hx hK) (fun _ h => h ⟨by omega, by omega⟩) (fun _ q => by cases q) (fun g _ q => by rw [q]; (have hz : t' = 19 := by omega); (have := step 19 hz (by omega) (by omega)); rw [hz] at this; exact this) (fun g _ q q2 _ => stop j t' μ' c' S' (by omega) hij hF hT' hD' hk hw hx hK) (fun _ _ _ _ h => h ⟨by omega, by omega⟩) (fun g _ q q2 => by rw [q2]; (have hz : t' = 20 := by omega); (have := step 20 hz (by omega) (by omega)); rw [hz] at this; exact this)
  refine iv_C_of (sg_159_0 hL (by omega) ?_)
  refine iv_call (want := 1) (y := 159) (pc := 2) (z := 160) (cls := 8) (sa := [(0, (dp : Int))]) (th := [(10, 182)]) (r := []) (d' := D - 1) (show iv_cck 1 159 2 160 = true by decide +kernel) (Or.inl ⟨rfl, _, rfl⟩) (show iv_mck 1 160 1 8 2 = true by decide +kernel) (show (0 : Nat) ≤ 8 by decide) (by omega) (iv_C_mono (hsub μ i t W m c k hT hc hck hm hn1 hn (mc_tp_up htp (by omega)) hdp) (fun q μ1 hq => ?_))
  obtain ⟨hF, h0, j, t1, hij, hT1, hq⟩ := hq
  rcases hq with ⟨rfl, c', S', hD', hk, hw, hx, hK⟩ | ⟨rfl, hQ⟩
  · exact sg_159_5 hL (by omega) (lp 160 0 j t1 μ1 c' S' (by omega) (by omega) hij hF hT1 hD' hk (mc_wx_up hw (by omega)) hx hK)
  · exact sg_159_5 hL (by omega) (bad 0 j t1 μ1 (by omega) hF h0 hij hT1 hQ)
theorem rd_cmp {D dp : Nat} (hL : L ≤ 3072) (hv : vz.category = 1) (hD : 70 ≤ D) (hsub : rd_L L xs vz b n (D - 1) 159 5 5 dp false) : rd_L L xs vz b n D 158 4 4 dp false := by
  intro μ i t W m c k hT hc hck hm hn1 hn htp hdp
  have h160 := hT.1.2.1
  have hdl : mc_dp W ≤ W.length := List.countP_le_length
  refine iv_C_of (sg_158_0 hL (by omega) ?_)
  refine iv_call (want := 1) (y := 158) (pc := 2) (z := 159) (cls := 8) (sa := [(0, (dp : Int))]) (th := [(10, 182)]) (r := []) (d' := D - 1) (show iv_cck 1 158 2 159 = true by decide +kernel) (Or.inl ⟨rfl, _, rfl⟩) (show iv_mck 1 159 1 8 2 = true by decide +kernel) (show (0 : Nat) ≤ 8 by decide) (by omega) (iv_C_mono (hsub μ i t W m c k hT hc hck hm hn1 hn (mc_tp_up htp (by omega)) hdp) (fun q μ1 hq => ?_))
  obtain ⟨hF, h0, j, t1, hij, hT1, hq⟩ := hq
  have e4 := hT1.2.2.2.2.1
  rcases hq with ⟨rfl, c', S', hD', hk, hw, hx, hK⟩ | ⟨rfl, hQ⟩
  · have step : ∀ z : Nat, t1 = z → (z = 21 ∨ z = 22) → iv_G L xs vz D 158 30 [some (10, 182), some (0, (dp : Int)), some (0, 1), some (0, (t1 : Int))] [(10, 182)] μ1 (rd_O b n 4 i k W m c μ) := fun z hz hzs => by
      subst hz
      have ha := tk_adv hT1.2.1 hT1.2.2.1 (by omega)
      have hr : mc_rk t1 = 4 := by rcases hzs with e | e <;> rw [e] <;> rfl
      have hw4 := mc_wx_up hw (show 4 ≤ 5 by omega)
      have hb := mc_bin (v := tk_v b n j) hw4 hr (by omega) (by omega) htp (fun _ => by rw [hx.2.2.1 (by omega)]; exact mc_ts_tp htp)
      have hK1 := mc_K_step hK hT1.2.2.1 hb
      refine iv_call (want := 1) (y := 158) (pc := 30) (z := 133) (cls := 8) (sa := []) (th := [(10, 182)]) (r := []) (d' := D - 1) (show iv_cck 1 158 30 133 = true by decide +kernel) (Or.inl ⟨rfl, _, rfl⟩) (show iv_mck 1 133 0 8 1 = true by decide +kernel) (show (0 : Nat) ≤ 8 by decide) (by omega) (iv_C_mono (rd_T_next hL hv (by omega) hT1) (fun q μ2 hq => ?_))
      obtain ⟨rfl, hF2, t2, hT2⟩ := hq
      refine sg_158_33 hL (by omega) ?_
      refine iv_call (want := 1) (y := 158) (pc := 35) (z := 159) (cls := 8) (sa := [(0, (dp : Int))]) (th := [(10, 182)]) (r := []) (d' := D - 1) (show iv_cck 1 158 35 159 = true by decide +kernel) (Or.inl ⟨rfl, _, rfl⟩) (show iv_mck 1 159 1 8 2 = true by decide +kernel) (show (0 : Nat) ≤ 8 by decide) (by omega) (iv_C_mono (hsub μ2 _ t2 (t1 :: W) 1 c' (k + 1) hT2 (rd_D_0 hF2 hD') (by omega) (by omega) (fun q => by cases q) (fun q q2 => by cases q2) (mc_tp_cons (by omega)) (by rw [mc_dp_cons (by omega) (by omega), hdp])) (fun q μ3 hq => ?_))
      obtain ⟨hF3, h03, j3, t3, hij3, hT3, hq⟩ := hq
      have hF4 := rd_F_tr hF (rd_F_tr (rd_F_0 hF2) hF3)
      rcases hq with ⟨rfl, c3, S3, hD3, hk3, hw3, hx3, hK3⟩ | ⟨rfl, hQ⟩
      · refine sg_158_38 hL (by omega) ?_
        refine iv_call (want := 1) (y := 158) (pc := 44) (z := 162) (cls := 9) (sa := [(0, (t1 : Int))]) (th := [(11, 184)]) (r := []) (d' := D - 1) (show iv_cck 1 158 44 162 = true by decide +kernel) (Or.inl ⟨rfl, _, rfl⟩) (show iv_mck 1 162 1 9 2 = true by decide +kernel) (show (0 : Nat) ≤ 8 by decide) (by omega) (iv_C_mono (rd_tok hL (by omega) (by omega) h03) (fun q μ4 hq => ?_))
        obtain ⟨rfl, hF5, -, hD5⟩ := hq
        have hj3 := hT3.2.1
        have hD6 := hD5 c3 hD3 (by omega)
        exact sg_158_47 hL (by omega) (fun _ => ⟨rd_F_tr hF4 (rd_F_D hF5), rd_D_0le hD6, j3, t3, by omega, rd_T_D hF5 hT3, Or.inl ⟨rfl, _, S3, hD6, by rw [List.length_append]; show c3.length + 1 + k ≤ j3; omega, mc_bin2 hw3 hr (by omega) (by omega), ⟨fun _ => hx3.1 (by omega), fun _ _ => (hx3.2.2.1 (by omega)).trans (mc_ts_cons4 hr), fun q => by omega, fun q => by omega, fun q => by omega⟩, mc_K_tr hK1 hK3⟩⟩) (fun h => h ⟨by omega, by omega⟩)
      · refine sg_158_38 hL (by omega) ?_
        refine iv_call (want := 1) (y := 158) (pc := 44) (z := 162) (cls := 9) (sa := [(0, (t1 : Int))]) (th := [(11, 184)]) (r := []) (d' := D - 1) (show iv_cck 1 158 44 162 = true by decide +kernel) (Or.inl ⟨rfl, _, rfl⟩) (show iv_mck 1 162 1 9 2 = true by decide +kernel) (show (0 : Nat) ≤ 8 by decide) (by omega) (iv_C_mono (rd_tok hL (by omega) (by omega) h03) (fun q μ4 hq => ?_))
        obtain ⟨rfl, hF5, h05, -⟩ := hq
        exact sg_158_47 hL (by omega) (fun _ => ⟨rd_F_tr hF4 (rd_F_D hF5), h05, j3, t3, by omega, rd_T_D hF5 hT3, Or.inr ⟨rfl, hK1 _ _ hQ⟩⟩) (fun h => h ⟨by omega, by omega⟩)
    refine sg_158_5 hL (by omega) (fun q => by cases q) (fun _ q => ?_) (fun _ _ q => ?_) (fun _ q q2 _ => ?_) (fun _ _ _ h => h ⟨by omega, by omega⟩)
    · rw [e4]
      exact step 21 (by omega) (Or.inl rfl)
    · rw [e4]
      exact step 22 (by omega) (Or.inr rfl)
    · exact ⟨hF, h0, j, t1, hij, hT1, Or.inl ⟨rfl, c', S', hD', hk, mc_wx_up hw (by omega), ⟨fun _ => hx.1 (by omega), fun _ g => by omega, fun q => by omega, fun q => by omega, fun q => by omega⟩, hK⟩⟩
  · exact sg_158_5 hL (by omega) (fun _ => ⟨hF, h0, j, t1, hij, hT1, Or.inr ⟨rfl, hQ⟩⟩) (fun q => absurd rfl q) (fun q => absurd rfl q) (fun q => absurd rfl q) (fun q => absurd rfl q)
theorem rd_not {D dp : Nat} (hL : L ≤ 3072) (hv : vz.category = 1) (hD : 70 ≤ D) (hsub : rd_L L xs vz b n (D - 1) 158 4 4 dp false) (hnot : dp < 4 → rd_L L xs vz b n (D - 1) 157 3 4 (dp + 1) true) : rd_L L xs vz b n D 157 3 4 dp true := by
  intro μ i t W m c k hT hc hck hm hn1 hn htp hdp
  have hn1 := hn1 rfl
  subst hn1
  have h160 := hT.1.2.1
  have e4 := hT.2.2.2.2.1
  refine iv_C_of (sg_157_0 hL (by omega) (fun q q2 => ?_) (fun q q2 => ?_) (fun q => ?_))
  · have h14 : t = 14 := by omega
    subst h14
    have ha := tk_adv hT.2.1 hT.2.2.1 (by omega)
    have hs := mc_opens (v := tk_v b n i) (W := W) (c := c) (Or.inr ⟨rfl, rfl⟩ : (14 : Nat) = 16 ∨ ((14 : Nat) = 14 ∧ (0 : Nat) = 0)) hm (by omega)
    have hK := mc_K_step (mc_K_rfl (b := b) (n := n) (i := i) (S := (W, 0, c))) hT.2.2.1 hs
    refine iv_call (want := 1) (y := 157) (pc := 23) (z := 133) (cls := 8) (sa := []) (th := [(10, 182)]) (r := []) (d' := D - 1) (show iv_cck 1 157 23 133 = true by decide +kernel) (Or.inl ⟨rfl, _, rfl⟩) (show iv_mck 1 133 0 8 1 = true by decide +kernel) (show (0 : Nat) ≤ 8 by decide) (by omega) (iv_C_mono (rd_T_next hL hv (by omega) hT) (fun q μ1 hq => ?_))
    obtain ⟨rfl, hF1, t1, hT1⟩ := hq
    refine sg_157_26 hL (by omega) ?_
    rw [show iv_w ((dp : Int) + 1) = ((dp + 1 : Nat) : Int) by rw [iv_w_id (by omega) (by omega)]; omega]
    refine iv_call (want := 1) (y := 157) (pc := 30) (z := 157) (cls := 8) (sa := [(0, ((dp + 1 : Nat) : Int))]) (th := [(10, 182)]) (r := []) (d' := D - 1) (show iv_cck 1 157 30 157 = true by decide +kernel) (Or.inl ⟨rfl, _, rfl⟩) (show iv_mck 1 157 1 8 2 = true by decide +kernel) (show (0 : Nat) ≤ 8 by decide) (by omega) (iv_C_mono (hnot (by omega) μ1 _ t1 (14 :: W) 0 c (k + 1) hT1 (rd_D_0 hF1 hc) (by omega) (by omega) (fun _ => rfl) (fun q => by cases q) (mc_tp_cons (by decide)) (by rw [mc_dp_in (Or.inr rfl), hdp])) (fun q μ2 hq => ?_))
    obtain ⟨hF2, h02, j, t2, hij, hT2, hq⟩ := hq
    have hF := rd_F_tr (rd_F_0 hF1) hF2
    rcases hq with ⟨rfl, c2, S2, hD2, hk2, hw2, hx2, hK2⟩ | ⟨rfl, hQ⟩
    · refine sg_157_33 hL (by omega) ?_
      refine iv_call (want := 1) (y := 157) (pc := 40) (z := 162) (cls := 9) (sa := [(0, ((14 : Nat) : Int))]) (th := [(11, 184)]) (r := []) (d' := D - 1) (show iv_cck 1 157 40 162 = true by decide +kernel) (Or.inl ⟨rfl, _, rfl⟩) (show iv_mck 1 162 1 9 2 = true by decide +kernel) (show (0 : Nat) ≤ 8 by decide) (by omega) (iv_C_mono (rd_tok (t := 14) hL (by omega) (by omega) h02) (fun q μ3 hq => ?_))
      obtain ⟨rfl, hF3, -, hD3⟩ := hq
      have hj2 := hT2.2.1
      have hD4 := hD3 c2 hD2 (by omega)
      exact sg_157_43 hL (by omega) (fun _ => ⟨rd_F_tr hF (rd_F_D hF3), rd_D_0le hD4, j, t2, by omega, rd_T_D hF3 hT2, Or.inl ⟨rfl, _, S2, hD4, by rw [List.length_append]; show c2.length + 1 + k ≤ j; omega, mc_bin2 hw2 (by rfl) (by omega) (by omega), ⟨hx2.1, hx2.2.1, fun q => by omega, fun q => by omega, fun q => by omega⟩, mc_K_tr hK hK2⟩⟩) (fun h => h ⟨by omega, by omega⟩)
    · refine sg_157_33 hL (by omega) ?_
      refine iv_call (want := 1) (y := 157) (pc := 40) (z := 162) (cls := 9) (sa := [(0, ((14 : Nat) : Int))]) (th := [(11, 184)]) (r := []) (d' := D - 1) (show iv_cck 1 157 40 162 = true by decide +kernel) (Or.inl ⟨rfl, _, rfl⟩) (show iv_mck 1 162 1 9 2 = true by decide +kernel) (show (0 : Nat) ≤ 8 by decide) (by omega) (iv_C_mono (rd_tok (t := 14) hL (by omega) (by omega) h02) (fun q μ3 hq => ?_))
      obtain ⟨rfl, hF3, h03, -⟩ := hq
      exact sg_157_43 hL (by omega) (fun _ => ⟨rd_F_tr hF (rd_F_D hF3), h03, j, t2, by omega, rd_T_D hF3 hT2, Or.inr ⟨rfl, hK _ _ hQ⟩⟩) (fun h => h ⟨by omega, by omega⟩)
  · have h14 : t = 14 := by omega
    subst h14
    exact ⟨rd_F_rfl μ, rd_D_0le hc, i, 14, Nat.le_refl i, hT, Or.inr ⟨rfl, mc_Q_end hT.2.2.1 (mc_opens_no (Or.inr ⟨rfl, rfl⟩) hm (by omega))⟩⟩
  · refine iv_call (want := 1) (y := 157) (pc := 11) (z := 158) (cls := 8) (sa := [(0, (dp : Int))]) (th := [(10, 182)]) (r := []) (d' := D - 1) (show iv_cck 1 157 11 158 = true by decide +kernel) (Or.inl ⟨rfl, _, rfl⟩) (show iv_mck 1 158 1 8 2 = true by decide +kernel) (show (0 : Nat) ≤ 8 by decide) (by omega) (iv_C_mono (hsub μ i t W 0 c k hT hc hck hm (fun q => by cases q) (fun _ _ => by omega) htp hdp) (fun q μ1 hq => ?_))
    obtain ⟨hF, h0, j, t1, hij, hT1, hq⟩ := hq
    rcases hq with ⟨rfl, c', S', hD', hk, hw, hx, hK⟩ | ⟨rfl, hQ⟩
    · exact sg_157_14 hL (by omega) (fun _ => ⟨hF, h0, j, t1, hij, hT1, Or.inl ⟨rfl, c', S', hD', hk, mc_wx_up hw (by omega), ⟨fun _ => hx.1 (by omega), fun _ => hx.2.1 (by omega), fun q => by omega, fun q => by omega, fun q => by omega⟩, hK⟩⟩) (fun h => h ⟨by omega, by omega⟩)
    · exact sg_157_14 hL (by omega) (fun _ => ⟨hF, h0, j, t1, hij, hT1, Or.inr ⟨rfl, hQ⟩⟩) (fun h => h ⟨by omega, by omega⟩)
theorem rd_and {D dp : Nat} (hL : L ≤ 3072) (hv : vz.category = 1) (hD : 70 ≤ D) (hsub : rd_L L xs vz b n (D - 1) 157 3 4 dp true) : rd_L L xs vz b n D 156 2 2 dp true := by
  intro μ i t W m c k hT hc hck hm hn1 hn htp hdp
  have h160 := hT.1.2.1
  have hdl : mc_dp W ≤ W.length := List.countP_le_length
  -- where it does not go on
  have bad : ∀ (l3 : Int) (j : Nat) (t' : Nat) (μ' : iv_M), 0 ≤ l3 → rd_F μ μ' → 0 ≤ μ' 184 3 → i ≤ j → rd_T b n μ' j t' → mc_Q b n i (W, m, c) none j → iv_G L xs vz D 156 8 [some (10, 182), some (0, (dp : Int)), some (0, 0), some (0, l3)] [] μ' (rd_O b n 2 i k W m c μ) := fun l3 j t' μ' hl hF h0 hij hT' hQ => by
    refine sg_156_8 hL (by omega) hl (fun _ _ => ⟨hF, h0, j, t', hij, hT', Or.inr ⟨rfl, hQ⟩⟩) (fun _ h => h ⟨by omega, by omega⟩) (fun _ _ => ⟨hF, h0, j, t', hij, hT', Or.inr ⟨rfl, hQ⟩⟩) (fun _ q => absurd rfl q) (fun _ q => absurd rfl q) (fun _ q => absurd rfl q)
  have lp : ∀ (m2 cnt j t' : Nat) (μ' : iv_M) (c' : List Int) (S' : mc_S), 160 ≤ cnt + m2 → cnt ≤ j → i ≤ j → rd_F μ μ' → rd_T b n μ' j t' → rd_D μ' c' → c'.length + k ≤ j → mc_wx 2 W c' S' → mc_xt 3 W S' t' → mc_K b n i (W, m, c) j S' → iv_G L xs vz D 156 8 [some (10, 182), some (0, (dp : Int)), some (0, 1), some (0, (cnt : Int))] [] μ' (rd_O b n 2 i k W m c μ) := by
    intro m2
    have stop : ∀ (j t' : Nat) (μ' : iv_M) (c' : List Int) (S' : mc_S), ¬ (t' = 13) → i ≤ j → rd_F μ μ' → rd_T b n μ' j t' → rd_D μ' c' → c'.length + k ≤ j → mc_wx 2 W c' S' → mc_xt 3 W S' t' → mc_K b n i (W, m, c) j S' → rd_O b n 2 i k W m c μ (some (0, 1)) μ' := fun j t' μ' c' S' hs hij hF hT' hD' hk hw hx hK => ⟨hF, rd_D_0le hD', j, t', hij, hT', Or.inl ⟨rfl, c', S', hD', hk, hw, ⟨fun _ => hx.1 (by omega), fun _ => hx.2.1 (by omega), fun q => by omega, fun _ => by omega, fun q => by omega⟩, hK⟩⟩
    induction m2 with
    | zero =>
      intro cnt j t' μ' c' S' h1 h2 hij hF hT' hD' hk hw hx hK
      have hs : ¬ (t' = 13) := fun q => by
        have := tk_adv hT'.2.1 hT'.2.2.1 (by omega)
        omega
      have e4 := hT'.2.2.2.2.1
      refine sg_156_8 hL (by omega) (by omega) (fun _ _ => stop j t' μ' c' S' hs hij hF hT' hD' hk hw hx hK) (fun _ h => h ⟨by omega, by omega⟩) (fun g => by exfalso; omega) (fun g => by exfalso; omega) (fun g => by exfalso; omega) (fun g => by exfalso; omega)
    | succ m2 ih =>
      intro cnt j t' μ' c' S' h1 h2 hij hF hT' hD' hk hw hx hK
      have e4 := hT'.2.2.2.2.1
      have h160' : (cnt : Int) ≥ 160 → ¬ (t' = 13) := fun g q => by
        have := tk_adv hT'.2.1 hT'.2.2.1 (by omega)
        omega
      have step : ∀ z : Nat, t' = z → (z = 13) → cnt < 160 → iv_G L xs vz D 156 29 [some (10, 182), some (0, (dp : Int)), some (0, 1), some (0, (cnt : Int))] [(10, 182)] μ' (rd_O b n 2 i k W m c μ) := fun z hz hzs hcnt => by
        subst hz
        have ha := tk_adv hT'.2.1 hT'.2.2.1 (by omega)
        have hr : mc_rk t' = 2 := by rw [hzs]; rfl
        have hb := mc_bin (v := tk_v b n j) hw hr (by omega) (by omega) htp (fun q => by omega)
        have hK1 := mc_K_step hK hT'.2.2.1 hb
        refine iv_call (want := 1) (y := 156) (pc := 29) (z := 133) (cls := 8) (sa := []) (th := [(10, 182)]) (r := []) (d' := D - 1) (show iv_cck 1 156 29 133 = true by decide +kernel) (Or.inl ⟨rfl, _, rfl⟩) (show iv_mck 1 133 0 8 1 = true by decide +kernel) (show (0 : Nat) ≤ 8 by decide) (by omega) (iv_C_mono (rd_T_next hL hv (by omega) hT') (fun q μ1 hq => ?_))
        obtain ⟨rfl, hF1, t1, hT1⟩ := hq
        refine sg_156_32 hL (by omega) ?_
        refine iv_call (want := 1) (y := 156) (pc := 34) (z := 157) (cls := 8) (sa := [(0, (dp : Int))]) (th := [(10, 182)]) (r := []) (d' := D - 1) (show iv_cck 1 156 34 157 = true by decide +kernel) (Or.inl ⟨rfl, _, rfl⟩) (show iv_mck 1 157 1 8 2 = true by decide +kernel) (show (0 : Nat) ≤ 8 by decide) (by omega) (iv_C_mono (hsub μ1 _ t1 (t' :: W) 0 c' (k + 1) hT1 (rd_D_0 hF1 hD') (by omega) (by omega) (fun q => rfl) (fun q q2 => by cases q) (mc_tp_cons (by omega)) (by rw [mc_dp_cons (by omega) (by omega), hdp])) (fun q μ2 hq => ?_))
        obtain ⟨hF2, h02, j2, t2, hij2, hT2, hq⟩ := hq
        have hF3 := rd_F_tr hF (rd_F_tr (rd_F_0 hF1) hF2)
        have ew : iv_w ((cnt : Int) + 1) = ((cnt + 1 : Nat) : Int) := by rw [iv_w_id (by omega) (by omega)]; omega
        rcases hq with ⟨rfl, c2, S2, hD2, hk2, hw2, hx2, hK2⟩ | ⟨rfl, hQ⟩
        · refine sg_156_37 hL (by omega) ?_
          refine iv_call (want := 1) (y := 156) (pc := 44) (z := 162) (cls := 9) (sa := [(0, ((13 : Nat) : Int))]) (th := [(11, 184)]) (r := []) (d' := D - 1) (show iv_cck 1 156 44 162 = true by decide +kernel) (Or.inl ⟨rfl, _, rfl⟩) (show iv_mck 1 162 1 9 2 = true by decide +kernel) (show (0 : Nat) ≤ 8 by decide) (by omega) (iv_C_mono (rd_tok (t := 13) hL (by omega) (by omega) h02) (fun q μ3 hq => ?_))
          obtain ⟨rfl, hF4, -, hD4⟩ := hq
          have hT3 := rd_T_D hF4 hT2
          have hj2 := hT2.2.1
          have hD5 := hD4 c2 hD2 (by omega)
          rw [← hzs] at hD5
          refine sg_156_47 hL (by omega) ?_
          rw [ew]
          exact (ih (cnt + 1) j2 t2 μ3 _ S2 (by omega) (by omega) (by omega) (rd_F_tr hF3 (rd_F_D hF4)) hT3 hD5 (by rw [List.length_append]; show c2.length + 1 + k ≤ j2; omega) (mc_bin2 hw2 hr (by omega) (by omega)) ⟨hx2.1, hx2.2.1, fun q => by omega, hx2.2.2.2.1, hx2.2.2.2.2⟩ (mc_K_tr hK1 hK2))
        · refine sg_156_37 hL (by omega) ?_
          refine iv_call (want := 1) (y := 156) (pc := 44) (z := 162) (cls := 9) (sa := [(0, ((13 : Nat) : Int))]) (th := [(11, 184)]) (r := []) (d' := D - 1) (show iv_cck 1 156 44 162 = true by decide +kernel) (Or.inl ⟨rfl, _, rfl⟩) (show iv_mck 1 162 1 9 2 = true by decide +kernel) (show (0 : Nat) ≤ 8 by decide) (by omega) (iv_C_mono (rd_tok (t := 13) hL (by omega) (by omega) h02) (fun q μ3 hq => ?_))
          obtain ⟨rfl, hF4, h04, -⟩ := hq
          refine sg_156_47 hL (by omega) ?_
          rw [ew]
          exact (bad _ j2 t2 μ3 (by omega) (rd_F_tr hF3 (rd_F_D hF4)) h04 (by omega) (rd_T_D hF4 hT2) (hK1 _ _ hQ))
      refine sg_156_8 hL (by omega) (by omega) (fun g _ => stop j t' μ' c' S' (h160' g) hij hF hT' hD' hk hw hx hK) (fun _ h => h ⟨by omega, by omega⟩) (fun _ q => by cases q) (fun g _ q _ => stop j t' μ' c' S' (by omega) hij hF hT' hD' hk hw hx hK) (fun _ _ _ h => h ⟨by omega, by omega⟩) (fun g _ q => step 13 (by omega) rfl (by omega))
  refine iv_C_of (sg_156_0 hL (by omega) ?_)
  refine iv_call (want := 1) (y := 156) (pc := 2) (z := 157) (cls := 8) (sa := [(0, (dp : Int))]) (th := [(10, 182)]) (r := []) (d' := D - 1) (show iv_cck 1 156 2 157 = true by decide +kernel) (Or.inl ⟨rfl, _, rfl⟩) (show iv_mck 1 157 1 8 2 = true by decide +kernel) (show (0 : Nat) ≤ 8 by decide) (by omega) (iv_C_mono (hsub μ i t W m c k hT hc hck hm hn1 hn (mc_tp_up htp (by omega)) hdp) (fun q μ1 hq => ?_))
  obtain ⟨hF, h0, j, t1, hij, hT1, hq⟩ := hq
  rcases hq with ⟨rfl, c', S', hD', hk, hw, hx, hK⟩ | ⟨rfl, hQ⟩
  · exact sg_156_5 hL (by omega) (lp 160 0 j t1 μ1 c' S' (by omega) (by omega) hij hF hT1 hD' hk (mc_wx_up hw (by omega)) hx hK)
  · exact sg_156_5 hL (by omega) (bad 0 j t1 μ1 (by omega) hF h0 hij hT1 hQ)
theorem rd_or {D dp : Nat} (hL : L ≤ 3072) (hv : vz.category = 1) (hD : 70 ≤ D) (hsub : rd_L L xs vz b n (D - 1) 156 2 2 dp true) : rd_L L xs vz b n D 155 1 1 dp true := by
  intro μ i t W m c k hT hc hck hm hn1 hn htp hdp
  have h160 := hT.1.2.1
  have hdl : mc_dp W ≤ W.length := List.countP_le_length
  -- where it does not go on
  have bad : ∀ (l3 : Int) (j : Nat) (t' : Nat) (μ' : iv_M), 0 ≤ l3 → rd_F μ μ' → 0 ≤ μ' 184 3 → i ≤ j → rd_T b n μ' j t' → mc_Q b n i (W, m, c) none j → iv_G L xs vz D 155 8 [some (10, 182), some (0, (dp : Int)), some (0, 0), some (0, l3)] [] μ' (rd_O b n 1 i k W m c μ) := fun l3 j t' μ' hl hF h0 hij hT' hQ => by
    refine sg_155_8 hL (by omega) hl (fun _ _ => ⟨hF, h0, j, t', hij, hT', Or.inr ⟨rfl, hQ⟩⟩) (fun _ h => h ⟨by omega, by omega⟩) (fun _ _ => ⟨hF, h0, j, t', hij, hT', Or.inr ⟨rfl, hQ⟩⟩) (fun _ q => absurd rfl q) (fun _ q => absurd rfl q) (fun _ q => absurd rfl q)
  have lp : ∀ (m2 cnt j t' : Nat) (μ' : iv_M) (c' : List Int) (S' : mc_S), 160 ≤ cnt + m2 → cnt ≤ j → i ≤ j → rd_F μ μ' → rd_T b n μ' j t' → rd_D μ' c' → c'.length + k ≤ j → mc_wx 1 W c' S' → mc_xt 2 W S' t' → mc_K b n i (W, m, c) j S' → iv_G L xs vz D 155 8 [some (10, 182), some (0, (dp : Int)), some (0, 1), some (0, (cnt : Int))] [] μ' (rd_O b n 1 i k W m c μ) := by
    intro m2
    have stop : ∀ (j t' : Nat) (μ' : iv_M) (c' : List Int) (S' : mc_S), ¬ (t' = 12) → i ≤ j → rd_F μ μ' → rd_T b n μ' j t' → rd_D μ' c' → c'.length + k ≤ j → mc_wx 1 W c' S' → mc_xt 2 W S' t' → mc_K b n i (W, m, c) j S' → rd_O b n 1 i k W m c μ (some (0, 1)) μ' := fun j t' μ' c' S' hs hij hF hT' hD' hk hw hx hK => ⟨hF, rd_D_0le hD', j, t', hij, hT', Or.inl ⟨rfl, c', S', hD', hk, hw, ⟨fun _ => hx.1 (by omega), fun _ => hx.2.1 (by omega), fun q => by omega, fun _ => hx.2.2.2.1 (by omega), fun _ => by omega⟩, hK⟩⟩
    induction m2 with
    | zero =>
      intro cnt j t' μ' c' S' h1 h2 hij hF hT' hD' hk hw hx hK
      have hs : ¬ (t' = 12) := fun q => by
        have := tk_adv hT'.2.1 hT'.2.2.1 (by omega)
        omega
      have e4 := hT'.2.2.2.2.1
      refine sg_155_8 hL (by omega) (by omega) (fun _ _ => stop j t' μ' c' S' hs hij hF hT' hD' hk hw hx hK) (fun _ h => h ⟨by omega, by omega⟩) (fun g => by exfalso; omega) (fun g => by exfalso; omega) (fun g => by exfalso; omega) (fun g => by exfalso; omega)
    | succ m2 ih =>
      intro cnt j t' μ' c' S' h1 h2 hij hF hT' hD' hk hw hx hK
      have e4 := hT'.2.2.2.2.1
      have h160' : (cnt : Int) ≥ 160 → ¬ (t' = 12) := fun g q => by
        have := tk_adv hT'.2.1 hT'.2.2.1 (by omega)
        omega
      have step : ∀ z : Nat, t' = z → (z = 12) → cnt < 160 → iv_G L xs vz D 155 29 [some (10, 182), some (0, (dp : Int)), some (0, 1), some (0, (cnt : Int))] [(10, 182)] μ' (rd_O b n 1 i k W m c μ) := fun z hz hzs hcnt => by
        subst hz
        have ha := tk_adv hT'.2.1 hT'.2.2.1 (by omega)
        have hr : mc_rk t' = 1 := by rw [hzs]; rfl
        have hb := mc_bin (v := tk_v b n j) hw hr (by omega) (by omega) htp (fun q => by omega)
        have hK1 := mc_K_step hK hT'.2.2.1 hb
        refine iv_call (want := 1) (y := 155) (pc := 29) (z := 133) (cls := 8) (sa := []) (th := [(10, 182)]) (r := []) (d' := D - 1) (show iv_cck 1 155 29 133 = true by decide +kernel) (Or.inl ⟨rfl, _, rfl⟩) (show iv_mck 1 133 0 8 1 = true by decide +kernel) (show (0 : Nat) ≤ 8 by decide) (by omega) (iv_C_mono (rd_T_next hL hv (by omega) hT') (fun q μ1 hq => ?_))
        obtain ⟨rfl, hF1, t1, hT1⟩ := hq
        refine sg_155_32 hL (by omega) ?_
        refine iv_call (want := 1) (y := 155) (pc := 34) (z := 156) (cls := 8) (sa := [(0, (dp : Int))]) (th := [(10, 182)]) (r := []) (d' := D - 1) (show iv_cck 1 155 34 156 = true by decide +kernel) (Or.inl ⟨rfl, _, rfl⟩) (show iv_mck 1 156 1 8 2 = true by decide +kernel) (show (0 : Nat) ≤ 8 by decide) (by omega) (iv_C_mono (hsub μ1 _ t1 (t' :: W) 0 c' (k + 1) hT1 (rd_D_0 hF1 hD') (by omega) (by omega) (fun q => rfl) (fun q q2 => by cases q) (mc_tp_cons (by omega)) (by rw [mc_dp_cons (by omega) (by omega), hdp])) (fun q μ2 hq => ?_))
        obtain ⟨hF2, h02, j2, t2, hij2, hT2, hq⟩ := hq
        have hF3 := rd_F_tr hF (rd_F_tr (rd_F_0 hF1) hF2)
        have ew : iv_w ((cnt : Int) + 1) = ((cnt + 1 : Nat) : Int) := by rw [iv_w_id (by omega) (by omega)]; omega
        rcases hq with ⟨rfl, c2, S2, hD2, hk2, hw2, hx2, hK2⟩ | ⟨rfl, hQ⟩
        · refine sg_155_37 hL (by omega) ?_
          refine iv_call (want := 1) (y := 155) (pc := 44) (z := 162) (cls := 9) (sa := [(0, ((12 : Nat) : Int))]) (th := [(11, 184)]) (r := []) (d' := D - 1) (show iv_cck 1 155 44 162 = true by decide +kernel) (Or.inl ⟨rfl, _, rfl⟩) (show iv_mck 1 162 1 9 2 = true by decide +kernel) (show (0 : Nat) ≤ 8 by decide) (by omega) (iv_C_mono (rd_tok (t := 12) hL (by omega) (by omega) h02) (fun q μ3 hq => ?_))
          obtain ⟨rfl, hF4, -, hD4⟩ := hq
          have hT3 := rd_T_D hF4 hT2
          have hj2 := hT2.2.1
          have hD5 := hD4 c2 hD2 (by omega)
          rw [← hzs] at hD5
          refine sg_155_47 hL (by omega) ?_
          rw [ew]
          exact (ih (cnt + 1) j2 t2 μ3 _ S2 (by omega) (by omega) (by omega) (rd_F_tr hF3 (rd_F_D hF4)) hT3 hD5 (by rw [List.length_append]; show c2.length + 1 + k ≤ j2; omega) (mc_bin2 hw2 hr (by omega) (by omega)) ⟨hx2.1, hx2.2.1, fun q => by omega, hx2.2.2.2.1, hx2.2.2.2.2⟩ (mc_K_tr hK1 hK2))
        · refine sg_155_37 hL (by omega) ?_
          refine iv_call (want := 1) (y := 155) (pc := 44) (z := 162) (cls := 9) (sa := [(0, ((12 : Nat) : Int))]) (th := [(11, 184)]) (r := []) (d' := D - 1) (show iv_cck 1 155 44 162 = true by decide +kernel) (Or.inl ⟨rfl, _, rfl⟩) (show iv_mck 1 162 1 9 2 = true by decide +kernel) (show (0 : Nat) ≤ 8 by decide) (by omega) (iv_C_mono (rd_tok (t := 12) hL (by omega) (by omega) h02) (fun q μ3 hq => ?_))
          obtain ⟨rfl, hF4, h04, -⟩ := hq
          refine sg_155_47 hL (by omega) ?_
          rw [ew]
          exact (bad _ j2 t2 μ3 (by omega) (rd_F_tr hF3 (rd_F_D hF4)) h04 (by omega) (rd_T_D hF4 hT2) (hK1 _ _ hQ))
      refine sg_155_8 hL (by omega) (by omega) (fun g _ => stop j t' μ' c' S' (h160' g) hij hF hT' hD' hk hw hx hK) (fun _ h => h ⟨by omega, by omega⟩) (fun _ q => by cases q) (fun g _ q _ => stop j t' μ' c' S' (by omega) hij hF hT' hD' hk hw hx hK) (fun _ _ _ h => h ⟨by omega, by omega⟩) (fun g _ q => step 12 (by omega) rfl (by omega))
  refine iv_C_of (sg_155_0 hL (by omega) ?_)
  refine iv_call (want := 1) (y := 155) (pc := 2) (z := 156) (cls := 8) (sa := [(0, (dp : Int))]) (th := [(10, 182)]) (r := []) (d' := D - 1) (show iv_cck 1 155 2 156 = true by decide +kernel) (Or.inl ⟨rfl, _, rfl⟩) (show iv_mck 1 156 1 8 2 = true by decide +kernel) (show (0 : Nat) ≤ 8 by decide) (by omega) (iv_C_mono (hsub μ i t W m c k hT hc hck hm hn1 hn (mc_tp_up htp (by omega)) hdp) (fun q μ1 hq => ?_))
  obtain ⟨hF, h0, j, t1, hij, hT1, hq⟩ := hq
  rcases hq with ⟨rfl, c', S', hD', hk, hw, hx, hK⟩ | ⟨rfl, hQ⟩
  · exact sg_155_5 hL (by omega) (lp 160 0 j t1 μ1 c' S' (by omega) (by omega) hij hF hT1 hD' hk (mc_wx_up hw (by omega)) hx hK)
  · exact sg_155_5 hL (by omega) (bad 0 j t1 μ1 (by omega) hF h0 hij hT1 hQ)
/-- an expression, at every depth -/
theorem rd_all (hL : L ≤ 3072) (hv : vz.category = 1) : ∀ (e dp : Nat), dp + e = 4 → rd_L L xs vz b n (80 + 10 * e) 155 1 1 dp true ∧ rd_L L xs vz b n (80 + 10 * e) 157 3 4 dp true := by
  intro e
  induction e with
  | zero =>
    intro dp hdp
    have h1 := rd_one (L := L) (xs := xs) (vz := vz) (b := b) (n := n) (D := 74) (dp := dp) hL hv (by omega) (fun q => by omega)
    have h2 := rd_sum (D := 75) hL hv (by omega) h1
    have h3 := rd_cmp (D := 76) hL hv (by omega) h2
    have h4 := rd_not (D := 77) hL hv (by omega) h3 (fun q => by omega)
    have h5 := rd_and (D := 78) hL hv (by omega) h4
    have h6 := rd_or (D := 79) hL hv (by omega) h5
    exact ⟨rd_L_le h6 (by omega), rd_L_le h4 (by omega)⟩
  | succ e ih =>
    intro dp hdp
    obtain ⟨i1, i2⟩ := ih (dp + 1) (by omega)
    have h1 := rd_one (L := L) (xs := xs) (vz := vz) (b := b) (n := n) (D := 84 + 10 * e) (dp := dp) hL hv (by omega) (fun q => rd_L_le i1 (by omega))
    have h2 := rd_sum (D := 85 + 10 * e) hL hv (by omega) (rd_L_le h1 (by omega))
    have h3 := rd_cmp (D := 86 + 10 * e) hL hv (by omega) (rd_L_le h2 (by omega))
    have h4 := rd_not (D := 87 + 10 * e) hL hv (by omega) (rd_L_le h3 (by omega)) (fun q => rd_L_le i2 (by omega))
    have h5 := rd_and (D := 88 + 10 * e) hL hv (by omega) (rd_L_le h4 (by omega))
    have h6 := rd_or (D := 89 + 10 * e) hL hv (by omega) (rd_L_le h5 (by omega))
    exact ⟨rd_L_le h6 (by omega), rd_L_le h4 (by omega)⟩
end RDL
