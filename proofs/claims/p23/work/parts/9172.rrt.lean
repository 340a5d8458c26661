/-! ===== the reference's reader: tokens ===== -/
def rr_f (t : Nat) : Int := if t < 15 then (t : Int) + 1 else if t = 15 then 50 else if t = 16 then 140 else if t = 17 then 141 else if t = 18 then 159 else if t = 19 then 143 else if t = 20 then 145 else if t = 21 then 160 else if t = 22 then 161 else if t = 23 then 0 else 60
theorem rr_fc (t : Nat) : (t < 15 ∧ rr_f t = (t : Int) + 1) ∨ (t = 15 ∧ rr_f t = 50) ∨ (t = 16 ∧ rr_f t = 140) ∨ (t = 17 ∧ rr_f t = 141) ∨ (t = 18 ∧ rr_f t = 159) ∨ (t = 19 ∧ rr_f t = 143) ∨ (t = 20 ∧ rr_f t = 145) ∨ (t = 21 ∧ rr_f t = 160) ∨ (t = 22 ∧ rr_f t = 161) ∨ (t = 23 ∧ rr_f t = 0) ∨ (23 < t ∧ rr_f t = 60) := by
  unfold rr_f
  repeat' split
  all_goals omega
def rr_begs : List Int := [0, 5, 9, 17, 20, 23, 28, 33, 36, 40, 43, 46, 51, 53, 56, 59]
def rr_lets : List Int := tk_words.flatten
/-- the tape; the words' letters -/
def rr_B (b : Nat → Int) (n : Nat) (μ : iv_M) : Prop := μ 195 6 = (n : Int) ∧ n ≤ 160 ∧ (∀ k : Nat, k < n → iv_and (μ 199 (k : Int)) 255 = b k) ∧ (∀ k : Nat, k < 59 → μ 200 (k : Int) = rr_lets.getD k 0) ∧ (∀ k : Nat, k < 16 → μ 201 (k : Int) = rr_begs.getD k 0)
def rr_F0 (μ μ' : iv_M) : Prop := ∀ p k : Int, p ≠ 195 ∨ (k ≠ 12 ∧ k ≠ 13 ∧ k ≠ 14 ∧ k ≠ 15) → μ' p k = μ p k
def rr_A (μ0 μ : iv_M) (B E N V : Int) : Prop := rr_F0 μ0 μ ∧ μ 195 12 = B ∧ μ 195 13 = E ∧ μ 195 14 = N ∧ μ 195 15 = V
theorem rr_A0 (μ : iv_M) : rr_A μ μ (μ 195 12) (μ 195 13) (μ 195 14) (μ 195 15) := ⟨fun _ _ _ => rfl, rfl, rfl, rfl, rfl⟩
theorem rr_F0_B {b : Nat → Int} {n : Nat} {μ μ' : iv_M} (h : rr_F0 μ μ') (hB : rr_B b n μ) : rr_B b n μ' := ⟨(h _ _ (Or.inr (by decide))).trans hB.1, hB.2.1, fun k hk => by rw [h _ _ (Or.inl (by decide))]; exact hB.2.2.1 k hk, fun k hk => (h _ _ (Or.inl (by decide))).trans (hB.2.2.2.1 k hk), fun k hk => (h _ _ (Or.inl (by decide))).trans (hB.2.2.2.2 k hk)⟩
section RRA
variable {μ0 μ : iv_M} {B E N V : Int}
theorem rr_A12 (h : rr_A μ0 μ B E N V) (x : Int) : rr_A μ0 (iv_upd μ 195 12 x) x E N V := ⟨fun p k q => (iv_upd_ne _ _ (by omega)).trans (h.1 p k q), iv_upd_same _ _ _ _, (iv_upd_ne _ _ (by decide)).trans h.2.2.1, (iv_upd_ne _ _ (by decide)).trans h.2.2.2.1, (iv_upd_ne _ _ (by decide)).trans h.2.2.2.2⟩
theorem rr_A13 (h : rr_A μ0 μ B E N V) (x : Int) : rr_A μ0 (iv_upd μ 195 13 x) B x N V := ⟨fun p k q => (iv_upd_ne _ _ (by omega)).trans (h.1 p k q), (iv_upd_ne _ _ (by decide)).trans h.2.1, iv_upd_same _ _ _ _, (iv_upd_ne _ _ (by decide)).trans h.2.2.2.1, (iv_upd_ne _ _ (by decide)).trans h.2.2.2.2⟩
theorem rr_A14 (h : rr_A μ0 μ B E N V) (x : Int) : rr_A μ0 (iv_upd μ 195 14 x) B E x V := ⟨fun p k q => (iv_upd_ne _ _ (by omega)).trans (h.1 p k q), (iv_upd_ne _ _ (by decide)).trans h.2.1, (iv_upd_ne _ _ (by decide)).trans h.2.2.1, iv_upd_same _ _ _ _, (iv_upd_ne _ _ (by decide)).trans h.2.2.2.2⟩
theorem rr_A15 (h : rr_A μ0 μ B E N V) (x : Int) : rr_A μ0 (iv_upd μ 195 15 x) B E N x := ⟨fun p k q => (iv_upd_ne _ _ (by omega)).trans (h.1 p k q), (iv_upd_ne _ _ (by decide)).trans h.2.1, (iv_upd_ne _ _ (by decide)).trans h.2.2.1, (iv_upd_ne _ _ (by decide)).trans h.2.2.2.1, iv_upd_same _ _ _ _⟩
end RRA
theorem rr_255 (x : Int) : 0 ≤ iv_and x 255 ∧ iv_and x 255 ≤ 255 := by
  have h : (Int32.ofInt x &&& Int32.ofInt 255).toBitVec = (Int32.ofInt x).toBitVec &&& 255#32 := rfl
  have h2 : ((Int32.ofInt x).toBitVec &&& 255#32).toNat ≤ 255 := by
    rw [BitVec.toNat_and]
    exact Nat.and_le_right
  unfold iv_and
  have h3 := ib_bv (x := Int32.ofInt x &&& Int32.ofInt 255) (n := ((Int32.ofInt x).toBitVec &&& 255#32).toNat) (by rw [h, BitVec.ofNat_toNat, BitVec.setWidth_eq]) (by omega)
  rw [h3]
  omega
section RRT
variable {L : Nat} {xs : Nat → Int32} {vz : Value} {b : Nat → Int} {n : Nat}
theorem rr_pos {μ : iv_M} (hB : rr_B b n μ) {k : Nat} (hk : k < n) : 0 ≤ b k := by
  rw [← hB.2.2.1 k hk]
  exact (rr_255 _).1
theorem rr_byte {d : Nat} {μ : iv_M} (hL : L ≤ 3072) (hd : 6 ≤ d) (hB : rr_B b n μ) (i : Nat) : iv_C L xs vz d 290 [(14, 195), (0, (i : Int))] μ (fun q μ' => μ' = μ ∧ q = some (0, if i < n then b i else -1)) := by
  obtain ⟨h1, h2, h3, -⟩ := hB
  refine iv_C_of (sg_290_0 hL hd (by omega) (by omega) (fun h => ⟨rfl, ?_⟩) (fun h g => ⟨rfl, ?_⟩) (fun h g => g ⟨by omega, by omega⟩))
  · rw [if_neg (by omega)]
  · rw [if_pos (by omega), h3 i (by omega)]
theorem rr_let {d : Nat} {μ : iv_M} (hL : L ≤ 3072) (hd : 6 ≤ d) (x : Int) : iv_C L xs vz d 291 [(0, x)] μ (fun q μ' => μ' = μ ∧ q = some (0, if tk_L x = true then 1 else 0)) := by
  refine iv_C_of (sg_291_0 hL hd (fun h => ⟨rfl, ?_⟩) (fun h g => ⟨rfl, ?_⟩) (fun h g => ⟨rfl, ?_⟩))
  · rw [if_neg (by unfold tk_L; rw [decide_eq_true_eq]; omega)]
  · rw [if_neg (by unfold tk_L; rw [decide_eq_true_eq]; omega)]
  · rw [if_pos (by unfold tk_L; rw [decide_eq_true_eq]; omega)]
theorem rr_dig {d : Nat} {μ : iv_M} (hL : L ≤ 3072) (hd : 6 ≤ d) (x : Int) : iv_C L xs vz d 293 [(0, x)] μ (fun q μ' => μ' = μ ∧ q = some (0, if tk_D x = true then 1 else 0)) := by
  refine iv_C_of (sg_293_0 hL hd (fun h => ⟨rfl, ?_⟩) (fun h g => ⟨rfl, ?_⟩) (fun h g => ⟨rfl, ?_⟩))
  · rw [if_neg (by unfold tk_D; rw [decide_eq_true_eq]; omega)]
  · rw [if_neg (by unfold tk_D; rw [decide_eq_true_eq]; omega)]
  · rw [if_pos (by unfold tk_D; rw [decide_eq_true_eq]; omega)]
theorem rr_sig {d : Nat} {μ : iv_M} (hL : L ≤ 3072) (hd : 6 ≤ d) (x : Int) : iv_C L xs vz d 294 [(0, x)] μ (fun q μ' => μ' = μ ∧ ((q = some (0, 0) ∧ rr_f (tk_sg x) = 60) ∨ (q = some (0, 1) ∧ rr_f (tk_sg x) = 100 + x))) := by
  refine iv_C_of (sg_294_0 hL hd ?_ ?_ ?_ ?_ ?_ ?_ ?_ ?_)
  all_goals intros
  all_goals refine ⟨rfl, ?_⟩
  all_goals first | (refine Or.inr ⟨rfl, ?_⟩; subst_vars; rfl) | skip
  refine Or.inl ⟨rfl, ?_⟩
  unfold tk_sg
  rw [if_neg (by omega), if_neg (by omega), if_neg (by omega), if_neg (by omega), if_neg (by omega), if_neg (by omega), if_neg (by omega)]
  rfl
theorem rr_tab : ∀ w : Nat, w < 15 → rr_begs.getD (w + 1) 0 - rr_begs.getD w 0 = ((tk_words.getD w []).length : Int) ∧ 0 ≤ rr_begs.getD w 0 ∧ rr_begs.getD (w + 1) 0 ≤ 59 ∧ ∀ k : Nat, k < 8 → k < (tk_words.getD w []).length → rr_lets.getD ((rr_begs.getD w 0).toNat + k) 0 = (tk_words.getD w []).getD k 0 := by decide +kernel
theorem rr_wrd {d : Nat} {μ : iv_M} (hL : L ≤ 3072) (hd : 20 ≤ d) (hB : rr_B b n μ) {s e : Nat} (hse : s ≤ e) (hen : e ≤ n) (h12 : μ 195 12 = (s : Int)) (h13 : μ 195 13 = (e : Int)) : iv_C L xs vz d 292 [(14, 195)] μ (fun q μ' => μ' = μ ∧ ∃ t : Nat, tk_wd b s (e - s) t ∧ q = some (0, rr_f t)) := by
  have hn := hB.2.1
  have hwl : ∀ w, w < 15 → tk_words[w]? = some (tk_words.getD w []) := fun w hw => by
    have : w < tk_words.length := hw
    rw [List.getD_eq_getElem?_getD, List.getElem?_eq_getElem this]
    rfl
  have lp : ∀ (m w : Nat), 15 ≤ w + m → w ≤ 15 → (∀ x, x < w → ¬ tk_is b s (e - s) x) → iv_G L xs vz d 292 2 [some (14, 195), some (0, (w : Int)), none, none] [] μ (fun q μ' => μ' = μ ∧ ∃ t : Nat, tk_wd b s (e - s) t ∧ q = some (0, rr_f t)) := by
    intro m
    have fin : ∀ w : Nat, (w : Int) ≥ 15 → w ≤ 15 → (∀ x, x < w → ¬ tk_is b s (e - s) x) → μ = μ ∧ ∃ t : Nat, tk_wd b s (e - s) t ∧ (some (0, 60) : Option iv_Z) = some (0, rr_f t) := fun w h1 h2 h3 => ⟨rfl, 24, Or.inr ⟨rfl, fun x hx => by
      rcases Nat.lt_or_ge x 15 with g | g
      · exact h3 x (by omega) hx
      · obtain ⟨u, g1, -⟩ := hx
        have : x < 15 := (List.getElem?_eq_some_iff.mp g1).1
        omega⟩, rfl⟩
    induction m with
    | zero =>
      intro w h1 h2 h3
      exact sg_292_2 hL (by omega) (by omega) (fun q => fin w q h2 h3) (fun q => by exfalso; omega) (fun q => by exfalso; omega)
    | succ m ih =>
      intro w h1 h2 h3
      have ew : iv_w ((w : Int) + 1) = ((w + 1 : Nat) : Int) := by rw [iv_w_id (by omega) (by omega)]; omega
      have no : ∀ (x y : Int), w < 15 → ¬ tk_is b s (e - s) w → iv_G L xs vz d 292 2 [some (14, 195), some (0, iv_w ((w : Int) + 1)), some (0, x), some (0, y)] [] μ (fun q μ' => μ' = μ ∧ ∃ t : Nat, tk_wd b s (e - s) t ∧ q = some (0, rr_f t)) := fun x y hw hno => by
        rw [ew]
        refine iv_wk (ih (w + 1) (by omega) (by omega) (fun z hz hz2 => ?_)) ⟨Or.inr rfl, Or.inr rfl, Or.inl rfl, Or.inl rfl, trivial⟩
        by_cases ez : z = w
        · rw [ez] at hz2; exact hno hz2
        · exact h3 z (by omega) hz2
      -- it does not stand there: to the end
      have bad : ∀ y : Nat, w < 15 → ¬ tk_is b s (e - s) w → iv_G L xs vz d 292 46 [some (14, 195), some (0, (w : Int)), some (0, 0), some (0, (y : Int))] [] μ (fun q μ' => μ' = μ ∧ ∃ t : Nat, tk_wd b s (e - s) t ∧ q = some (0, rr_f t)) := fun y hw hno => by
        exact sg_292_46 hL (by omega) (by omega) (fun _ _ => no _ _ hw hno) (fun _ q => absurd rfl q) (fun _ _ => no _ _ hw hno) (fun _ q => absurd rfl q)
      have in2 : ∀ (m2 k : Nat), w < 15 → (tk_words.getD w []).length = e - s → e ≤ s + k + m2 → s + k ≤ e → (∀ j : Nat, j < k → b (s + j) = (tk_words.getD w []).getD j 0) → iv_G L xs vz d 292 46 [some (14, 195), some (0, (w : Int)), some (0, 1), some (0, ((s + k : Nat) : Int))] [] μ (fun q μ' => μ' = μ ∧ ∃ t : Nat, tk_wd b s (e - s) t ∧ q = some (0, rr_f t)) := by
        intro m2
        have yes : ∀ k : Nat, w < 15 → (tk_words.getD w []).length = e - s → e ≤ s + k → (∀ j : Nat, j < k → b (s + j) = (tk_words.getD w []).getD j 0) → μ = μ ∧ ∃ t : Nat, tk_wd b s (e - s) t ∧ (some (0, iv_w ((w : Int) + 1)) : Option iv_Z) = some (0, rr_f t) := fun k hw hl hk hj => ⟨rfl, w, Or.inl ⟨hw, _, hwl w hw, hl, fun j h => hj j (by omega)⟩, by rw [ew]; unfold rr_f; rw [if_pos hw]; rfl⟩
        induction m2 with
        | zero =>
          intro k hw hl h4 h5 hj
          exact sg_292_46 hL (by omega) (by omega) (fun _ q => by cases q) (fun _ _ => yes k hw hl (by omega) hj) (fun q => by exfalso; omega) (fun q => by exfalso; omega)
        | succ m2 ih2 =>
          intro k hw hl h4 h5 hj
          refine sg_292_46 hL (by omega) (by omega) (fun _ q => by cases q) (fun q _ => yes k hw hl (by omega) hj) (fun _ q => by cases q) (fun q _ => ?_)
          have hke : s + k < e := by omega
          refine iv_call (want := 1) (y := 292) (pc := 60) (z := 290) (cls := 12) (sa := [(0, ((s + k : Nat) : Int))]) (th := [(14, 195)]) (r := []) (d' := d - 1) (show iv_cck 1 292 60 290 = true by decide +kernel) (Or.inl ⟨rfl, _, rfl⟩) (show iv_mck 1 290 1 12 2 = true by decide +kernel) (show (0 : Nat) ≤ 8 by decide) (by omega) (iv_C_mono (rr_byte hL (by omega) hB (s + k)) (fun q μ' hq => ?_))
          obtain ⟨rfl, rfl⟩ := hq
          rw [if_pos (by omega)]
          obtain ⟨t1, t2, t3, t4⟩ := rr_tab w hw
          have h8 := rd_wln hw
          have e1 := hB.2.2.2.2 w (by omega)
          have ei : iv_w (iv_w ((μ' 201 (w : Int)) + ((s + k : Nat) : Int)) - (μ' 195 12)) = (((rr_begs.getD w 0).toNat + k : Nat) : Int) := by
            rw [e1, h12, iv_w_id (x := rr_begs.getD w 0 + ((s + k : Nat) : Int)) (by omega) (by omega), iv_w_id (by omega) (by omega)]
            omega
          have e2 := hB.2.2.2.1 ((rr_begs.getD w 0).toNat + k) (by omega)
          rw [t4 k (by omega) (by omega)] at e2
          have es : iv_w (((s + k : Nat) : Int) + 1) = ((s + k + 1 : Nat) : Int) := by rw [iv_w_id (by omega) (by omega)]; omega
          refine sg_292_63 hL (by omega) (fun _ _ g => ?_) (fun _ _ g => ?_) (fun _ g => ?_) (fun g => g ⟨by omega, by omega⟩)
          · rw [ei, e2] at g
            rw [es]
            refine bad _ hw ?_
            rintro ⟨u, g1, g2, g3⟩
            rw [hwl w hw] at g1
            cases g1
            exact g (g3 k (by omega))
          · rw [ei, e2] at g
            rw [es]
            refine ih2 (k + 1) hw hl (by omega) (by omega) (fun j hj2 => ?_)
            by_cases ej : j = k
            · rw [ej]; exact g
            · exact hj j (by omega)
          · rw [ei] at g
            exact g ⟨by omega, by omega⟩
      have el : w < 15 → iv_w ((μ 201 ((w : Int) + 1)) - (μ 201 (w : Int))) = ((tk_words.getD w []).length : Int) := fun hw => by
        obtain ⟨t1, t2, t3, t4⟩ := rr_tab w hw
        have h8 := rd_wln hw
        have e1 := hB.2.2.2.2 w (by omega)
        have e2 := hB.2.2.2.2 (w + 1) (by omega)
        rw [show ((w : Int) + 1) = ((w + 1 : Nat) : Int) by omega, e1, e2, t1, iv_w_id (by omega) (by omega)]
      have ee : iv_w ((μ 195 13) - (μ 195 12)) = ((e - s : Nat) : Int) := by rw [h12, h13, iv_w_id (by omega) (by omega)]; omega
      refine sg_292_2 hL (by omega) (by omega) (fun q => fin w q h2 h3) (fun q g => ?_) (fun q g => ?_)
      · rw [el (by omega), ee] at g
        rw [h12]
        refine bad s (by omega) ?_
        rintro ⟨u, g1, g2, g3⟩
        rw [hwl w (by omega)] at g1
        cases g1
        omega
      · rw [el (by omega), ee] at g
        rw [h12]
        exact in2 (e - s) 0 (by omega) (by omega) (by omega) (by omega) (fun j hj => absurd hj (Nat.not_lt_zero j))
  exact iv_C_of (sg_292_0 hL (by omega) (lp 15 0 (by omega) (by omega) (fun x hx => absurd hx (Nat.not_lt_zero x))))
/-- the token at hand, read on from i -/
def rr_T (b : Nat → Int) (n : Nat) (μ : iv_M) (i t : Nat) : Prop := rr_B b n μ ∧ i ≤ n ∧ tk_t b n i t ∧ μ 195 13 = (tk_e b n i : Int) ∧ μ 195 14 = rr_f t ∧ μ 195 12 = (tk_s b n i : Int) ∧ (t = 15 → μ 195 15 = tk_v b n i)
theorem rr_looks {d : Nat} {μ : iv_M} (hL : L ≤ 3072) (hd : 30 ≤ d) (hB : rr_B b n μ) {i : Nat} (hi : i ≤ n) (h13 : μ 195 13 = (i : Int)) : iv_C L xs vz d 289 [(14, 195)] μ (fun q μ' => q = none ∧ rr_F0 μ μ' ∧ ∃ t : Nat, rr_T b n μ' i t) := by
  have hn := hB.2.1
  have hbd := tk_rn_bd (n := n) (p := fun k => decide (b k = 32)) _ i rfl
  have hsn : tk_s b n i ≤ n := hbd.2.1 hi
  have hX : ∀ (μ' : iv_M) (B E N V : Int) (T : Nat), rr_A μ μ' B E N V → B = (tk_s b n i : Int) → E = (tk_e b n i : Int) → N = rr_f T → tk_t b n i T → (T = 15 → V = tk_v b n i) → (none : Option iv_Z) = none ∧ rr_F0 μ μ' ∧ ∃ t : Nat, rr_T b n μ' i t := fun μ' B E N V T hA hb he hN hT hv => ⟨rfl, hA.1, T, rr_F0_B hA.1 hB, hi, hT, hA.2.2.1.trans he, hA.2.2.2.1.trans hN, hA.2.1.trans hb, fun q => hA.2.2.2.2.trans (hv q)⟩
  let PP : iv_P := fun q μ' => q = none ∧ rr_F0 μ μ' ∧ ∃ t : Nat, rr_T b n μ' i t
  -- a word
  have word : ∀ (m j : Nat) (μ1 : iv_M) (l1 N V : Int), n ≤ j + m → tk_s b n i ≤ j → j ≤ n → tk_s b n i < n → tk_L (b (tk_s b n i)) = true → tk_rn n (fun k => tk_L (b k)) j = tk_rn n (fun k => tk_L (b k)) (tk_s b n i) → rr_A μ μ1 (tk_s b n i : Int) (j : Int) N V → iv_G L xs vz d 289 70 [some (14, 195), some (0, l1)] [] μ1 PP := by
    intro m
    have out : ∀ (j : Nat) (μ1 : iv_M) (l1 N V : Int), (j < n → tk_L (b j) = false) → tk_s b n i ≤ j → j ≤ n → tk_s b n i < n → tk_L (b (tk_s b n i)) = true → tk_rn n (fun k => tk_L (b k)) j = tk_rn n (fun k => tk_L (b k)) (tk_s b n i) → rr_A μ μ1 (tk_s b n i : Int) (j : Int) N V → iv_G L xs vz d 289 99 [some (14, 195), some (0, l1)] [(14, 195), (14, 195)] μ1 PP := fun j μ1 l1 N V h1 h2 h3 h4 h5 h6 hA => by
      rw [tk_rn_f h1] at h6
      have hB1 := rr_F0_B hA.1 hB
      refine iv_call (want := 1) (y := 289) (pc := 99) (z := 292) (cls := 12) (sa := []) (th := [(14, 195)]) (r := [(14, 195)]) (d' := d - 1) (show iv_cck 1 289 99 292 = true by decide +kernel) (Or.inl ⟨rfl, _, rfl⟩) (show iv_mck 1 292 0 12 1 = true by decide +kernel) (show (1 : Nat) ≤ 8 by decide) (by omega) (iv_C_mono (rr_wrd hL (by omega) hB1 h2 h3 hA.2.1 hA.2.2.1) (fun q μ' hq => ?_))
      obtain ⟨rfl, t, ht, rfl⟩ := hq
      have ee : tk_e b n i = j := by
        unfold tk_e
        rw [if_neg (by omega), if_pos h5, ← h6]
      refine sg_289_102 hL (by omega) (hX _ _ _ _ _ t (rr_A14 hA _) rfl (by rw [ee]) rfl ?_ ?_)
      · unfold tk_t
        rw [if_neg (by omega), if_pos h5, ee]
        exact ht
      · intro h15
        rcases ht with ⟨a, -⟩ | ⟨a, -⟩ <;> omega
    induction m with
    | zero =>
      intro j μ1 l1 N V h1 h2 h3 h4 h5 h6 hA
      refine sg_289_70 hL (by omega) ?_
      rw [hA.2.2.1]
      refine iv_call (want := 1) (y := 289) (pc := 75) (z := 290) (cls := 12) (sa := [(0, (j : Int))]) (th := [(14, 195)]) (r := []) (d' := d - 1) (show iv_cck 1 289 75 290 = true by decide +kernel) (Or.inl ⟨rfl, _, rfl⟩) (show iv_mck 1 290 1 12 2 = true by decide +kernel) (show (0 : Nat) ≤ 8 by decide) (by omega) (iv_C_mono (rr_byte hL (by omega) (rr_F0_B hA.1 hB) j) (fun q μ' hq => ?_))
      obtain ⟨rfl, rfl⟩ := hq
      rw [if_neg (by omega)]
      refine iv_call (want := 0) (y := 289) (pc := 78) (z := 291) (cls := 0) (sa := [(0, -1)]) (th := []) (r := []) (d' := d - 1) (show iv_cck 0 289 78 291 = true by decide +kernel) (Or.inr ⟨rfl, rfl⟩) (show iv_mck 0 291 1 0 1 = true by decide +kernel) (show (0 : Nat) ≤ 8 by decide) (by omega) (iv_C_mono (rr_let hL (by omega) _) (fun q μ' hq => ?_))
      obtain ⟨rfl, rfl⟩ := hq
      exact sg_289_81 hL (by omega) (fun _ => out j _ l1 N V (fun q => by omega) h2 h3 h4 h5 h6 hA) (fun q => absurd rfl q)
    | succ m ih =>
      intro j μ1 l1 N V h1 h2 h3 h4 h5 h6 hA
      refine sg_289_70 hL (by omega) ?_
      rw [hA.2.2.1]
      refine iv_call (want := 1) (y := 289) (pc := 75) (z := 290) (cls := 12) (sa := [(0, (j : Int))]) (th := [(14, 195)]) (r := []) (d' := d - 1) (show iv_cck 1 289 75 290 = true by decide +kernel) (Or.inl ⟨rfl, _, rfl⟩) (show iv_mck 1 290 1 12 2 = true by decide +kernel) (show (0 : Nat) ≤ 8 by decide) (by omega) (iv_C_mono (rr_byte hL (by omega) (rr_F0_B hA.1 hB) j) (fun q μ' hq => ?_))
      obtain ⟨rfl, rfl⟩ := hq
      by_cases hj : j < n
      · rw [if_pos hj]
        refine iv_call (want := 0) (y := 289) (pc := 78) (z := 291) (cls := 0) (sa := [(0, b j)]) (th := []) (r := []) (d' := d - 1) (show iv_cck 0 289 78 291 = true by decide +kernel) (Or.inr ⟨rfl, rfl⟩) (show iv_mck 0 291 1 0 1 = true by decide +kernel) (show (0 : Nat) ≤ 8 by decide) (by omega) (iv_C_mono (rr_let hL (by omega) _) (fun q μ' hq => ?_))
        obtain ⟨rfl, rfl⟩ := hq
        cases hl : tk_L (b j) with
        | false => exact sg_289_81 hL (by omega) (fun _ => out j _ l1 N V (fun _ => hl) h2 h3 h4 h5 h6 hA) (fun q => absurd rfl q)
        | true =>
          refine sg_289_81 hL (by omega) (fun q => by cases q) (fun _ => ?_)
          rw [hA.2.2.1, show iv_w ((j : Int) + 1) = ((j + 1 : Nat) : Int) by rw [iv_w_id (by omega) (by omega)]; omega]
          exact ih (j + 1) _ l1 N V (by omega) (by omega) (by omega) h4 h5 (by rw [← tk_rn_t (p := fun k => tk_L (b k)) hj hl]; exact h6) (rr_A13 hA _)
      · rw [if_neg hj]
        refine iv_call (want := 0) (y := 289) (pc := 78) (z := 291) (cls := 0) (sa := [(0, -1)]) (th := []) (r := []) (d' := d - 1) (show iv_cck 0 289 78 291 = true by decide +kernel) (Or.inr ⟨rfl, rfl⟩) (show iv_mck 0 291 1 0 1 = true by decide +kernel) (show (0 : Nat) ≤ 8 by decide) (by omega) (iv_C_mono (rr_let hL (by omega) _) (fun q μ' hq => ?_))
        obtain ⟨rfl, rfl⟩ := hq
        exact sg_289_81 hL (by omega) (fun _ => out j _ l1 N V (fun q => by omega) h2 h3 h4 h5 h6 hA) (fun q => absurd rfl q)
  -- a number
  have numb : ∀ (m j : Nat) (μ1 : iv_M) (l1 N V : Int), n ≤ j + m → tk_s b n i ≤ j → j ≤ n → tk_s b n i < n → tk_L (b (tk_s b n i)) = false → tk_D (b (tk_s b n i)) = true → tk_rn n (fun k => tk_D (b k)) j = tk_rn n (fun k => tk_D (b k)) (tk_s b n i) → (j - tk_s b n i ≤ 4 → V = tk_nv b (tk_s b n i) (j - tk_s b n i)) → rr_A μ μ1 (tk_s b n i : Int) (j : Int) N V → iv_G L xs vz d 289 120 [some (14, 195), some (0, l1)] [] μ1 PP := by
    intro m
    have ex : ∀ (j : Nat) (μ1 : iv_M) (N V : Int), tk_s b n i ≤ j → j ≤ n → rr_A μ μ1 (tk_s b n i : Int) (j : Int) N V → iv_w ((μ1 195 13) - (μ1 195 12)) = ((j - tk_s b n i : Nat) : Int) := fun j μ1 N V h2 h3 hA => by
      rw [hA.2.1, hA.2.2.1, iv_w_id (by omega) (by omega)]
      omega
    have out : ∀ (j : Nat) (μ1 : iv_M) (N V : Int), (j < n → tk_D (b j) = false) → tk_s b n i ≤ j → j ≤ n → tk_s b n i < n → tk_L (b (tk_s b n i)) = false → tk_D (b (tk_s b n i)) = true → tk_rn n (fun k => tk_D (b k)) j = tk_rn n (fun k => tk_D (b k)) (tk_s b n i) → (j - tk_s b n i ≤ 4 → V = tk_nv b (tk_s b n i) (j - tk_s b n i)) → rr_A μ μ1 (tk_s b n i : Int) (j : Int) N V → ∀ T : Nat, T = (if j - tk_s b n i ≤ 4 then 15 else 24) → PP none (iv_upd μ1 195 14 (rr_f T)) := fun j μ1 N V h1 h2 h3 h4 h5 h6 h7 h8 hA T hT => by
      rw [tk_rn_f h1] at h7
      have ee : tk_e b n i = j := by
        unfold tk_e
        rw [if_neg (by omega), if_neg (by rw [h5]; decide), if_pos h6, ← h7]
      refine hX _ _ _ _ _ T (rr_A14 hA _) rfl (by rw [ee]) rfl ?_ ?_
      · unfold tk_t
        rw [if_neg (by omega), if_neg (by rw [h5]; decide), if_pos h6, ee]
        exact hT
      · intro h15
        unfold tk_v
        rw [ee]
        refine h8 ?_
        by_cases q : j - tk_s b n i ≤ 4
        · exact q
        · rw [if_neg q] at hT; omega
    induction m with
    | zero =>
      intro j μ1 l1 N V h1 h2 h3 h4 h5 h6 h7 h8 hA
      refine sg_289_120 hL (by omega) ?_
      rw [hA.2.2.1]
      refine iv_call (want := 1) (y := 289) (pc := 125) (z := 290) (cls := 12) (sa := [(0, (j : Int))]) (th := [(14, 195)]) (r := []) (d' := d - 1) (show iv_cck 1 289 125 290 = true by decide +kernel) (Or.inl ⟨rfl, _, rfl⟩) (show iv_mck 1 290 1 12 2 = true by decide +kernel) (show (0 : Nat) ≤ 8 by decide) (by omega) (iv_C_mono (rr_byte hL (by omega) (rr_F0_B hA.1 hB) j) (fun q μ' hq => ?_))
      obtain ⟨rfl, rfl⟩ := hq
      rw [if_neg (by omega)]
      refine iv_call (want := 0) (y := 289) (pc := 128) (z := 293) (cls := 0) (sa := [(0, -1)]) (th := []) (r := []) (d' := d - 1) (show iv_cck 0 289 128 293 = true by decide +kernel) (Or.inr ⟨rfl, rfl⟩) (show iv_mck 0 293 1 0 1 = true by decide +kernel) (show (0 : Nat) ≤ 8 by decide) (by omega) (iv_C_mono (rr_dig hL (by omega) _) (fun q μ' hq => ?_))
      obtain ⟨rfl, rfl⟩ := hq
      have e := ex j _ N V h2 h3 hA
      exact sg_289_131 hL (by omega) (fun _ q => out j _ N V (fun q => by omega) h2 h3 h4 h5 h6 h7 h8 hA 15 (by rw [if_pos (by omega)])) (fun _ q => out j _ N V (fun q => by omega) h2 h3 h4 h5 h6 h7 h8 hA 24 (by rw [if_neg (by omega)])) (fun q => absurd rfl q) (fun q => absurd rfl q)
    | succ m ih =>
      intro j μ1 l1 N V h1 h2 h3 h4 h5 h6 h7 h8 hA
      refine sg_289_120 hL (by omega) ?_
      rw [hA.2.2.1]
      refine iv_call (want := 1) (y := 289) (pc := 125) (z := 290) (cls := 12) (sa := [(0, (j : Int))]) (th := [(14, 195)]) (r := []) (d' := d - 1) (show iv_cck 1 289 125 290 = true by decide +kernel) (Or.inl ⟨rfl, _, rfl⟩) (show iv_mck 1 290 1 12 2 = true by decide +kernel) (show (0 : Nat) ≤ 8 by decide) (by omega) (iv_C_mono (rr_byte hL (by omega) (rr_F0_B hA.1 hB) j) (fun q μ' hq => ?_))
      obtain ⟨rfl, rfl⟩ := hq
      by_cases hj : j < n
      · rw [if_pos hj]
        refine iv_call (want := 0) (y := 289) (pc := 128) (z := 293) (cls := 0) (sa := [(0, b j)]) (th := []) (r := []) (d' := d - 1) (show iv_cck 0 289 128 293 = true by decide +kernel) (Or.inr ⟨rfl, rfl⟩) (show iv_mck 0 293 1 0 1 = true by decide +kernel) (show (0 : Nat) ≤ 8 by decide) (by omega) (iv_C_mono (rr_dig hL (by omega) _) (fun q μ2 hq => ?_))
        obtain ⟨rfl, rfl⟩ := hq
        have e := ex j _ N V h2 h3 hA
        have ej : iv_w ((j : Int) + 1) = ((j + 1 : Nat) : Int) := by rw [iv_w_id (by omega) (by omega)]; omega
        cases hl : tk_D (b j) with
        | false => exact sg_289_131 hL (by omega) (fun _ q => out j _ N V (fun _ => hl) h2 h3 h4 h5 h6 h7 h8 hA 15 (by rw [if_pos (by omega)])) (fun _ q => out j _ N V (fun _ => hl) h2 h3 h4 h5 h6 h7 h8 hA 24 (by rw [if_neg (by omega)])) (fun q => absurd rfl q) (fun q => absurd rfl q)
        | true =>
          refine sg_289_131 hL (by omega) (fun q => by cases q) (fun q => by cases q) (fun _ q => ?_) (fun _ q => ?_)
          · have hA2 := rr_A15 hA (μ2 195 15)
            rw [hA2.2.2.1, ej]
            exact ih (j + 1) _ l1 N _ (by omega) (by omega) (by omega) h4 h5 h6 (by rw [← tk_rn_t (p := fun k => tk_D (b k)) hj hl]; exact h7) (fun q => by omega) (rr_A13 hA2 _)
          · rw [hA.2.2.1]
            refine iv_call (want := 1) (y := 289) (pc := 160) (z := 290) (cls := 12) (sa := [(0, (j : Int))]) (th := [(14, 195)]) (r := [(0, _), (14, 195)]) (d' := d - 1) (show iv_cck 1 289 160 290 = true by decide +kernel) (Or.inl ⟨rfl, _, rfl⟩) (show iv_mck 1 290 1 12 2 = true by decide +kernel) (show (2 : Nat) ≤ 8 by decide) (by omega) (iv_C_mono (rr_byte hL (by omega) (rr_F0_B hA.1 hB) j) (fun q μ3 hq => ?_))
            obtain ⟨rfl, rfl⟩ := hq
            rw [if_pos hj]
            refine sg_289_163 hL (by omega) ?_
            have hA2 := rr_A15 hA (iv_w (iv_w (iv_w (10 * (μ3 195 15)) + b j) - 48))
            rw [hA2.2.2.1, ej]
            refine ih (j + 1) _ l1 N _ (by omega) (by omega) (by omega) h4 h5 h6 (by rw [← tk_rn_t (p := fun k => tk_D (b k)) hj hl]; exact h7) (fun q => ?_) (rr_A13 hA2 _)
            rw [show j + 1 - tk_s b n i = (j - tk_s b n i) + 1 by omega, hA.2.2.2.2, h8 (by omega)]
            show _ = iv_w (iv_w (iv_w (tk_nv b (tk_s b n i) (j - tk_s b n i) * 10) + b (tk_s b n i + (j - tk_s b n i))) - 48)
            rw [show tk_s b n i + (j - tk_s b n i) = j by omega, Int.mul_comm]
      · rw [if_neg hj]
        refine iv_call (want := 0) (y := 289) (pc := 128) (z := 293) (cls := 0) (sa := [(0, -1)]) (th := []) (r := []) (d' := d - 1) (show iv_cck 0 289 128 293 = true by decide +kernel) (Or.inr ⟨rfl, rfl⟩) (show iv_mck 0 293 1 0 1 = true by decide +kernel) (show (0 : Nat) ≤ 8 by decide) (by omega) (iv_C_mono (rr_dig hL (by omega) _) (fun q μ2 hq => ?_))
        obtain ⟨rfl, rfl⟩ := hq
        have e := ex j _ N V h2 h3 hA
        exact sg_289_131 hL (by omega) (fun _ q => out j _ N V (fun q => by omega) h2 h3 h4 h5 h6 h7 h8 hA 15 (by rw [if_pos (by omega)])) (fun _ q => out j _ N V (fun q => by omega) h2 h3 h4 h5 h6 h7 h8 hA 24 (by rw [if_neg (by omega)])) (fun q => absurd rfl q) (fun q => absurd rfl q)
  -- behind the blanks
  have go : ∀ (μ1 : iv_M) (N V : Int), rr_A μ μ1 (tk_s b n i : Int) (tk_s b n i : Int) N V → iv_G L xs vz d 289 47 [some (14, 195), none] [(0, (tk_s b n i : Int)), (14, 195)] μ1 PP := fun μ1 N V hA => by
    have hB1 := rr_F0_B hA.1 hB
    refine iv_call (want := 1) (y := 289) (pc := 47) (z := 290) (cls := 12) (sa := [(0, (tk_s b n i : Int))]) (th := [(14, 195)]) (r := []) (d' := d - 1) (show iv_cck 1 289 47 290 = true by decide +kernel) (Or.inl ⟨rfl, _, rfl⟩) (show iv_mck 1 290 1 12 2 = true by decide +kernel) (show (0 : Nat) ≤ 8 by decide) (by omega) (iv_C_mono (rr_byte hL (by omega) hB1 (tk_s b n i)) (fun q μ' hq => ?_))
    obtain ⟨rfl, rfl⟩ := hq
    by_cases hlt : tk_s b n i < n
    · rw [if_pos hlt]
      have hp := rr_pos hB1 hlt
      refine sg_289_50 hL (by omega) (fun _ => ?_) (fun q => by exfalso; omega)
      refine iv_call (want := 0) (y := 289) (pc := 64) (z := 291) (cls := 0) (sa := [(0, b (tk_s b n i))]) (th := []) (r := []) (d' := d - 1) (show iv_cck 0 289 64 291 = true by decide +kernel) (Or.inr ⟨rfl, rfl⟩) (show iv_mck 0 291 1 0 1 = true by decide +kernel) (show (0 : Nat) ≤ 8 by decide) (by omega) (iv_C_mono (rr_let hL (by omega) _) (fun q μ2 hq => ?_))
      obtain ⟨rfl, rfl⟩ := hq
      cases hl : tk_L (b (tk_s b n i)) with
      | true => exact sg_289_67 hL (by omega) (fun q => by cases q) (fun _ => word n (tk_s b n i) _ _ N V (by omega) (Nat.le_refl _) hsn hlt hl rfl hA)
      | false =>
        refine sg_289_67 hL (by omega) (fun _ => ?_) (fun q => absurd rfl q)
        refine iv_call (want := 0) (y := 289) (pc := 109) (z := 293) (cls := 0) (sa := [(0, b (tk_s b n i))]) (th := []) (r := []) (d' := d - 1) (show iv_cck 0 289 109 293 = true by decide +kernel) (Or.inr ⟨rfl, rfl⟩) (show iv_mck 0 293 1 0 1 = true by decide +kernel) (show (0 : Nat) ≤ 8 by decide) (by omega) (iv_C_mono (rr_dig hL (by omega) _) (fun q μ3 hq => ?_))
        obtain ⟨rfl, rfl⟩ := hq
        cases hg : tk_D (b (tk_s b n i)) with
        | true => exact sg_289_112 hL (by omega) (fun q => by cases q) (fun _ => numb n (tk_s b n i) _ _ N 0 (by omega) (Nat.le_refl _) hsn hlt hl hg rfl (fun _ => by rw [Nat.sub_self]; rfl) (rr_A15 hA 0))
        | false =>
          refine sg_289_112 hL (by omega) (fun _ => ?_) (fun q => absurd rfl q)
          have ee : tk_e b n i = tk_s b n i + 1 := by
            unfold tk_e
            rw [if_neg (by omega), if_neg (by rw [hl]; decide), if_neg (by rw [hg]; decide)]
          have htt : tk_t b n i (tk_sg (b (tk_s b n i))) := by
            unfold tk_t
            rw [if_neg (by omega), if_neg (by rw [hl]; decide), if_neg (by rw [hg]; decide)]
          have h15 : tk_sg (b (tk_s b n i)) ≠ 15 := fun h15 => by
            unfold tk_sg at h15
            repeat' (split at h15)
            all_goals omega
          have hA2 := rr_A13 hA (iv_w ((μ3 195 13) + 1))
          have e13 : iv_w ((μ3 195 13) + 1) = (tk_e b n i : Int) := by
            rw [hA.2.2.1, ee, iv_w_id (by omega) (by omega)]
            omega
          refine iv_call (want := 0) (y := 289) (pc := 229) (z := 294) (cls := 0) (sa := [(0, b (tk_s b n i))]) (th := []) (r := [(14, 195)]) (d' := d - 1) (show iv_cck 0 289 229 294 = true by decide +kernel) (Or.inr ⟨rfl, rfl⟩) (show iv_mck 0 294 1 0 1 = true by decide +kernel) (show (1 : Nat) ≤ 8 by decide) (by omega) (iv_C_mono (rr_sig hL (by omega) _) (fun q μ4 hq => ?_))
          rcases hq with ⟨rfl, ⟨rfl, hq⟩ | ⟨rfl, hq⟩⟩
          · exact sg_289_232 hL (by omega) (fun _ => hX _ _ _ _ _ _ (rr_A14 hA2 60) rfl e13 hq.symm htt (fun q => absurd q h15)) (fun q => absurd rfl q)
          · have hs100 : iv_w (100 + b (tk_s b n i)) = 100 + b (tk_s b n i) := by
              have := rr_fc (tk_sg (b (tk_s b n i)))
              exact iv_w_id (by omega) (by omega)
            refine sg_289_232 hL (by omega) (fun q => by cases q) (fun _ => ?_)
            rw [hs100]
            exact hX _ _ _ _ _ _ (rr_A14 hA2 _) rfl e13 hq.symm htt (fun q => absurd q h15)
    · rw [if_neg hlt]
      refine sg_289_50 hL (by omega) (fun q => by exfalso; omega) (fun _ => ?_)
      refine hX _ _ _ _ _ 23 (rr_A14 hA 0) rfl ?_ rfl ?_ (fun q => by omega)
      · unfold tk_e
        rw [if_pos (by omega)]
      · unfold tk_t
        rw [if_pos (by omega)]
  have lp : ∀ (m j : Nat) (μ1 : iv_M) (E N V : Int), n ≤ j + m → j ≤ n → tk_rn n (fun k => decide (b k = 32)) j = tk_s b n i → rr_A μ μ1 (j : Int) E N V → iv_G L xs vz d 289 8 [some (14, 195), none] [] μ1 PP := by
    have out : ∀ (j : Nat) (μ1 : iv_M) (E N V : Int), (j < n → decide (b j = 32) = false) → tk_rn n (fun k => decide (b k = 32)) j = tk_s b n i → rr_A μ μ1 (j : Int) E N V → iv_G L xs vz d 289 47 [some (14, 195), none] [(0, ((iv_upd μ1 195 13 (μ1 195 12)) 195 12)), (14, 195)] (iv_upd μ1 195 13 (μ1 195 12)) PP := fun j μ1 E N V h1 h2 hA => by
      rw [tk_rn_f h1] at h2
      have hA5 := rr_A13 hA (μ1 195 12)
      rw [hA5.2.1]
      rw [hA.2.1, h2] at hA5
      rw [hA.2.1, h2]
      exact go _ _ _ hA5
    intro m
    induction m with
    | zero =>
      intro j μ1 E N V h1 h2 h3 hA
      refine sg_289_8 hL (by omega) ?_
      rw [hA.2.1]
      refine iv_call (want := 1) (y := 289) (pc := 13) (z := 290) (cls := 12) (sa := [(0, (j : Int))]) (th := [(14, 195)]) (r := []) (d' := d - 1) (show iv_cck 1 289 13 290 = true by decide +kernel) (Or.inl ⟨rfl, _, rfl⟩) (show iv_mck 1 290 1 12 2 = true by decide +kernel) (show (0 : Nat) ≤ 8 by decide) (by omega) (iv_C_mono (rr_byte hL (by omega) (rr_F0_B hA.1 hB) j) (fun q μ' hq => ?_))
      obtain ⟨rfl, rfl⟩ := hq
      rw [if_neg (by omega)]
      exact sg_289_16 hL (by omega) (fun _ => out j _ E N V (fun q => by omega) h3 hA) (fun q => by cases q)
    | succ m ih =>
      intro j μ1 E N V h1 h2 h3 hA
      refine sg_289_8 hL (by omega) ?_
      rw [hA.2.1]
      refine iv_call (want := 1) (y := 289) (pc := 13) (z := 290) (cls := 12) (sa := [(0, (j : Int))]) (th := [(14, 195)]) (r := []) (d' := d - 1) (show iv_cck 1 289 13 290 = true by decide +kernel) (Or.inl ⟨rfl, _, rfl⟩) (show iv_mck 1 290 1 12 2 = true by decide +kernel) (show (0 : Nat) ≤ 8 by decide) (by omega) (iv_C_mono (rr_byte hL (by omega) (rr_F0_B hA.1 hB) j) (fun q μ' hq => ?_))
      obtain ⟨rfl, rfl⟩ := hq
      by_cases hj : j < n
      · rw [if_pos hj]
        refine sg_289_16 hL (by omega) (fun q => out j _ E N V (fun _ => by rw [decide_eq_false_iff_not]; exact q) h3 hA) (fun q => ?_)
        rw [hA.2.1, show iv_w ((j : Int) + 1) = ((j + 1 : Nat) : Int) by rw [iv_w_id (by omega) (by omega)]; omega]
        refine ih (j + 1) _ E N V (by omega) (by omega) ?_ (rr_A12 hA _)
        rw [← tk_rn_t (p := fun k => decide (b k = 32)) hj (by rw [decide_eq_true_eq]; exact q)]
        exact h3
      · rw [if_neg hj]
        exact sg_289_16 hL (by omega) (fun _ => out j _ E N V (fun q => by omega) h3 hA) (fun q => by cases q)
  have hA := rr_A12 (rr_A0 μ) (μ 195 13)
  rw [h13] at hA
  refine iv_C_of (sg_289_0 hL (by omega) ?_)
  rw [h13]
  exact lp n i _ _ _ _ (by omega) hi rfl hA
end RRT
