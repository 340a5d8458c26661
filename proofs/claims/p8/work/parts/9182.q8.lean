/-! ===== printed by wip/iv/gen_q8.py: person, sheet ===== -/
def psf (n m s a b c e : Int) : Int := if 0 ≤ a ∧ a < n ∧ -9999 ≤ b ∧ b ≤ 0 ∧ -1 ≤ c ∧ c < m ∧ -1 ≤ e ∧ e < m ∧ (c < 0 ∨ c ≠ e) then (if s ≠ 0 then -100006 else if 14 ≤ m then -100005 else m) else -100001
def pgo (n m s a b c e : Int) : Prop := (0 ≤ a ∧ a < n ∧ -9999 ≤ b ∧ b ≤ 0 ∧ -1 ≤ c ∧ c < m ∧ -1 ≤ e ∧ e < m ∧ (c < 0 ∨ c ≠ e)) ∧ s = 0 ∧ m < 14
def vper (v w : V8) : Prop := w.1 = v.1 ∧ w.2.1 = v.2.1 + 1 ∧ w.2.2.1 = v.2.2.1 ∧ ∀ i : Int, 0 ≤ i → i < 10 → w.2.2.2.1 i = v.2.2.2.1 i ∧ w.2.2.2.2.1 i = v.2.2.2.2.1 i ∧ w.2.2.2.2.2 i = v.2.2.2.2.2 i
theorem R8_per {v w v' w' : V8} (h : R8 v w) (e : vper v v') (f : vper w w') : R8 v' w' := by
  obtain ⟨a1, a2, a3, a4⟩ := h
  refine ⟨by rw [e.1, f.1, a1], by rw [e.2.1, f.2.1, a2], by rw [e.2.2.1, f.2.2.1, a3], fun i i0 i1 => ?_⟩
  obtain ⟨b1, b2, b3⟩ := e.2.2.2 i i0 i1
  obtain ⟨c1, c2, c3⟩ := f.2.2.2 i i0 i1
  rw [b1, b2, b3, c1, c2, c3, e.1]
  exact a4 i i0 i1
section Q8
variable {L : Nat} {xs : Nat → Int32} {vz : Value} {μ : iv_M}
theorem person_c {d : Nat} (hL : L ≤ 3072) (hd : 6 ≤ d) (hc : 0 ≤ μ 39 2 ∧ μ 39 2 ≤ 10) (hm : 0 ≤ μ 39 4 ∧ μ 39 4 ≤ 14) {a b c e : Int} (hs : 0 ≤ a → a < 10 → 0 ≤ μ (a + 55) 6 ∧ μ (a + 55) 6 ≤ 1) : iv_C L xs vz d 45 [(13, 38), (0, a), (0, b), (0, c), (0, e)] μ (fun r μ' => r = some (0, psf (μ 39 2) (μ 39 4) (μ (a + 55) 6) a b c e) ∧ (pgo (μ 39 2) (μ 39 4) (μ (a + 55) 6) a b c e → vper (vC μ) (vC μ')) ∧ (¬ pgo (μ 39 2) (μ 39 4) (μ (a + 55) 6) a b c e → fL μ μ')) := by
  refine iv_C_of ?_
  have hsl : 0 ≤ a → a < 10 → 0 ≤ μ (a + 55) 6 ∧ μ (a + 55) 6 ≤ 1 := hs
  refine sg_45_0 hL hd hc.1 hc.2 hm.1 hm.2 ?_ ?_ ?_ ?_ ?_ ?_ ?_ ?_ ?_ ?_ ?_ ?_ ?_ ?_ ?_ <;> intros <;> first | exact ⟨by refine congrArg (fun z => some ((0 : Nat), z)) ?_; unfold psf; split <;> first | rfl | omega | (split <;> first | rfl | omega | (split <;> first | rfl | omega)), fun q => by unfold pgo at q; omega, fun _ => veq_of vC_upd⟩ | skip
  all_goals
    refine ⟨by refine congrArg (fun z => some ((0 : Nat), z)) ?_; unfold psf; split <;> first | rfl | omega | (split <;> first | rfl | omega | (split <;> first | rfl | omega)), fun _ => ?_, fun q => absurd (show pgo (μ 39 2) (μ 39 4) (μ (a + 55) 6) a b c e from ⟨⟨by omega, by omega, by omega, by omega, by omega, by omega, by omega, by omega, by omega⟩, by omega, by omega⟩) q⟩
    unfold vper vC
    dsimp only
    refine ⟨?_, ?_, ?_, fun i i0 i1 => ⟨?_, ?_, ?_⟩⟩
    · (repeat (first | rw [iv_upd_ne _ _ (Or.inl (by omega))] | rw [iv_upd_ne _ _ (Or.inr (by omega))]))
    · (rw [iv_upd_same]; (repeat (first | rw [iv_upd_ne _ _ (Or.inl (by omega))] | rw [iv_upd_ne _ _ (Or.inr (by omega))])); rw [iv_w_id (by omega) (by omega)])
    · (repeat (first | rw [iv_upd_ne _ _ (Or.inl (by omega))] | rw [iv_upd_ne _ _ (Or.inr (by omega))]))
    · (repeat (first | rw [iv_upd_ne _ _ (Or.inl (by omega))] | rw [iv_upd_ne _ _ (Or.inr (by omega))]))
    · (repeat (first | rw [iv_upd_ne _ _ (Or.inl (by omega))] | rw [iv_upd_ne _ _ (Or.inr (by omega))]))
    · (repeat (first | rw [iv_upd_ne _ _ (Or.inl (by omega))] | rw [iv_upd_ne _ _ (Or.inr (by omega))]))
theorem person_r {d : Nat} (hL : L ≤ 3072) (hd : 6 ≤ d) (hc : 0 ≤ μ 196 0 ∧ μ 196 0 ≤ 10) (hm : 0 ≤ μ 196 1 ∧ μ 196 1 ≤ 14) {a b c e : Int} (hs : 0 ≤ a → a < 10 → 0 ≤ μ 196 (a * 7 + 86) ∧ μ 196 (a * 7 + 86) ≤ 1) : iv_C L xs vz d 242 [(14, 195), (0, a), (0, b), (0, c), (0, e)] μ (fun r μ' => r = some (0, psf (μ 196 0) (μ 196 1) (μ 196 (a * 7 + 86)) a b c e) ∧ (pgo (μ 196 0) (μ 196 1) (μ 196 (a * 7 + 86)) a b c e → vper (vR μ) (vR μ')) ∧ (¬ pgo (μ 196 0) (μ 196 1) (μ 196 (a * 7 + 86)) a b c e → fl μ μ')) := by
  refine iv_C_of ?_
  have hsl : 0 ≤ a → a < 10 → 0 ≤ μ 196 (a * 7 + 86) ∧ μ 196 (a * 7 + 86) ≤ 1 := hs
  refine sg_242_0 hL hd hc.1 hc.2 hm.1 hm.2 ?_ ?_ ?_ ?_ ?_ ?_ ?_ ?_ ?_ ?_ ?_ ?_ ?_ ?_ ?_ <;> intros <;> first | exact ⟨by refine congrArg (fun z => some ((0 : Nat), z)) ?_; unfold psf; split <;> first | rfl | omega | (split <;> first | rfl | omega | (split <;> first | rfl | omega)), fun q => by unfold pgo at q; omega, fun _ => veq_of (vR_upd (by decide))⟩ | skip
  all_goals
    refine ⟨by refine congrArg (fun z => some ((0 : Nat), z)) ?_; unfold psf; split <;> first | rfl | omega | (split <;> first | rfl | omega | (split <;> first | rfl | omega)), fun _ => ?_, fun q => absurd (show pgo (μ 196 0) (μ 196 1) (μ 196 (a * 7 + 86)) a b c e from ⟨⟨by omega, by omega, by omega, by omega, by omega, by omega, by omega, by omega, by omega⟩, by omega, by omega⟩) q⟩
    unfold vper vR kR pR sR
    dsimp only
    refine ⟨?_, ?_, ?_, fun i i0 i1 => ⟨?_, ?_, ?_⟩⟩
    · (repeat (first | rw [iv_upd_ne _ _ (Or.inl (by omega))] | rw [iv_upd_ne _ _ (Or.inr (by omega))]))
    · ((repeat (first | rw [iv_upd_ne _ _ (Or.inl (by omega))] | rw [iv_upd_ne _ _ (Or.inr (by omega))])); rw [iv_upd_same])
    · (repeat (first | rw [iv_upd_ne _ _ (Or.inl (by omega))] | rw [iv_upd_ne _ _ (Or.inr (by omega))]))
    · (repeat (first | rw [iv_upd_ne _ _ (Or.inl (by omega))] | rw [iv_upd_ne _ _ (Or.inr (by omega))]))
    · (repeat (first | rw [iv_upd_ne _ _ (Or.inl (by omega))] | rw [iv_upd_ne _ _ (Or.inr (by omega))]))
    · (repeat (first | rw [iv_upd_ne _ _ (Or.inl (by omega))] | rw [iv_upd_ne _ _ (Or.inr (by omega))]))
def sok (a b n : Int) : Prop := 0 ≤ a ∧ a ≤ 3 ∧ (b = 0 ∨ b = 8 ∨ b = 16 ∨ b = 32) ∧ 0 ≤ n ∧ n ≤ 20
theorem rule_c {d : Nat} (hL : L ≤ 3072) (hd : 6 ≤ d) {p b n : Int} : iv_C L xs vz d 200 [(9, p), (0, b), (0, n)] μ (fun r μ' => (∃ z, r = some (0, z)) ∧ μ' p 0 = b ∧ ∀ q : Int, (q - p) % 2 = 0 → q ≠ p → μ' q 0 = μ q 0) := by
  have key : ∀ (M : iv_M) (m : Nat) (l : Int) (μ1 : iv_M), M p 0 = b → (∀ q : Int, (q - p) % 2 = 0 → q ≠ p → M q 0 = μ q 0) → 0 ≤ l → 20 ≤ l + m → (∀ q : Int, (q - p) % 2 = 0 → μ1 q 0 = M q 0) → iv_G L xs vz d 200 20 [some (9, p), some (0, b), some (0, n), some (0, l)] [] μ1 (fun r μ' => (∃ z, r = some (0, z)) ∧ μ' p 0 = b ∧ ∀ q : Int, (q - p) % 2 = 0 → q ≠ p → μ' q 0 = μ q 0) := by
    intro M m
    induction m with
    | zero =>
      intro l μ1 e1 e2 h0 h1 hk
      refine sg_200_20 hL hd h0 ?_ ?_ <;> intros
      · exact ⟨⟨_, rfl⟩, (hk p (by omega)).trans e1, fun q a b => (hk q a).trans (e2 q a b)⟩
      · exfalso; omega
    | succ m ih =>
      intro l μ1 e1 e2 h0 h1 hk
      refine sg_200_20 hL hd h0 ?_ ?_ <;> intros
      · exact ⟨⟨_, rfl⟩, (hk p (by omega)).trans e1, fun q a b => (hk q a).trans (e2 q a b)⟩
      · exact ih _ _ e1 e2 (by omega) (by omega) (fun q a => by rw [iv_upd_ne _ _ (Or.inl (by omega))]; exact hk q a)
  refine iv_C_of (sg_200_0 hL hd ?_ ?_) <;> intro hz
  · exact key _ 20 0 _ (by rw [iv_upd_ne _ _ (Or.inr (by decide)), iv_upd_same]) (fun q a b => by rw [iv_upd_ne _ _ (Or.inr (by decide)), iv_upd_ne _ _ (Or.inl b)]) (by decide) (by decide) (fun q a => rfl)
  · exact key _ 20 0 _ (by rw [iv_upd_ne _ _ (Or.inr (by decide)), iv_upd_same]) (fun q a b => by rw [iv_upd_ne _ _ (Or.inr (by decide)), iv_upd_ne _ _ (Or.inl b)]) (by decide) (by decide) (fun q a => rfl)
theorem sheet_c {d : Nat} (hL : L ≤ 3072) (hd : 10 ≤ d) {a b n : Int} : iv_C L xs vz d 199 [(13, 38), (0, a), (0, b), (0, n)] μ (fun _ μ' => (sok a b n → ∀ s : Int, 0 ≤ s → s < 4 → μ' (s * 2 + 174) 0 = if s = a then b else μ (s * 2 + 174) 0) ∧ (¬ sok a b n → fS μ μ')) := by
  refine iv_C_of ?_
  have go : sok a b n → iv_G L xs vz d 199 68 [some (13, 38), some (0, a), some (0, b), some (0, n)] [(0, n), (0, b), (9, a * 2 + 174)] μ (fun _ μ' => (sok a b n → ∀ s : Int, 0 ≤ s → s < 4 → μ' (s * 2 + 174) 0 = if s = a then b else μ (s * 2 + 174) 0) ∧ (¬ sok a b n → fS μ μ')) := fun ok => by
    refine iv_call (want := 1) (y := 199) (pc := 68) (z := 200) (cls := 7) (sa := [(0, n), (0, b)]) (th := [(9, a * 2 + 174)]) (r := []) (d' := d - 1) (show iv_cck 1 199 68 200 = true by decide +kernel) (Or.inl ⟨rfl, _, rfl⟩) (show iv_mck 1 200 2 7 3 = true by decide +kernel) (show (0 : Nat) ≤ 8 by decide) (by omega) (iv_C_mono (rule_c hL (by omega)) (fun v μ1 hp => ?_))
    obtain ⟨⟨z, rfl⟩, e1, e2⟩ := hp
    refine sg_199_71 hL (by omega) ⟨fun _ s s0 s1 => ?_, fun q => absurd ok q⟩
    by_cases hs : s = a
    · rw [if_pos hs, hs]; exact e1
    · rw [if_neg hs]; exact e2 _ (by omega) (by omega)
  refine sg_199_0 hL (by omega) ?_ ?_ ?_ ?_ ?_ ?_ ?_ ?_ ?_ ?_ ?_ ?_ ?_ ?_ ?_ <;> intros <;> first | exact go ⟨by omega, by omega, by omega, by omega, by omega⟩ | exact ⟨fun q => by unfold sok at q; omega, fun _ s s0 s1 => iv_upd_ne _ _ (Or.inl (by omega))⟩
theorem sheet_r {d : Nat} (hL : L ≤ 3072) (hd : 10 ≤ d) {a b n : Int} : iv_C L xs vz d 324 [(14, 195), (0, a), (0, b), (0, n)] μ (fun _ μ' => (sok a b n → ∀ s : Int, 0 ≤ s → s < 4 → μ' 209 s = if s = a then b else μ 209 s) ∧ (¬ sok a b n → fs μ μ')) := by
  refine iv_C_of ?_
  have key : sok a b n → ∀ (m : Nat) (l : Int) (μ1 : iv_M), 0 ≤ l → 20 ≤ l + m → (∀ s : Int, 0 ≤ s → s < 4 → μ1 209 s = if s = a then b else μ 209 s) → iv_G L xs vz d 324 85 [some (14, 195), some (0, a), some (0, b), some (0, n), some (0, l)] [] μ1 (fun _ μ' => (sok a b n → ∀ s : Int, 0 ≤ s → s < 4 → μ' 209 s = if s = a then b else μ 209 s) ∧ (¬ sok a b n → fs μ μ')) := fun ok m => by
    have ok' := ok
    unfold sok at ok'
    induction m with
    | zero =>
      intro l μ1 h0 h1 hk
      refine sg_324_85 hL (by omega) ok'.1 ok'.2.1 h0 ?_ ?_ <;> intros
      · exact ⟨fun _ => hk, fun q => absurd ok q⟩
      · exfalso; omega
    | succ m ih =>
      intro l μ1 h0 h1 hk
      refine sg_324_85 hL (by omega) ok'.1 ok'.2.1 h0 ?_ ?_ <;> intros
      · exact ⟨fun _ => hk, fun q => absurd ok q⟩
      · exact ih _ _ (by omega) (by omega) (fun s s0 s1 => by rw [iv_upd_ne _ _ (Or.inl (by decide))]; exact hk s s0 s1)
  have up : ∀ (v : Int) (s : Int), 0 ≤ s → s < 4 → iv_upd (iv_upd μ 209 a b) 210 a v 209 s = if s = a then b else μ 209 s := fun v s _ _ => by
    rw [iv_upd_ne _ _ (Or.inl (by decide))]
    by_cases hs : s = a
    · rw [if_pos hs, hs, iv_upd_same]
    · rw [if_neg hs, iv_upd_ne _ _ (Or.inr hs)]
  refine sg_324_0 hL (by omega) ?_ ?_ ?_ ?_ ?_ ?_ ?_ ?_ ?_ ?_ ?_ ?_ ?_ ?_ ?_ <;> intros <;> first | exact key ⟨by omega, by omega, by omega, by omega, by omega⟩ 20 0 _ (by decide) (by decide) (up _) | exact ⟨fun q => by unfold sok at q; omega, fun _ s s0 s1 => iv_upd_ne _ _ (Or.inl (by decide))⟩
end Q8
