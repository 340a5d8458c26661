/-! ===== the reference: numbers of now that stay ===== -/
abbrev K3 (k : Int) : Prop := (0 ≤ k ∧ k ≤ 3) ∨ (80 ≤ k ∧ k < 150 ∧ (k % 7 = 2 ∨ k % 7 = 3 ∨ k % 7 = 5))
abbrev K1 (k : Int) : Prop := (0 ≤ k ∧ k ≤ 3) ∨ (80 ≤ k ∧ k < 150 ∧ k % 7 = 3)
def kq (K : Int → Prop) (μ μ' : iv_M) : Prop := ∀ k : Int, K k → μ' 196 k = μ 196 k
theorem kq_rfl {K : Int → Prop} (μ : iv_M) : kq K μ μ := fun _ _ => rfl
theorem kq_up {K : Int → Prop} {μ0 μ : iv_M} {p k v : Int} (h : kq K μ0 μ) (s : p ≠ 196 ∨ ¬ K k) : kq K μ0 (iv_upd μ p k v) := fun j hj => by
  rw [iv_upd_ne μ v (show (196 : Int) ≠ p ∨ j ≠ k from s.elim (fun s => Or.inl (fun e => s e.symm)) (fun s => Or.inr (fun e => s (e ▸ hj))))]
  exact h j hj
theorem kq_tr {K : Int → Prop} {a b c : iv_M} (h1 : kq K a b) (h2 : kq K b c) : kq K a c := fun k hk => (h2 k hk).trans (h1 k hk)
theorem kq_31 {μ μ' : iv_M} (h : kq K3 μ μ') : kq K1 μ μ' := fun k hk => h k (by omega)
theorem kq_br {μ μ' : iv_M} {W : se_W} (hW : W.all (fun u => !(Nat.beq u.1 56) || (Nat.ble 4 u.2.1 && (Nat.ble u.2.2 80 || Nat.ble 150 u.2.1))) = true) (hf : ∀ p k, ¬ br_in W p k → μ' p k = μ p k) : kq K3 μ μ' := fun k hk => hf 196 k (fun ⟨_, _, t, ht, u, hu, e, a, b⟩ => by
  have h1 := List.all_eq_true.mp hW u hu
  have e2 : t = 56 := by
    have : some t = some 56 := ht.symm.trans rfl
    exact Option.some.inj this
  rw [Bool.or_eq_true, Bool.and_eq_true, Bool.or_eq_true] at h1
  rcases h1 with h1 | ⟨h1, h2⟩
  · rw [e, e2] at h1
    exact absurd h1 (by decide)
  · have h1 := Nat.le_of_ble_eq_true h1
    rcases h2 with h2 | h2
    · have h2 := Nat.le_of_ble_eq_true h2
      omega
    · have h2 := Nat.le_of_ble_eq_true h2
      omega)
section K4
variable {L : Nat} {xs : Nat → Int32} {vz : Value} {μ : iv_M}
theorem kn0 (hJ : br_J L xs μ) (hN : iv_N μ) : 0 ≤ μ 196 0 ∧ μ 196 0 ≤ 10 := br_rg (p := 196) (k := 0) (t := 56) (l := 0) (h := 10) hJ hN rfl ⟨by decide, by decide⟩ (by decide) rfl
theorem kn1 (hJ : br_J L xs μ) (hN : iv_N μ) : 0 ≤ μ 196 1 ∧ μ 196 1 ≤ 14 := br_rg (p := 196) (k := 1) (t := 56) (l := 0) (h := 14) hJ hN rfl ⟨by decide, by decide⟩ (by decide) rfl
theorem kn2 (hJ : br_J L xs μ) (hN : iv_N μ) : 0 ≤ μ 196 2 ∧ μ 196 2 ≤ 12 := br_rg (p := 196) (k := 2) (t := 56) (l := 0) (h := 12) hJ hN rfl ⟨by decide, by decide⟩ (by decide) rfl
theorem iv_C_d {z : Nat} {d d' : Nat} {As : List iv_Z} {P : iv_P} (h : iv_C L xs vz d z As μ P) (hd : d ≤ d') : iv_C L xs vz d' z As μ P := iv_C_le h hd
/-- less is known of the locals -/
def iv_lew : List (Option iv_Z) → List (Option iv_Z) → Prop
  | [], [] => True
  | a :: s, b :: t => (a = none ∨ a = b) ∧ iv_lew s t
  | _, _ => False
theorem iv_lew_ok : ∀ {s t : List (Option iv_Z)}, iv_lew s t → ∀ (i : Nat) (v : iv_Z), s[i]? = some (some v) → t[i]? = some (some v)
  | [], [], _, i, v, h => by simp at h
  | a :: s, b :: t, hl, 0, v, h => by
    simp at h
    rcases hl.1 with e | e
    · rw [e] at h; cases h
    · rw [← e, h]; rfl
  | a :: s, b :: t, hl, i + 1, v, h => by
    simp at h ⊢
    exact iv_lew_ok hl.2 i v h
  | [], _ :: _, hl, _, _, _ => hl.elim
  | _ :: _, [], hl, _, _, _ => hl.elim
theorem iv_wk {d y pc : Nat} {ls ls' : List (Option iv_Z)} {st : List iv_Z} {P : iv_P} (h : iv_G L xs vz d y pc ls' st μ P) (hl : iv_lew ls' ls) : iv_G L xs vz d y pc ls st μ P :=
  fun t ht D hD lc cb sb h1 h2 h3 => h t ht D hD lc cb sb (fun i v hi => h1 i v (iv_lew_ok hl i v hi)) h2 h3
theorem br_nil {W : se_W} (hW : W = []) {μ' : iv_M} (hf : ∀ p k, ¬ br_in W p k → μ' p k = μ p k) : μ' = μ := by
  funext p k
  refine hf p k ?_
  rintro ⟨-, -, t, -, u, hu, -⟩
  rw [hW] at hu
  cases hu
theorem sg_wat : ∀ i, i < 10 → se_seg (se_tt 56).2.2.2 (i * 7 + 84) = (0, (-2147483648), 2147483647) := by decide
theorem rg_wat (hJ : br_J L xs μ) (hN : iv_N μ) {b : Int} (h0 : 0 ≤ b) (h1 : b < 10) : (-2147483648) ≤ μ 196 (b * 7 + 84) ∧ μ 196 (b * 7 + 84) ≤ 2147483647 := by
  obtain ⟨i, rfl⟩ := Int.eq_ofNat_of_zero_le h0
  have := br_rg (p := 196) (k := i * 7 + 84) hJ hN (show st_ty 196 = some 56 from rfl) ⟨by decide, by decide⟩ (show i * 7 + 84 < 2973 by omega) (sg_wat i (by omega))
  rw [show ((i * 7 + 84 : Nat) : Int) = (i : Int) * 7 + 84 by omega] at this
  exact this
theorem bj_wat {b v : Int} (hJ : br_J L xs μ) (h0 : 0 ≤ b) (h1 : b < 10) (hi : iv_i32 v) : br_J L xs (iv_upd μ 196 (b * 7 + 84) v) := by
  obtain ⟨i, rfl⟩ := Int.eq_ofNat_of_zero_le h0
  exact br_J_now hJ (by omega) (by omega) (show se_seg (se_tt 56).2.2.2 ((i : Int) * 7 + 84).toNat = (0, (-2147483648), 2147483647) by rw [show ((i : Int) * 7 + 84).toNat = i * 7 + 84 by omega]; exact sg_wat i (by omega)) hi hi
theorem sg_thi : ∀ i, i < 14 → se_seg (se_tt 56).2.2.2 (i * 7 + 156) = (0, (-2147483648), 2147483647) := by decide
theorem rg_thi (hJ : br_J L xs μ) (hN : iv_N μ) {b : Int} (h0 : 0 ≤ b) (h1 : b < 14) : (-2147483648) ≤ μ 196 (b * 7 + 156) ∧ μ 196 (b * 7 + 156) ≤ 2147483647 := by
  obtain ⟨i, rfl⟩ := Int.eq_ofNat_of_zero_le h0
  have := br_rg (p := 196) (k := i * 7 + 156) hJ hN (show st_ty 196 = some 56 from rfl) ⟨by decide, by decide⟩ (show i * 7 + 156 < 2973 by omega) (sg_thi i (by omega))
  rw [show ((i * 7 + 156 : Nat) : Int) = (i : Int) * 7 + 156 by omega] at this
  exact this
theorem bj_thi {b v : Int} (hJ : br_J L xs μ) (h0 : 0 ≤ b) (h1 : b < 14) (hi : iv_i32 v) : br_J L xs (iv_upd μ 196 (b * 7 + 156) v) := by
  obtain ⟨i, rfl⟩ := Int.eq_ofNat_of_zero_le h0
  exact br_J_now hJ (by omega) (by omega) (show se_seg (se_tt 56).2.2.2 ((i : Int) * 7 + 156).toNat = (0, (-2147483648), 2147483647) by rw [show ((i : Int) * 7 + 156).toNat = i * 7 + 156 by omega]; exact sg_thi i (by omega)) hi hi
theorem sg_pla : ∀ i, i < 10 → se_seg (se_tt 56).2.2.2 (i * 7 + 82) = (0, (-2147483648), 2147483647) := by decide
theorem rg_pla (hJ : br_J L xs μ) (hN : iv_N μ) {b : Int} (h0 : 0 ≤ b) (h1 : b < 10) : (-2147483648) ≤ μ 196 (b * 7 + 82) ∧ μ 196 (b * 7 + 82) ≤ 2147483647 := by
  obtain ⟨i, rfl⟩ := Int.eq_ofNat_of_zero_le h0
  have := br_rg (p := 196) (k := i * 7 + 82) hJ hN (show st_ty 196 = some 56 from rfl) ⟨by decide, by decide⟩ (show i * 7 + 82 < 2973 by omega) (sg_pla i (by omega))
  rw [show ((i * 7 + 82 : Nat) : Int) = (i : Int) * 7 + 82 by omega] at this
  exact this
theorem bj_pla {b v : Int} (hJ : br_J L xs μ) (h0 : 0 ≤ b) (h1 : b < 10) (hi : iv_i32 v) : br_J L xs (iv_upd μ 196 (b * 7 + 82) v) := by
  obtain ⟨i, rfl⟩ := Int.eq_ofNat_of_zero_le h0
  exact br_J_now hJ (by omega) (by omega) (show se_seg (se_tt 56).2.2.2 ((i : Int) * 7 + 82).toNat = (0, (-2147483648), 2147483647) by rw [show ((i : Int) * 7 + 82).toNat = i * 7 + 82 by omega]; exact sg_pla i (by omega)) hi hi
theorem sg_liv : ∀ i, i < 12 → se_seg (se_tt 56).2.2.2 (i * 8 + 255) = (0, (-2147483648), 2147483647) := by decide
theorem rg_liv (hJ : br_J L xs μ) (hN : iv_N μ) {b : Int} (h0 : 0 ≤ b) (h1 : b < 12) : (-2147483648) ≤ μ 196 (b * 8 + 255) ∧ μ 196 (b * 8 + 255) ≤ 2147483647 := by
  obtain ⟨i, rfl⟩ := Int.eq_ofNat_of_zero_le h0
  have := br_rg (p := 196) (k := i * 8 + 255) hJ hN (show st_ty 196 = some 56 from rfl) ⟨by decide, by decide⟩ (show i * 8 + 255 < 2973 by omega) (sg_liv i (by omega))
  rw [show ((i * 8 + 255 : Nat) : Int) = (i : Int) * 8 + 255 by omega] at this
  exact this
theorem bj_liv {b v : Int} (hJ : br_J L xs μ) (h0 : 0 ≤ b) (h1 : b < 12) (hi : iv_i32 v) : br_J L xs (iv_upd μ 196 (b * 8 + 255) v) := by
  obtain ⟨i, rfl⟩ := Int.eq_ofNat_of_zero_le h0
  exact br_J_now hJ (by omega) (by omega) (show se_seg (se_tt 56).2.2.2 ((i : Int) * 8 + 255).toNat = (0, (-2147483648), 2147483647) by rw [show ((i : Int) * 8 + 255).toNat = i * 8 + 255 by omega]; exact sg_liv i (by omega)) hi hi
theorem sg_fl : ∀ i, i < 14 → se_seg (se_tt 56).2.2.2 (i * 7 + 150) = (0, 0, 9) := by decide
theorem rg_fl (hJ : br_J L xs μ) (hN : iv_N μ) {b : Int} (h0 : 0 ≤ b) (h1 : b < 14) : 0 ≤ μ 196 (b * 7 + 150) ∧ μ 196 (b * 7 + 150) ≤ 9 := by
  obtain ⟨i, rfl⟩ := Int.eq_ofNat_of_zero_le h0
  have := br_rg (p := 196) (k := i * 7 + 150) hJ hN (show st_ty 196 = some 56 from rfl) ⟨by decide, by decide⟩ (show i * 7 + 150 < 2973 by omega) (sg_fl i (by omega))
  rw [show ((i * 7 + 150 : Nat) : Int) = (i : Int) * 7 + 150 by omega] at this
  exact this
theorem bj_fl {b v : Int} (hJ : br_J L xs μ) (h0 : 0 ≤ b) (h1 : b < 14) (hv : 0 ≤ v ∧ v ≤ 9)  : br_J L xs (iv_upd μ 196 (b * 7 + 150) v) := by
  obtain ⟨i, rfl⟩ := Int.eq_ofNat_of_zero_le h0
  exact br_J_now hJ (by omega) (by omega) (show se_seg (se_tt 56).2.2.2 ((i : Int) * 7 + 150).toNat = (0, 0, 9) by rw [show ((i : Int) * 7 + 150).toNat = i * 7 + 150 by omega]; exact sg_fl i (by omega)) hv ⟨by omega, by omega⟩
theorem sg_cel : ∀ i, i < 10 → se_seg (se_tt 56).2.2.2 (i * 7 + 81) = (0, 0, 35) := by decide
theorem rg_cel (hJ : br_J L xs μ) (hN : iv_N μ) {b : Int} (h0 : 0 ≤ b) (h1 : b < 10) : 0 ≤ μ 196 (b * 7 + 81) ∧ μ 196 (b * 7 + 81) ≤ 35 := by
  obtain ⟨i, rfl⟩ := Int.eq_ofNat_of_zero_le h0
  have := br_rg (p := 196) (k := i * 7 + 81) hJ hN (show st_ty 196 = some 56 from rfl) ⟨by decide, by decide⟩ (show i * 7 + 81 < 2973 by omega) (sg_cel i (by omega))
  rw [show ((i * 7 + 81 : Nat) : Int) = (i : Int) * 7 + 81 by omega] at this
  exact this
theorem bj_cel {b v : Int} (hJ : br_J L xs μ) (h0 : 0 ≤ b) (h1 : b < 10) (hv : 0 ≤ v ∧ v ≤ 35)  : br_J L xs (iv_upd μ 196 (b * 7 + 81) v) := by
  obtain ⟨i, rfl⟩ := Int.eq_ofNat_of_zero_le h0
  exact br_J_now hJ (by omega) (by omega) (show se_seg (se_tt 56).2.2.2 ((i : Int) * 7 + 81).toNat = (0, 0, 35) by rw [show ((i : Int) * 7 + 81).toNat = i * 7 + 81 by omega]; exact sg_cel i (by omega)) hv ⟨by omega, by omega⟩
theorem bj_4 {v : Int} (hJ : br_J L xs μ) (hi : iv_i32 v) : br_J L xs (iv_upd μ 196 4 v) := br_J_now hJ (by decide) (by decide) (show se_seg (se_tt 56).2.2.2 (4 : Int).toNat = (0, (-2147483648), 2147483647) from rfl) hi hi
theorem k_load {d : Nat} (hL : L ≤ 3072) (hd : 6 ≤ d) (hJ : br_J L xs μ) {a b g : Int} : iv_C L xs vz d 238 [(14, 195), (0, a), (0, b), (0, g)] μ (fun _ μ' => kq K3 μ μ') := by
  refine iv_C_N (fun hN _ => iv_C_of ?_)
  have hc := kn0 hJ hN
  refine sg_238_0 hL hd hc.1 hc.2 ?_ ?_ ?_ ?_ ?_ ?_ ?_ ?_ <;> intros <;> first | exact kq_up (kq_rfl _) (Or.inl (by decide)) | exact kq_up (kq_rfl _) (Or.inr (by omega))
theorem k_trade {d : Nat} (hL : L ≤ 3072) (hv : vz.category = 1) (hd : 50 ≤ d) (hJ : br_J L xs μ) {a b n g : Int} : iv_C L xs vz d 241 [(14, 195), (0, a), (0, b), (0, n), (0, g)] μ (fun _ μ' => kq K3 μ μ') := by
  refine iv_C_N (fun hN _ => iv_C_of ?_)
  have hc := kn0 hJ hN
  refine sg_241_0 hL (by omega) hc.1 hc.2 ?_ ?_ ?_ ?_ ?_ ?_ ?_ ?_ ?_ ?_ <;> intros <;> first | exact kq_up (kq_rfl _) (Or.inl (by decide)) | skip
  refine iv_call (want := 1) (y := 241) (pc := 71) (z := 233) (cls := 12) (sa := []) (th := [(14, 195)]) (r := [(0, a), (14, 195)]) (d' := d - 1) (show iv_cck 1 241 71 233 = true by decide +kernel) (Or.inl ⟨rfl, _, rfl⟩) (show iv_mck 1 233 0 12 1 = true by decide +kernel) (show (2 : Nat) ≤ 8 by decide) (by omega) (iv_C_mono (pb_233 hv (by omega) hJ) (fun v μ1 hp => ?_))
  obtain ⟨j1, f1, z, rfl, hz, -, -⟩ := hp
  have e1 := br_nil rfl f1
  rw [e1]
  refine iv_call (want := 1) (y := 241) (pc := 74) (z := 236) (cls := 12) (sa := [(0, z), (0, a)]) (th := [(14, 195)]) (r := []) (d' := d - 1) (show iv_cck 1 241 74 236 = true by decide +kernel) (Or.inl ⟨rfl, _, rfl⟩) (show iv_mck 1 236 2 12 3 = true by decide +kernel) (show (0 : Nat) ≤ 8 by decide) (by omega) (iv_C_mono (pb_236 hv (by omega) hJ ⟨by omega, by omega⟩) (fun v μ2 hp => ?_))
  obtain ⟨j2, f2, w, rfl, hw, -, -⟩ := hp
  have e2 := br_nil rfl f2
  rw [e2]
  refine sg_241_77 hL (by omega) (by omega) (by omega) (by omega) (by omega) ?_ ?_ ?_ ?_ ?_ ?_ ?_ <;> intros <;> first | exact kq_up (kq_rfl _) (Or.inl (by decide)) | exact kq_up (kq_up (kq_rfl _) (Or.inr (by omega))) (Or.inr (by omega))
theorem k_rains70 {d : Nat} (hL : L ≤ 3072) (hd : 6 ≤ d) {μ0 : iv_M} (hc : 0 ≤ μ0 196 0 ∧ μ0 196 0 ≤ 10) {v : Int} : ∀ (n : Nat) (l : Int) (μ : iv_M), 0 ≤ l → 10 ≤ l + n → kq K3 μ0 μ → iv_G L xs vz d 272 70 [some (14, 195), some (0, v), some (0, l), none] [] μ (fun _ μ' => kq K3 μ0 μ') := by
  intro n
  induction n with
  | zero =>
    intro l μ h0 h1 hk
    have e := hk 0 (Or.inl ⟨by decide, by decide⟩)
    refine sg_272_70 hL hd h0 (by omega) (by omega) ?_ ?_ ?_ ?_ ?_ <;> intros <;> first | exact hk | omega
  | succ n ih =>
    intro l μ h0 h1 hk
    have e := hk 0 (Or.inl ⟨by decide, by decide⟩)
    refine sg_272_70 hL hd h0 (by omega) (by omega) ?_ ?_ ?_ ?_ ?_ <;> intros <;> first | exact hk | exact ih _ _ (by omega) (by omega) hk | exact ih _ _ (by omega) (by omega) (kq_up hk (Or.inr (by omega))) | exact ih _ _ (by omega) (by omega) (kq_up (kq_up hk (Or.inr (by omega))) (Or.inr (by omega)))
theorem k_rains2 {d : Nat} (hL : L ≤ 3072) (hd : 6 ≤ d) {μ0 : iv_M} (hc : 0 ≤ μ0 196 0 ∧ μ0 196 0 ≤ 10) {v : Int} : ∀ (n : Nat) (l : Int) (μ : iv_M), 0 ≤ l → 10 ≤ l + n → kq K3 μ0 μ → iv_G L xs vz d 272 2 [some (14, 195), some (0, v), some (0, l), none] [] μ (fun _ μ' => kq K3 μ0 μ') := by
  intro n
  induction n with
  | zero =>
    intro l μ h0 h1 hk
    have e := hk 0 (Or.inl ⟨by decide, by decide⟩)
    refine sg_272_2 hL hd h0 (by omega) (by omega) ?_ ?_ ?_ ?_ ?_ ?_ ?_ ?_ ?_ ?_ ?_ ?_ <;> intros <;> first | exact k_rains70 hL hd hc 10 0 _ (by decide) (by decide) hk | omega
  | succ n ih =>
    intro l μ h0 h1 hk
    have e := hk 0 (Or.inl ⟨by decide, by decide⟩)
    refine sg_272_2 hL hd h0 (by omega) (by omega) ?_ ?_ ?_ ?_ ?_ ?_ ?_ ?_ ?_ ?_ ?_ ?_ <;> intros <;> first | exact k_rains70 hL hd hc 10 0 _ (by decide) (by decide) hk | exact ih _ _ (by omega) (by omega) hk | exact iv_wk (ih (l + 1) _ (by omega) (by omega) (kq_up hk (Or.inr (by omega)))) ⟨Or.inr rfl, Or.inr rfl, Or.inr rfl, Or.inl rfl, trivial⟩ | exact ih _ _ (by omega) (by omega) (kq_up (kq_up hk (Or.inr (by omega))) (Or.inr (by omega)))
theorem k_rains {d : Nat} (hL : L ≤ 3072) (hd : 6 ≤ d) (hJ : br_J L xs μ) {v : Int} : iv_C L xs vz d 272 [(14, 195), (0, v)] μ (fun _ μ' => kq K3 μ μ') := by
  refine iv_C_N (fun hN _ => iv_C_of ?_)
  exact sg_272_0 hL hd (k_rains2 hL hd (kn0 hJ hN) 10 0 μ (by decide) (by decide) (kq_rfl _))
def k_cin (μ : iv_M) : Prop := ∀ i : Int, 0 ≤ i → i < 10 → 0 ≤ μ 196 (i * 7 + 81) ∧ μ 196 (i * 7 + 81) ≤ 35
theorem k_cin_up {b v : Int} (h : k_cin μ) (hv : 0 ≤ v ∧ v ≤ 35) : k_cin (iv_upd μ 196 (b * 7 + 81) v) := fun i h0 h1 => by
  by_cases e : i = b
  · subst e
    rw [iv_upd_same]
    exact hv
  · rw [iv_upd_ne μ v (Or.inr (by omega))]
    exact h i h0 h1
theorem k_drifts2 {d : Nat} (hL : L ≤ 3072) (hd : 6 ≤ d) {μ0 : iv_M} (hc : 0 ≤ μ0 196 0 ∧ μ0 196 0 ≤ 10) : ∀ (n : Nat) (l : Int) (μ : iv_M), 0 ≤ l → 10 ≤ l + n → kq K3 μ0 μ → k_cin μ → iv_G L xs vz d 279 2 [some (14, 195), some (0, l)] [] μ (fun _ μ' => kq K3 μ0 μ') := by
  intro n
  induction n with
  | zero =>
    intro l μ h0 h1 hk hcn
    have e := hk 0 (Or.inl ⟨by decide, by decide⟩)
    refine sg_279_2 hL hd h0 (by omega) (by omega) ?_ ?_ ?_ ?_ ?_ ?_ ?_ ?_ ?_ <;> intros <;> first | exact hk | omega
  | succ n ih =>
    intro l μ h0 h1 hk hcn
    have e := hk 0 (Or.inl ⟨by decide, by decide⟩)
    by_cases hl : l < μ 196 0
    · have c := hcn l h0 (by omega)
      have w1 := iv_w_id (x := 2 * μ 196 (l * 7 + 81)) (by omega) (by omega)
      have w2 := iv_w_id (x := 8 + iv_w (2 * μ 196 (l * 7 + 81))) (by omega) (by omega)
      refine sg_279_2 hL hd h0 (by omega) (by omega) ?_ ?_ ?_ ?_ ?_ ?_ ?_ ?_ ?_ <;> intros <;> first | omega | exact ih _ _ (by omega) (by omega) hk hcn | exact ih _ _ (by omega) (by omega) (kq_up hk (Or.inr (by omega))) (k_cin_up hcn c) | exact ih _ _ (by omega) (by omega) (kq_up hk (Or.inr (by omega))) (k_cin_up hcn (by omega))
    · refine sg_279_2 hL hd h0 (by omega) (by omega) ?_ ?_ ?_ ?_ ?_ ?_ ?_ ?_ ?_ <;> intros <;> first | exact hk | omega
theorem k_drifts {d : Nat} (hL : L ≤ 3072) (hd : 6 ≤ d) (hJ : br_J L xs μ) : iv_C L xs vz d 279 [(14, 195)] μ (fun _ μ' => kq K3 μ μ') := by
  refine iv_C_N (fun hN _ => iv_C_of ?_)
  exact sg_279_0 hL hd (k_drifts2 hL hd (kn0 hJ hN) 10 0 μ (by decide) (by decide) (kq_rfl _) (fun i h0 h1 => rg_cel hJ hN h0 h1))
theorem k_drink51 {d : Nat} (hL : L ≤ 3072) (hv : vz.category = 1) (hd : 60 ≤ d) {P : iv_P} {μ : iv_M} (hJ : br_J L xs μ) (hN : iv_N μ) {a p q : Int} (hp : 0 ≤ p ∧ p ≤ 13) (hk : ∀ μ', br_J L xs μ' → kq K3 μ μ' → iv_G L xs vz d 274 7 [some (14, 195), some (0, a), some (0, p + 1), none, none, none] [] μ' P) : ∀ (n : Nat) (l b : Int), 0 ≤ l → 10 ≤ l + n → 0 ≤ b → b ≤ 9 → iv_G L xs vz d 274 51 [some (14, 195), some (0, a), some (0, p), some (0, q), some (0, b), some (0, l)] [] μ P := by
  have hc := kn0 hJ hN
  have hf := rg_fl hJ hN hp.1 (show p < 14 by omega)
  have wk : ∀ (μ' : iv_M) (x y z : Int), br_J L xs μ' → kq K3 μ μ' → iv_G L xs vz d 274 7 [some (14, 195), some (0, a), some (0, p + 1), some (0, x), some (0, y), some (0, z)] [] μ' P := fun μ' x y z h1 h2 => iv_wk (hk μ' h1 h2) ⟨Or.inr rfl, Or.inr rfl, Or.inr rfl, Or.inl rfl, Or.inl rfl, Or.inl rfl, trivial⟩
  have die : ∀ (μ' : iv_M) (x y z : Int), br_J L xs μ' → kq K3 μ μ' → iv_G L xs vz d 274 165 [some (14, 195), some (0, a), some (0, p), some (0, x), some (0, y), some (0, z)] [(0, x), (0, p), (14, 195)] μ' P := by
    intro μ' x y z h1 h2
    refine iv_call (want := 1) (y := 274) (pc := 165) (z := 275) (cls := 12) (sa := [(0, x), (0, p)]) (th := [(14, 195)]) (r := []) (d' := d - 1) (show iv_cck 1 274 165 275 = true by decide +kernel) (Or.inl ⟨rfl, _, rfl⟩) (show iv_mck 1 275 2 12 3 = true by decide +kernel) (show (0 : Nat) ≤ 8 by decide) (by omega) (iv_C_mono (pb_275 hv (by omega) h1 ⟨hp.1, hp.2⟩) (fun v μ1 hq => ?_))
    obtain ⟨j1, f1, rfl⟩ := hq
    exact sg_274_168 hL (by omega) hp.1 hp.2 (wk μ1 x y z j1 (kq_tr h2 (kq_br (by decide +kernel) f1)))
  have g1 : ∀ b, 0 ≤ b → b ≤ 9 → ∀ v1 v2, br_J L xs (iv_upd (iv_upd (iv_upd μ 196 (b * 7 + 84) (iv_w v1)) 196 4 (iv_w v2)) 196 (p * 7 + 156) 0) ∧ kq K3 μ (iv_upd (iv_upd (iv_upd μ 196 (b * 7 + 84) (iv_w v1)) 196 4 (iv_w v2)) 196 (p * 7 + 156) 0) := fun b h0 h1 v1 v2 => ⟨bj_thi (bj_4 (bj_wat hJ h0 (by omega) (iv_w_i32 _)) (iv_w_i32 _)) hp.1 (by omega) ⟨by decide, by decide⟩, kq_up (kq_up (kq_up (kq_rfl _) (Or.inr (by omega))) (Or.inr (by decide))) (Or.inr (by omega))⟩
  have g2 : ∀ v1, br_J L xs (iv_upd μ 196 (p * 7 + 156) (iv_w v1)) ∧ kq K3 μ (iv_upd μ 196 (p * 7 + 156) (iv_w v1)) := fun v1 => ⟨bj_thi hJ hp.1 (by omega) (iv_w_i32 _), kq_up (kq_rfl _) (Or.inr (by omega))⟩
  intro n
  induction n with
  | zero =>
    intro l b h0 h1 b0 b1
    refine sg_274_51 hL (by omega) hf.1 hf.2 hp.1 hp.2 b0 b1 hp.1 h0 hc.1 hc.2 ?_ ?_ ?_ ?_ ?_ ?_ ?_ ?_ ?_ ?_ ?_ <;> intros
    · exact wk _ _ _ _ (g1 b b0 b1 _ _).1 (g1 b b0 b1 _ _).2
    · exact die _ _ _ _ (g1 b b0 b1 _ _).1 (g1 b b0 b1 _ _).2
    · exact wk _ _ _ _ (g2 _).1 (g2 _).2
    · exact die _ _ _ _ (g2 _).1 (g2 _).2
    · exact wk _ _ _ _ (g1 b b0 b1 _ _).1 (g1 b b0 b1 _ _).2
    · exact die _ _ _ _ (g1 b b0 b1 _ _).1 (g1 b b0 b1 _ _).2
    · exact wk _ _ _ _ (g2 _).1 (g2 _).2
    · exact die _ _ _ _ (g2 _).1 (g2 _).2
    · omega
    · omega
    · omega
  | succ n ih =>
    intro l b h0 h1 b0 b1
    refine sg_274_51 hL (by omega) hf.1 hf.2 hp.1 hp.2 b0 b1 hp.1 h0 hc.1 hc.2 ?_ ?_ ?_ ?_ ?_ ?_ ?_ ?_ ?_ ?_ ?_ <;> intros
    · exact wk _ _ _ _ (g1 b b0 b1 _ _).1 (g1 b b0 b1 _ _).2
    · exact die _ _ _ _ (g1 b b0 b1 _ _).1 (g1 b b0 b1 _ _).2
    · exact wk _ _ _ _ (g2 _).1 (g2 _).2
    · exact die _ _ _ _ (g2 _).1 (g2 _).2
    · exact wk _ _ _ _ (g1 b b0 b1 _ _).1 (g1 b b0 b1 _ _).2
    · exact die _ _ _ _ (g1 b b0 b1 _ _).1 (g1 b b0 b1 _ _).2
    · exact wk _ _ _ _ (g2 _).1 (g2 _).2
    · exact die _ _ _ _ (g2 _).1 (g2 _).2
    · exact ih _ _ (by omega) (by omega) (by omega) (by omega)
    · exact ih _ _ (by omega) (by omega) (by omega) (by omega)
    · exact ih _ _ (by omega) (by omega) (by omega) (by omega)
theorem k_drink7 {d : Nat} (hL : L ≤ 3072) (hv : vz.category = 1) (hd : 60 ≤ d) {a : Int} {μ0 : iv_M} (hc : 0 ≤ μ0 196 1 ∧ μ0 196 1 ≤ 14) : ∀ (n : Nat) (p : Int) (μ : iv_M), 0 ≤ p → 14 ≤ p + n → br_J L xs μ → kq K3 μ0 μ → iv_G L xs vz d 274 7 [some (14, 195), some (0, a), some (0, p), none, none, none] [] μ (fun _ μ' => kq K3 μ0 μ') := by
  intro n
  induction n with
  | zero =>
    intro p μ h0 h1 hJ hk
    have e := hk 1 (Or.inl ⟨by decide, by decide⟩)
    refine sg_274_7 hL (by omega) h0 (by omega) (by omega) ?_ ?_ ?_ <;> intros <;> first | exact hk | omega
  | succ n ih =>
    intro p μ h0 h1 hJ hk
    have e := hk 1 (Or.inl ⟨by decide, by decide⟩)
    refine iv_intro (fun hN _ _ => ?_)
    refine sg_274_7 hL (by omega) h0 (by omega) (by omega) ?_ ?_ ?_ <;> intros <;> first | exact hk | exact ih _ _ (by omega) (by omega) hJ hk | skip
    have hf := rg_fl hJ hN h0 (show p < 14 by omega)
    refine iv_call (want := 1) (y := 274) (pc := 36) (z := 236) (cls := 12) (sa := [(0, a), (0, μ 196 (p * 7 + 150))]) (th := [(14, 195)]) (r := []) (d' := d - 1) (show iv_cck 1 274 36 236 = true by decide +kernel) (Or.inl ⟨rfl, _, rfl⟩) (show iv_mck 1 236 2 12 3 = true by decide +kernel) (show (0 : Nat) ≤ 8 by decide) (by omega) (iv_C_mono (pb_236 hv (by omega) hJ ⟨hf.1, hf.2⟩) (fun v μ2 hp => ?_))
    obtain ⟨j2, f2, w, rfl, hw, -, -⟩ := hp
    have e2 := br_nil rfl f2
    rw [e2]
    refine sg_274_39 hL (by omega) hf.1 hf.2 h0 (by omega) ?_
    exact k_drink51 hL hv hd hJ hN ⟨h0, by omega⟩ (fun μ' j k => ih _ _ (by omega) (by omega) j (kq_tr hk k)) 10 0 _ (by decide) (by decide) hf.1 hf.2
theorem k_drink {d : Nat} (hL : L ≤ 3072) (hv : vz.category = 1) (hd : 60 ≤ d) (hJ : br_J L xs μ) : iv_C L xs vz d 274 [(14, 195)] μ (fun _ μ' => kq K3 μ μ') := by
  refine iv_C_N (fun hN _ => iv_C_of ?_)
  refine sg_274_0 hL (by omega) ?_
  refine iv_call (want := 1) (y := 274) (pc := 1) (z := 233) (cls := 12) (sa := []) (th := [(14, 195)]) (r := []) (d' := d - 1) (show iv_cck 1 274 1 233 = true by decide +kernel) (Or.inl ⟨rfl, _, rfl⟩) (show iv_mck 1 233 0 12 1 = true by decide +kernel) (show (0 : Nat) ≤ 8 by decide) (by omega) (iv_C_mono (pb_233 hv (by omega) hJ) (fun v μ1 hp => ?_))
  obtain ⟨j1, f1, z, rfl, hz, -, -⟩ := hp
  have e1 := br_nil rfl f1
  rw [e1]
  exact sg_274_4 hL (by omega) (k_drink7 hL hv hd (kn1 hJ hN) 14 0 μ (by decide) (by decide) hJ (kq_rfl _))
abbrev Kf (f k : Int) : Prop := (0 ≤ k ∧ k ≤ 3) ∨ (80 ≤ k ∧ k < 150 ∧ (k % 7 = 3 ∨ k % 7 = 5 ∨ (k % 7 = 2 ∧ k ≠ f * 7 + 86)))
theorem kq_3f {f : Int} {μ μ' : iv_M} (h : kq K3 μ μ') : kq (Kf f) μ μ' := fun k hk => h k (by omega)
theorem kq_f1 {f : Int} {μ μ' : iv_M} (h : kq (Kf f) μ μ') : kq K1 μ μ' := fun k hk => h k (by omega)
theorem k_sink137 {d : Nat} (hL : L ≤ 3072) (hd : 6 ≤ d) {f a b : Int} (hf : 0 ≤ f ∧ f ≤ 9) {P : iv_P} {μ0 : iv_M} (hc : 0 ≤ μ0 196 2 ∧ μ0 196 2 ≤ 12) (hP : ∀ μ', kq K3 μ0 μ' → P none μ') : ∀ (n : Nat) (l : Int) (μ : iv_M), 0 ≤ l → 12 ≤ l + n → kq K3 μ0 μ → iv_G L xs vz d 278 137 [some (14, 195), some (0, f), some (0, a), some (0, b), some (0, l)] [] μ P := by
  intro n
  induction n with
  | zero =>
    intro l μ h0 h1 hk
    have e := hk 2 (Or.inl ⟨by decide, by decide⟩)
    refine sg_278_137 hL hd hf.1 hf.2 h0 (by omega) (by omega) ?_ ?_ ?_ ?_ <;> intros <;> first | exact hP _ hk | omega
  | succ n ih =>
    intro l μ h0 h1 hk
    have e := hk 2 (Or.inl ⟨by decide, by decide⟩)
    refine sg_278_137 hL hd hf.1 hf.2 h0 (by omega) (by omega) ?_ ?_ ?_ ?_ <;> intros <;> first | exact hP _ hk | exact ih _ _ (by omega) (by omega) hk | exact ih _ _ (by omega) (by omega) (kq_up hk (Or.inr (by omega)))
theorem k_others {f a : Int} (hf : 0 ≤ f ∧ f ≤ 9) (ha : 1 ≤ a ∧ a ≤ 1023) (h : iv_and a (iv_xor (iv_shl 1 f) (-1)) ≠ 0) : 1 ≤ iv_and a (iv_xor (iv_shl 1 f) (-1)) ∧ iv_and a (iv_xor (iv_shl 1 f) (-1)) ≤ 1023 := by
  have h1 := se_and_l (x := Int32.ofInt a) (y := Int32.ofInt (iv_xor (iv_shl 1 f) (-1))) (by rw [iv_of32 ⟨by omega, by omega⟩]; omega)
  rw [iv_of32 ⟨by omega, by omega⟩] at h1
  have h2 : 0 ≤ iv_and a (iv_xor (iv_shl 1 f) (-1)) ∧ iv_and a (iv_xor (iv_shl 1 f) (-1)) ≤ a := h1
  omega
theorem k_sink28 {d : Nat} (hL : L ≤ 3072) (hv : vz.category = 1) (hd : 60 ≤ d) {f a b : Int} (hf : 0 ≤ f ∧ f ≤ 9) (hb : b = 0 ∨ (1 ≤ b ∧ b ≤ 1023)) {μ0 : iv_M} (hc : 0 ≤ μ0 196 1 ∧ μ0 196 1 ≤ 14) (hc2 : 0 ≤ μ0 196 2 ∧ μ0 196 2 ≤ 12) : ∀ (n : Nat) (l : Int) (μ : iv_M), 0 ≤ l → 14 ≤ l + n → br_J L xs μ → kq (Kf f) μ0 μ → iv_G L xs vz d 278 28 [some (14, 195), some (0, f), some (0, a), some (0, b), some (0, l)] [] μ (fun _ μ' => kq (Kf f) μ0 μ' ∧ μ' 196 (f * 7 + 86) = 1) := by
  intro n
  have out : ∀ (μ : iv_M) (v1 : Int), kq (Kf f) μ0 μ → iv_G L xs vz d 278 137 [some (14, 195), some (0, f), some (0, a), some (0, b), some (0, 0)] [] (iv_upd (iv_upd (iv_upd (iv_upd μ 196 5 v1) 196 (f * 7 + 84) 0) 196 (f * 7 + 85) 0) 196 (f * 7 + 86) 1) (fun _ μ' => kq (Kf f) μ0 μ' ∧ μ' 196 (f * 7 + 86) = 1) := by
    intro μ v1 hk
    have h1 : kq (Kf f) μ0 (iv_upd (iv_upd (iv_upd (iv_upd μ 196 5 v1) 196 (f * 7 + 84) 0) 196 (f * 7 + 85) 0) 196 (f * 7 + 86) 1) := kq_up (kq_up (kq_up (kq_up hk (Or.inr (by omega))) (Or.inr (by omega))) (Or.inr (by omega))) (Or.inr (by omega))
    refine k_sink137 hL (by omega) hf (by rw [h1 2 (Or.inl ⟨by decide, by decide⟩)]; exact hc2) (fun μ' h => ⟨fun k hk' => (h k (by omega)).trans (h1 k hk'), (h (f * 7 + 86) (by omega)).trans (iv_upd_same _ _ _ _)⟩) 12 0 _ (by decide) (by decide) (kq_rfl _)
  induction n with
  | zero =>
    intro l μ h0 h1 hJ hk
    have e := hk 1 (Or.inl ⟨by decide, by decide⟩)
    refine sg_278_28 hL (by omega) hf.1 hf.2 h0 (by omega) (by omega) ?_ ?_ ?_ ?_ ?_ <;> intros <;> first | exact out _ _ hk | omega
  | succ n ih =>
    intro l μ h0 h1 hJ hk
    have e := hk 1 (Or.inl ⟨by decide, by decide⟩)
    refine sg_278_28 hL (by omega) hf.1 hf.2 h0 (by omega) (by omega) ?_ ?_ ?_ ?_ ?_ <;> intros <;> first | exact out _ _ hk | exact ih _ _ (by omega) (by omega) hJ hk | skip
    · refine iv_call (want := 0) (y := 278) (pc := 80) (z := 237) (cls := 0) (sa := [(0, b)]) (th := []) (r := [(0, l * 7 + 150), (112, 196)]) (d' := d - 1) (show iv_cck 0 278 80 237 = true by decide +kernel) (Or.inr ⟨rfl, rfl⟩) (show iv_mck 0 237 1 0 1 = true by decide +kernel) (show (2 : Nat) ≤ 8 by decide) (by omega) (iv_C_mono (pb_237 hv (by omega) hJ (by omega)) (fun v μ2 hp => ?_))
      obtain ⟨j2, f2, w, rfl, hw, w1, w2⟩ := hp
      have e2 := br_nil rfl f2
      rw [e2]
      have w1 : 0 ≤ w := w1
      have w2 : w ≤ 9 := w2
      refine sg_278_83 hL (by omega) h0 (by omega) hf.1 hf.2 ?_ ?_ <;> intros
      · exact ih _ _ (by omega) (by omega) (bj_fl hJ h0 (by omega) ⟨w1, w2⟩) (kq_up hk (Or.inr (by omega)))
      · omega
    · refine iv_call (want := 1) (y := 278) (pc := 60) (z := 275) (cls := 12) (sa := [(0, a), (0, l)]) (th := [(14, 195)]) (r := []) (d' := d - 1) (show iv_cck 1 278 60 275 = true by decide +kernel) (Or.inl ⟨rfl, _, rfl⟩) (show iv_mck 1 275 2 12 3 = true by decide +kernel) (show (0 : Nat) ≤ 8 by decide) (by omega) (iv_C_mono (pb_275 hv (by omega) hJ ⟨h0, by omega⟩) (fun v μ2 hp => ?_))
      obtain ⟨j2, f2, rfl⟩ := hp
      exact sg_278_63 hL (by omega) h0 (by omega) hf.1 hf.2 (ih _ _ (by omega) (by omega) j2 (kq_tr hk (kq_3f (kq_br (by decide +kernel) f2))))
theorem k_sinks {d : Nat} (hL : L ≤ 3072) (hv : vz.category = 1) (hd : 60 ≤ d) (hJ : br_J L xs μ) {f : Int} (hf : 0 ≤ f ∧ f ≤ 9) : iv_C L xs vz d 278 [(14, 195), (0, f)] μ (fun _ μ' => kq (Kf f) μ μ' ∧ μ' 196 (f * 7 + 86) = 1) := by
  refine iv_C_N (fun hN _ => iv_C_of ?_)
  refine sg_278_0 hL (by omega) ?_
  refine iv_call (want := 1) (y := 278) (pc := 3) (z := 233) (cls := 12) (sa := []) (th := [(14, 195)]) (r := [(0, f), (14, 195)]) (d' := d - 1) (show iv_cck 1 278 3 233 = true by decide +kernel) (Or.inl ⟨rfl, _, rfl⟩) (show iv_mck 1 233 0 12 1 = true by decide +kernel) (show (2 : Nat) ≤ 8 by decide) (by omega) (iv_C_mono (pb_233 hv (by omega) hJ) (fun v μ1 hp => ?_))
  obtain ⟨j1, f1, z, rfl, hz, -, -⟩ := hp
  have e1 := br_nil rfl f1
  rw [e1]
  refine iv_call (want := 1) (y := 278) (pc := 6) (z := 236) (cls := 12) (sa := [(0, z), (0, f)]) (th := [(14, 195)]) (r := []) (d' := d - 1) (show iv_cck 1 278 6 236 = true by decide +kernel) (Or.inl ⟨rfl, _, rfl⟩) (show iv_mck 1 236 2 12 3 = true by decide +kernel) (show (0 : Nat) ≤ 8 by decide) (by omega) (iv_C_mono (pb_236 hv (by omega) hJ hf) (fun v μ2 hp => ?_))
  obtain ⟨j2, f2, w, rfl, hw, w1, w2⟩ := hp
  have w1 : 1 ≤ w := w1
  have w2 : w ≤ 1023 := w2
  have e2 := br_nil rfl f2
  rw [e2]
  refine sg_278_9 hL (by omega) hf.1 hf.2 ?_
  refine iv_call (want := 1) (y := 278) (pc := 14) (z := 255) (cls := 12) (sa := [(0, w), (0, f), (0, 4)]) (th := [(14, 195)]) (r := []) (d' := d - 1) (show iv_cck 1 278 14 255 = true by decide +kernel) (Or.inl ⟨rfl, _, rfl⟩) (show iv_mck 1 255 3 12 4 = true by decide +kernel) (show (0 : Nat) ≤ 8 by decide) (by omega) (iv_C_mono (pb_255 hv (by omega) hJ) (fun v μ3 hp => ?_))
  obtain ⟨j3, f3, rfl⟩ := hp
  refine sg_278_17 hL (by omega) hf.1 hf.2 ?_
  have hb : iv_and w (iv_xor (iv_shl 1 f) (-1)) = 0 ∨ (1 ≤ iv_and w (iv_xor (iv_shl 1 f) (-1)) ∧ iv_and w (iv_xor (iv_shl 1 f) (-1)) ≤ 1023) := by
    by_cases q : iv_and w (iv_xor (iv_shl 1 f) (-1)) = 0
    · exact Or.inl q
    · exact Or.inr (k_others hf ⟨w1, w2⟩ q)
  exact k_sink28 hL hv hd hf hb (kn1 hJ hN) (kn2 hJ hN) 14 0 μ3 (by decide) (by decide) j3 (kq_3f (kq_br (by decide +kernel) f3))
/-- a float's planks and whether it is sunk after a day's rot, on either side -/
def rpR (t k p s : Int) : Int := if s = 1 ∨ (k ≠ 5 ∧ iv_rem t 10 ≠ 0) then p else iv_w (p - 1)
def rsR (t k p s : Int) : Int := if s = 1 ∨ (k ≠ 5 ∧ iv_rem t 10 ≠ 0) then s else if iv_w (p - 1) = 0 then 1 else s
def rpC (t k p s : Int) : Int := if s ≠ 0 ∨ (k ≠ 5 ∧ iv_rem t 10 ≠ 0) then p else iv_w (p - 1)
def rsC (t k p s : Int) : Int := if s ≠ 0 ∨ (k ≠ 5 ∧ iv_rem t 10 ≠ 0) then s else if iv_w (p - 1) ≤ 0 then 1 else s
def rinv (F G : Int → Int → Int → Int) (l : Int) (k p0 s0 p s : Int → Int) : Prop := ∀ i, 0 ≤ i → i < 10 → (i < l → p i = F (k i) (p0 i) (s0 i) ∧ s i = G (k i) (p0 i) (s0 i)) ∧ (l ≤ i → p i = p0 i ∧ s i = s0 i)
theorem rinv_0 {F G : Int → Int → Int → Int} {k p s : Int → Int} : rinv F G 0 k p s p s := fun i i0 i1 => ⟨fun q => by omega, fun _ => ⟨rfl, rfl⟩⟩
theorem rinv_next {F G : Int → Int → Int → Int} {l : Int} {k p0 s0 p s p' s' : Int → Int} (h : rinv F G l k p0 s0 p s) (hr : ∀ i, 0 ≤ i → i < 10 → i ≠ l → p' i = p i ∧ s' i = s i) (hp : p' l = F (k l) (p l) (s l)) (hs : s' l = G (k l) (p l) (s l)) : rinv F G (l + 1) k p0 s0 p' s' := fun i i0 i1 => by
  by_cases e : i = l
  · subst e
    obtain ⟨a, b⟩ := (h i i0 i1).2 (Int.le_refl _)
    exact ⟨fun _ => ⟨by rw [hp, a, b], by rw [hs, a, b]⟩, fun q => by omega⟩
  · obtain ⟨a, b⟩ := hr i i0 i1 e
    rw [a, b]
    exact ⟨fun q => (h i i0 i1).1 (by omega), fun q => (h i i0 i1).2 (by omega)⟩
abbrev kR (μ : iv_M) : Int → Int := fun i => μ 196 (i * 7 + 80)
abbrev pR (μ : iv_M) : Int → Int := fun i => μ 196 (i * 7 + 82)
abbrev sR (μ : iv_M) : Int → Int := fun i => μ 196 (i * 7 + 86)
theorem k_rots2 {d : Nat} (hL : L ≤ 3072) (hv : vz.category = 1) (hd : 70 ≤ d) {P : iv_P} {μ0 : iv_M} (hc : 0 ≤ μ0 196 0 ∧ μ0 196 0 ≤ 10) (hP : ∀ μ', kq K1 μ0 μ' → rinv (rpR (μ0 196 3)) (rsR (μ0 196 3)) (μ0 196 0) (kR μ0) (pR μ0) (sR μ0) (pR μ') (sR μ') → br_J L xs μ' → P none μ') : ∀ (n : Nat) (l : Int) (μ : iv_M), 0 ≤ l → 10 ≤ l + n → l ≤ μ0 196 0 → br_J L xs μ → kq K1 μ0 μ → rinv (rpR (μ0 196 3)) (rsR (μ0 196 3)) l (kR μ0) (pR μ0) (sR μ0) (pR μ) (sR μ) → iv_G L xs vz d 277 2 [some (14, 195), some (0, l)] [] μ P := by
  intro n
  have fin : ∀ (l : Int) (μ : iv_M), l ≥ μ 196 0 → l ≤ μ0 196 0 → br_J L xs μ → kq K1 μ0 μ → rinv (rpR (μ0 196 3)) (rsR (μ0 196 3)) l (kR μ0) (pR μ0) (sR μ0) (pR μ) (sR μ) → P none μ := fun l μ h1 h2 hJ hk hr => by
    have e := hk 0 (Or.inl ⟨by decide, by decide⟩)
    rw [show l = μ0 196 0 by omega] at hr
    exact hP μ hk hr hJ
  induction n with
  | zero =>
    intro l μ h0 h1 h2 hJ hk hr
    have e := hk 0 (Or.inl ⟨by decide, by decide⟩)
    refine sg_277_2 hL (by omega) h0 (by omega) (by omega) ?_ ?_ ?_ ?_ ?_ ?_ ?_ <;> intros <;> first | exact fin l μ (by omega) h2 hJ hk hr | omega
  | succ n ih =>
    intro l μ h0 h1 h2 hJ hk hr
    have e := hk 0 (Or.inl ⟨by decide, by decide⟩)
    have e3 := hk 3 (Or.inl ⟨by decide, by decide⟩)
    have ek : l < 10 → kR μ0 l = μ 196 (l * 7 + 80) := fun q => (hk (l * 7 + 80) (by omega)).symm
    -- a float that stays as it is
    have stay : l < 10 → l < μ0 196 0 → (μ 196 (l * 7 + 86) = 1 ∨ (μ 196 (l * 7 + 80) ≠ 5 ∧ iv_rem (μ 196 3) 10 ≠ 0)) → iv_G L xs vz d 277 2 [some (14, 195), some (0, l + 1)] [] μ P := fun q q2 c => by
      refine ih _ _ (by omega) (by omega) (by omega) hJ hk (rinv_next hr (fun i _ _ _ => ⟨rfl, rfl⟩) ?_ ?_)
      · unfold rpR
        rw [ek q, ← e3, if_pos c]
      · unfold rsR
        rw [ek q, ← e3, if_pos c]
    -- a float that rots
    have rot : l < 10 → (μ 196 (l * 7 + 86) ≠ 1) → (μ 196 (l * 7 + 80) = 5 ∨ iv_rem (μ 196 3) 10 = 0) → ∀ μ', (∀ i, 0 ≤ i → i < 10 → i ≠ l → μ' 196 (i * 7 + 82) = μ 196 (i * 7 + 82) ∧ μ' 196 (i * 7 + 86) = μ 196 (i * 7 + 86)) → μ' 196 (l * 7 + 82) = iv_w (μ 196 (l * 7 + 82) - 1) → μ' 196 (l * 7 + 86) = (if iv_w (μ 196 (l * 7 + 82) - 1) = 0 then 1 else μ 196 (l * 7 + 86)) → rinv (rpR (μ0 196 3)) (rsR (μ0 196 3)) (l + 1) (kR μ0) (pR μ0) (sR μ0) (pR μ') (sR μ') := fun q c1 c2 μ' hr' hp hs => by
      have c : ¬ (μ 196 (l * 7 + 86) = 1 ∨ (μ 196 (l * 7 + 80) ≠ 5 ∧ iv_rem (μ 196 3) 10 ≠ 0)) := by omega
      refine rinv_next hr hr' ?_ ?_
      · unfold rpR
        rw [ek q, ← e3, if_neg c]
        exact hp
      · unfold rsR
        rw [ek q, ← e3, if_neg c]
        exact hs
    have ups : ∀ i, 0 ≤ i → i < 10 → i ≠ l → iv_upd μ 196 (l * 7 + 82) (iv_w (μ 196 (l * 7 + 82) - 1)) 196 (i * 7 + 82) = μ 196 (i * 7 + 82) ∧ iv_upd μ 196 (l * 7 + 82) (iv_w (μ 196 (l * 7 + 82) - 1)) 196 (i * 7 + 86) = μ 196 (i * 7 + 86) := fun i _ _ q => ⟨iv_upd_ne _ _ (Or.inr (by omega)), iv_upd_ne _ _ (Or.inr (by omega))⟩
    have ul : iv_upd μ 196 (l * 7 + 82) (iv_w (μ 196 (l * 7 + 82) - 1)) 196 (l * 7 + 82) = iv_w (μ 196 (l * 7 + 82) - 1) := iv_upd_same _ _ _ _
    have us : iv_upd μ 196 (l * 7 + 82) (iv_w (μ 196 (l * 7 + 82) - 1)) 196 (l * 7 + 86) = μ 196 (l * 7 + 86) := iv_upd_ne _ _ (Or.inr (by omega))
    have hk2 : l < 10 → kq K1 μ0 (iv_upd μ 196 (l * 7 + 82) (iv_w (μ 196 (l * 7 + 82) - 1))) := fun q => kq_up hk (Or.inr (by omega))
    have hJ2 : l < 10 → br_J L xs (iv_upd μ 196 (l * 7 + 82) (iv_w (μ 196 (l * 7 + 82) - 1))) := fun q => bj_pla hJ h0 q (iv_w_i32 _)
    have swim : l < 10 → l < μ0 196 0 → (μ 196 (l * 7 + 86) ≠ 1) → (μ 196 (l * 7 + 80) = 5 ∨ iv_rem (μ 196 3) 10 = 0) → iv_upd μ 196 (l * 7 + 82) (iv_w (μ 196 (l * 7 + 82) - 1)) 196 (l * 7 + 82) ≠ 0 → iv_G L xs vz d 277 2 [some (14, 195), some (0, l + 1)] [] (iv_upd μ 196 (l * 7 + 82) (iv_w (μ 196 (l * 7 + 82) - 1))) P := fun q q2 c1 c2 c3 => by
      rw [ul] at c3
      exact ih _ _ (by omega) (by omega) (by omega) (hJ2 q) (hk2 q) (rot q c1 c2 _ ups ul (by rw [us, if_neg c3]))
    have sink : l < 10 → l < μ0 196 0 → (μ 196 (l * 7 + 86) ≠ 1) → (μ 196 (l * 7 + 80) = 5 ∨ iv_rem (μ 196 3) 10 = 0) → iv_upd μ 196 (l * 7 + 82) (iv_w (μ 196 (l * 7 + 82) - 1)) 196 (l * 7 + 82) = 0 → iv_G L xs vz d 277 70 [some (14, 195), some (0, l)] [(0, l), (14, 195)] (iv_upd μ 196 (l * 7 + 82) (iv_w (μ 196 (l * 7 + 82) - 1))) P := fun q q2 c1 c2 c3 => by
      rw [ul] at c3
      refine iv_call (want := 1) (y := 277) (pc := 70) (z := 278) (cls := 12) (sa := [(0, l)]) (th := [(14, 195)]) (r := []) (d' := d - 1) (show iv_cck 1 277 70 278 = true by decide +kernel) (Or.inl ⟨rfl, _, rfl⟩) (show iv_mck 1 278 1 12 2 = true by decide +kernel) (show (0 : Nat) ≤ 8 by decide) (by omega) (iv_C_mono (iv_C_and (k_sinks hL hv (by omega) (hJ2 q) ⟨h0, by omega⟩) (pb_278 hv (by omega) (hJ2 q) ⟨h0, by omega⟩) (fun r μ' => br_J L xs μ' ∧ r = none) (fun r m1 r' m2 a1 a2 _ _ a3 => ?_)) (fun v μ2 hp => ?_))
      · obtain ⟨q1, -, q3⟩ := a3
        have q3 : r' = none := q3
        subst q3
        refine ⟨by unfold br_J at q1 ⊢; rw [a2]; exact q1, ?_⟩
        cases r with
        | none => rfl
        | some _ => cases a1
      · obtain ⟨⟨q1, q0⟩, q2', rfl⟩ := hp
        refine sg_277_73 hL (by omega) h0 (by omega) (ih _ _ (by omega) (by omega) (by omega) q2' (kq_tr (hk2 q) (kq_f1 q1)) (rot q c1 c2 _ (fun i i0 i1 hi => ?_) ?_ ?_))
        · obtain ⟨a, b⟩ := ups i i0 i1 hi
          exact ⟨(q1 (i * 7 + 82) (by omega)).trans a, (q1 (i * 7 + 86) (by omega)).trans b⟩
        · exact (q1 (l * 7 + 82) (by omega)).trans ul
        · rw [q0, if_pos c3]
    refine sg_277_2 hL (by omega) h0 (by omega) (by omega) ?_ ?_ ?_ ?_ ?_ ?_ ?_
    · intro q
      exact fin l μ q h2 hJ hk hr
    · intro q a b c
      exact swim (by omega) (by omega) a (Or.inl b) c
    · intro q a b c
      exact sink (by omega) (by omega) a (Or.inl b) c
    · intro q a b t c
      exact swim (by omega) (by omega) a (Or.inr t) c
    · intro q a b t c
      exact sink (by omega) (by omega) a (Or.inr t) c
    · intro q a b t
      exact stay (by omega) (by omega) (Or.inr ⟨b, t⟩)
    · intro q a
      exact stay (by omega) (by omega) (Or.inl a)
theorem k_rots {d : Nat} (hL : L ≤ 3072) (hv : vz.category = 1) (hd : 70 ≤ d) (hJ : br_J L xs μ) : iv_C L xs vz d 277 [(14, 195)] μ (fun _ μ' => kq K1 μ μ' ∧ rinv (rpR (μ 196 3)) (rsR (μ 196 3)) (μ 196 0) (kR μ) (pR μ) (sR μ) (pR μ') (sR μ')) := by
  refine iv_C_N (fun hN _ => iv_C_of ?_)
  have hc := kn0 hJ hN
  exact sg_277_0 hL (by omega) (k_rots2 hL hv hd hc (fun μ' a b _ => ⟨a, b⟩) 10 0 μ (by decide) (by decide) hc.1 hJ (kq_rfl _) rinv_0)
end K4
