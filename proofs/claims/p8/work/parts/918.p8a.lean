/-! ===== printed by wip/iv/gen_p8.py: what p8 relates ===== -/
def vK (μ : iv_M) : V8 := (μ 106 2, μ 106 4, μ 106 9, fun i => μ (i + 122) 0, fun i => μ (i + 122) 2, fun i => μ (i + 122) 6)
def vKR (μ : iv_M) : V8 := (μ 197 0, μ 197 1, μ 197 3, fun i => μ 197 (i * 7 + 80), fun i => μ 197 (i * 7 + 82), fun i => μ 197 (i * 7 + 86))
def veq (v w : V8) : Prop := w.1 = v.1 ∧ w.2.1 = v.2.1 ∧ w.2.2.1 = v.2.2.1 ∧ ∀ i : Int, 0 ≤ i → i < 10 → w.2.2.2.1 i = v.2.2.2.1 i ∧ w.2.2.2.2.1 i = v.2.2.2.2.1 i ∧ w.2.2.2.2.2 i = v.2.2.2.2.2 i
theorem veq_rfl (v : V8) : veq v v := ⟨rfl, rfl, rfl, fun _ _ _ => ⟨rfl, rfl, rfl⟩⟩
theorem veq_of {v w : V8} (h : w = v) : veq v w := by rw [h]; exact veq_rfl v
theorem veq_tr {a b c : V8} (h1 : veq a b) (h2 : veq b c) : veq a c := ⟨h2.1.trans h1.1, h2.2.1.trans h1.2.1, h2.2.2.1.trans h1.2.2.1, fun i i0 i1 => by
  obtain ⟨a1, a2, a3⟩ := h1.2.2.2 i i0 i1
  obtain ⟨b1, b2, b3⟩ := h2.2.2.2 i i0 i1
  exact ⟨b1.trans a1, b2.trans a2, b3.trans a3⟩⟩
theorem R8_cong {v w v' w' : V8} (h : R8 v w) (e : veq v v') (f : veq w w') : R8 v' w' := by
  obtain ⟨a1, a2, a3, a4⟩ := h
  refine ⟨by rw [e.1, f.1, a1], by rw [e.2.1, f.2.1, a2], by rw [e.2.2.1, f.2.2.1, a3], fun i i0 i1 => ?_⟩
  obtain ⟨b1, b2, b3⟩ := e.2.2.2 i i0 i1
  obtain ⟨c1, c2, c3⟩ := f.2.2.2 i i0 i1
  rw [b1, b2, b3, c1, c2, c3, e.1]
  exact a4 i i0 i1
theorem fr_n {W : se_W} {p c : Nat} {μ μ' : iv_M} (h : fr_l (fun i => (p, i * 7 + c)) W = true) (hf : ∀ p k, ¬ br_in W p k → μ' p k = μ p k) {i : Int} (i0 : 0 ≤ i) (i1 : i < 10) : μ' p (i * 7 + c) = μ p (i * 7 + c) := by
  obtain ⟨j, rfl⟩ := Int.eq_ofNat_of_zero_le i0
  have := fr_ok h hf j (by omega)
  dsimp only at this
  rw [show ((j * 7 + c : Nat) : Int) = (j : Int) * 7 + c by omega] at this
  exact this
def fS (μ μ' : iv_M) : Prop := ∀ s : Int, 0 ≤ s → s < 4 → μ' (s * 2 + 174) 0 = μ (s * 2 + 174) 0
def fs (μ μ' : iv_M) : Prop := ∀ s : Int, 0 ≤ s → s < 4 → μ' 209 s = μ 209 s
def fI (μ μ' : iv_M) : Prop := μ' 38 2 = μ 38 2
def fi (μ μ' : iv_M) : Prop := μ' 195 2 = μ 195 2
def fSW (W : se_W) : Bool := (List.range 4).all (fun s => rl_off W (s * 2 + 174, 0))
def fsW (W : se_W) : Bool := (List.range 4).all (fun s => rl_off W (209, s))
def fIW (W : se_W) : Bool := rl_off W (38, 2)
def fiW (W : se_W) : Bool := rl_off W (195, 2)
theorem fS_of {W : se_W} {μ μ' : iv_M} (h : fSW W = true) (hf : ∀ p k, ¬ br_in W p k → μ' p k = μ p k) : fS μ μ' := fun s s0 s1 => by
  obtain ⟨j, rfl⟩ := Int.eq_ofNat_of_zero_le s0
  have := hf _ _ (rl_off_ok (List.all_eq_true.mp h j (List.mem_range.mpr (by omega))))
  dsimp only at this
  rw [show ((j * 2 + 174 : Nat) : Int) = (j : Int) * 2 + 174 by omega] at this
  exact this
theorem fs_of {W : se_W} {μ μ' : iv_M} (h : fsW W = true) (hf : ∀ p k, ¬ br_in W p k → μ' p k = μ p k) : fs μ μ' := fun s s0 s1 => by
  obtain ⟨j, rfl⟩ := Int.eq_ofNat_of_zero_le s0
  exact hf _ _ (rl_off_ok (List.all_eq_true.mp h j (List.mem_range.mpr (by omega))))
theorem fI_of {W : se_W} {μ μ' : iv_M} (h : fIW W = true) (hf : ∀ p k, ¬ br_in W p k → μ' p k = μ p k) : fI μ μ' := hf 38 2 (rl_off_ok (s := (38, 2)) h)
theorem fi_of {W : se_W} {μ μ' : iv_M} (h : fiW W = true) (hf : ∀ p k, ¬ br_in W p k → μ' p k = μ p k) : fi μ μ' := hf 195 2 (rl_off_ok (s := (195, 2)) h)
theorem fS_tr {a b c : iv_M} (h1 : fS a b) (h2 : fS b c) : fS a c := fun s s0 s1 => (h2 s s0 s1).trans (h1 s s0 s1)
theorem fs_tr {a b c : iv_M} (h1 : fs a b) (h2 : fs b c) : fs a c := fun s s0 s1 => (h2 s s0 s1).trans (h1 s s0 s1)
theorem fI_tr {a b c : iv_M} (h1 : fI a b) (h2 : fI b c) : fI a c := Eq.trans h2 h1
theorem fi_tr {a b c : iv_M} (h1 : fi a b) (h2 : fi b c) : fi a c := Eq.trans h2 h1
def fL (μ μ' : iv_M) : Prop := veq (vC μ) (vC μ')
theorem fL_tr {a b c : iv_M} (h1 : fL a b) (h2 : fL b c) : fL a c := veq_tr h1 h2
def fLW (W : se_W) : Bool := rl_off W (39, 2) && (rl_off W (39, 4) && (rl_off W (39, 9) && (fr_l (fun i => (i + 55, 0)) W && (fr_l (fun i => (i + 55, 2)) W && (fr_l (fun i => (i + 55, 6)) W)))))
theorem fL_of {W : se_W} {μ μ' : iv_M} (h : fLW W = true) (hf : ∀ p k, ¬ br_in W p k → μ' p k = μ p k) : fL μ μ' := by
  unfold fLW at h
  rw [Bool.and_eq_true, Bool.and_eq_true, Bool.and_eq_true, Bool.and_eq_true, Bool.and_eq_true] at h
  exact ⟨hf 39 2 (rl_off_ok (s := (39, 2)) h.1), hf 39 4 (rl_off_ok (s := (39, 4)) h.2.1), hf 39 9 (rl_off_ok (s := (39, 9)) h.2.2.1), fun i i0 i1 => ⟨fr_i (c := 55) (k := 0) h.2.2.2.1 hf i0 i1, fr_i (c := 55) (k := 2) h.2.2.2.2.1 hf i0 i1, fr_i (c := 55) (k := 6) h.2.2.2.2.2 hf i0 i1⟩⟩
def fK (μ μ' : iv_M) : Prop := veq (vK μ) (vK μ')
theorem fK_tr {a b c : iv_M} (h1 : fK a b) (h2 : fK b c) : fK a c := veq_tr h1 h2
def fKW (W : se_W) : Bool := rl_off W (106, 2) && (rl_off W (106, 4) && (rl_off W (106, 9) && (fr_l (fun i => (i + 122, 0)) W && (fr_l (fun i => (i + 122, 2)) W && (fr_l (fun i => (i + 122, 6)) W)))))
theorem fK_of {W : se_W} {μ μ' : iv_M} (h : fKW W = true) (hf : ∀ p k, ¬ br_in W p k → μ' p k = μ p k) : fK μ μ' := by
  unfold fKW at h
  rw [Bool.and_eq_true, Bool.and_eq_true, Bool.and_eq_true, Bool.and_eq_true, Bool.and_eq_true] at h
  exact ⟨hf 106 2 (rl_off_ok (s := (106, 2)) h.1), hf 106 4 (rl_off_ok (s := (106, 4)) h.2.1), hf 106 9 (rl_off_ok (s := (106, 9)) h.2.2.1), fun i i0 i1 => ⟨fr_i (c := 122) (k := 0) h.2.2.2.1 hf i0 i1, fr_i (c := 122) (k := 2) h.2.2.2.2.1 hf i0 i1, fr_i (c := 122) (k := 6) h.2.2.2.2.2 hf i0 i1⟩⟩
def fl (μ μ' : iv_M) : Prop := veq (vR μ) (vR μ')
theorem fl_tr {a b c : iv_M} (h1 : fl a b) (h2 : fl b c) : fl a c := veq_tr h1 h2
def flW (W : se_W) : Bool := rl_off W (196, 0) && (rl_off W (196, 1) && (rl_off W (196, 3) && (fr_l (fun i => (196, i * 7 + 80)) W && (fr_l (fun i => (196, i * 7 + 82)) W && (fr_l (fun i => (196, i * 7 + 86)) W)))))
theorem fl_of {W : se_W} {μ μ' : iv_M} (h : flW W = true) (hf : ∀ p k, ¬ br_in W p k → μ' p k = μ p k) : fl μ μ' := by
  unfold flW at h
  rw [Bool.and_eq_true, Bool.and_eq_true, Bool.and_eq_true, Bool.and_eq_true, Bool.and_eq_true] at h
  exact ⟨hf 196 0 (rl_off_ok (s := (196, 0)) h.1), hf 196 1 (rl_off_ok (s := (196, 1)) h.2.1), hf 196 3 (rl_off_ok (s := (196, 3)) h.2.2.1), fun i i0 i1 => ⟨fr_n (p := 196) (c := 80) h.2.2.2.1 hf i0 i1, fr_n (p := 196) (c := 82) h.2.2.2.2.1 hf i0 i1, fr_n (p := 196) (c := 86) h.2.2.2.2.2 hf i0 i1⟩⟩
def fk8 (μ μ' : iv_M) : Prop := veq (vKR μ) (vKR μ')
theorem fk8_tr {a b c : iv_M} (h1 : fk8 a b) (h2 : fk8 b c) : fk8 a c := veq_tr h1 h2
def fk8W (W : se_W) : Bool := rl_off W (197, 0) && (rl_off W (197, 1) && (rl_off W (197, 3) && (fr_l (fun i => (197, i * 7 + 80)) W && (fr_l (fun i => (197, i * 7 + 82)) W && (fr_l (fun i => (197, i * 7 + 86)) W)))))
theorem fk8_of {W : se_W} {μ μ' : iv_M} (h : fk8W W = true) (hf : ∀ p k, ¬ br_in W p k → μ' p k = μ p k)   : fk8 μ μ' := by
  unfold fk8W at h
  rw [Bool.and_eq_true, Bool.and_eq_true, Bool.and_eq_true, Bool.and_eq_true, Bool.and_eq_true] at h
  exact ⟨hf 197 0 (rl_off_ok (s := (197, 0)) h.1), hf 197 1 (rl_off_ok (s := (197, 1)) h.2.1), hf 197 3 (rl_off_ok (s := (197, 3)) h.2.2.1), fun i i0 i1 => ⟨fr_n (p := 197) (c := 80) h.2.2.2.1 hf i0 i1, fr_n (p := 197) (c := 82) h.2.2.2.2.1 hf i0 i1, fr_n (p := 197) (c := 86) h.2.2.2.2.2 hf i0 i1⟩⟩
def p8_J (L : Nat) (xs : Nat → Int32) (μ : iv_M) : Prop := br_J L xs μ ∧ R8 (vC μ) (vR μ) ∧ R8 (vK μ) (vKR μ) ∧ μ 38 2 = μ 195 2 ∧ ∀ s : Int, 0 ≤ s → s < 4 → μ (s * 2 + 174) 0 = μ 209 s
theorem p8_keep {L : Nat} {xs : Nat → Int32} {μ μ' : iv_M} (h : p8_J L xs μ) (hJ : br_J L xs μ') (hL : fL μ μ') (hK : fK μ μ') (hl : fl μ μ') (hk : fk8 μ μ') (hI : fI μ μ') (hi : fi μ μ') (hS : fS μ μ') (hs : fs μ μ') : p8_J L xs μ' :=
  ⟨hJ, R8_cong h.2.1 hL hl, R8_cong h.2.2.1 hK hk, by rw [show μ' 38 2 = μ 38 2 from hI, show μ' 195 2 = μ 195 2 from hi, h.2.2.2.1], fun s s0 s1 => by rw [hS s s0 s1, hs s s0 s1, h.2.2.2.2 s s0 s1]⟩
section P8B
variable {L : Nat} {xs : Nat → Int32} {vz : Value} {μ m1 m2 : iv_M}
theorem sl_n {p c : Nat} (hs : (List.range 10).all (fun i => iv_slot p (i * 7 + c)) = true) (h : iv_m L xs m1 = iv_m L xs m2) (hN1 : iv_N m1) (hN2 : iv_N m2) {i : Int} (i0 : 0 ≤ i) (i1 : i < 10) : m1 p (i * 7 + c) = m2 p (i * 7 + c) := by
  obtain ⟨j, rfl⟩ := Int.eq_ofNat_of_zero_le i0
  have := iv_m_slot h hN1 hN2 (List.all_eq_true.mp hs j (List.mem_range.mpr (by omega)))
  rw [show ((j * 7 + c : Nat) : Int) = (j : Int) * 7 + (c : Int) by omega] at this
  exact this
theorem fS_m (h : iv_m L xs m1 = iv_m L xs m2) (hN1 : iv_N m1) (hN2 : iv_N m2) : fS m2 m1 := fun s s0 s1 => by
  obtain ⟨j, rfl⟩ := Int.eq_ofNat_of_zero_le s0
  have := iv_m_slot (p := j * 2 + 174) (k := 0) h hN1 hN2 (List.all_eq_true.mp (show (List.range 4).all (fun s => iv_slot (s * 2 + 174) 0) = true by decide +kernel) j (List.mem_range.mpr (by omega)))
  rw [show ((j * 2 + 174 : Nat) : Int) = (j : Int) * 2 + 174 by omega] at this
  exact this
theorem fs_m (h : iv_m L xs m1 = iv_m L xs m2) (hN1 : iv_N m1) (hN2 : iv_N m2) : fs m2 m1 := fun s s0 s1 => by
  obtain ⟨j, rfl⟩ := Int.eq_ofNat_of_zero_le s0
  exact iv_m_slot (p := 209) (k := j) h hN1 hN2 (List.all_eq_true.mp (show (List.range 4).all (fun s => iv_slot 209 s) = true by decide +kernel) j (List.mem_range.mpr (by omega)))
theorem fI_m (h : iv_m L xs m1 = iv_m L xs m2) (hN1 : iv_N m1) (hN2 : iv_N m2) : fI m2 m1 := iv_m_slot (p := 38) (k := 2) h hN1 hN2 (by decide +kernel)
theorem fi_m (h : iv_m L xs m1 = iv_m L xs m2) (hN1 : iv_N m1) (hN2 : iv_N m2) : fi m2 m1 := iv_m_slot (p := 195) (k := 2) h hN1 hN2 (by decide +kernel)
theorem fL_m (h : iv_m L xs m1 = iv_m L xs m2) (hN1 : iv_N m1) (hN2 : iv_N m2) : fL m2 m1 := ⟨iv_m_slot (p := 39) (k := 2) h hN1 hN2 (by decide +kernel), iv_m_slot (p := 39) (k := 4) h hN1 hN2 (by decide +kernel), iv_m_slot (p := 39) (k := 9) h hN1 hN2 (by decide +kernel), fun i i0 i1 => ⟨sl_i (c := 55) (k := 0) (by decide +kernel) h hN1 hN2 i0 i1, sl_i (c := 55) (k := 2) (by decide +kernel) h hN1 hN2 i0 i1, sl_i (c := 55) (k := 6) (by decide +kernel) h hN1 hN2 i0 i1⟩⟩
theorem fK_m (h : iv_m L xs m1 = iv_m L xs m2) (hN1 : iv_N m1) (hN2 : iv_N m2) : fK m2 m1 := ⟨iv_m_slot (p := 106) (k := 2) h hN1 hN2 (by decide +kernel), iv_m_slot (p := 106) (k := 4) h hN1 hN2 (by decide +kernel), iv_m_slot (p := 106) (k := 9) h hN1 hN2 (by decide +kernel), fun i i0 i1 => ⟨sl_i (c := 122) (k := 0) (by decide +kernel) h hN1 hN2 i0 i1, sl_i (c := 122) (k := 2) (by decide +kernel) h hN1 hN2 i0 i1, sl_i (c := 122) (k := 6) (by decide +kernel) h hN1 hN2 i0 i1⟩⟩
theorem fl_m (h : iv_m L xs m1 = iv_m L xs m2) (hN1 : iv_N m1) (hN2 : iv_N m2) : fl m2 m1 := ⟨iv_m_slot (p := 196) (k := 0) h hN1 hN2 (by decide +kernel), iv_m_slot (p := 196) (k := 1) h hN1 hN2 (by decide +kernel), iv_m_slot (p := 196) (k := 3) h hN1 hN2 (by decide +kernel), fun i i0 i1 => ⟨sl_n (p := 196) (c := 80) (by decide +kernel) h hN1 hN2 i0 i1, sl_n (p := 196) (c := 82) (by decide +kernel) h hN1 hN2 i0 i1, sl_n (p := 196) (c := 86) (by decide +kernel) h hN1 hN2 i0 i1⟩⟩
theorem fk8_m (h : iv_m L xs m1 = iv_m L xs m2) (hN1 : iv_N m1) (hN2 : iv_N m2) : fk8 m2 m1 := ⟨iv_m_slot (p := 197) (k := 0) h hN1 hN2 (by decide +kernel), iv_m_slot (p := 197) (k := 1) h hN1 hN2 (by decide +kernel), iv_m_slot (p := 197) (k := 3) h hN1 hN2 (by decide +kernel), fun i i0 i1 => ⟨sl_n (p := 197) (c := 80) (by decide +kernel) h hN1 hN2 i0 i1, sl_n (p := 197) (c := 82) (by decide +kernel) h hN1 hN2 i0 i1, sl_n (p := 197) (c := 86) (by decide +kernel) h hN1 hN2 i0 i1⟩⟩
theorem iv_cz_int {r r' : Option iv_Z} {z : Int} (a : r.map iv_cz = r'.map iv_cz) (h : r' = some (0, z)) : ∃ w, r = some (0, w) := by
  subst h
  cases r with
  | none => cases a
  | some u =>
    obtain ⟨k, w⟩ := u
    have e : iv_cv k w = .int (Int32.ofInt z) := Option.some.inj a
    match k, e with
    | 0, _ => exact ⟨w, rfl⟩
    | 1, e => cases e
    | k + 2, e => cases e
theorem br_and {d z : Nat} {As : List iv_Z} {P1 : iv_P} {c : se_C} (h1 : iv_C L xs vz d z As μ P1) (h2 : iv_C L xs vz d z As μ (br_P L xs c μ)) (hr : ∀ r, br_rv c r → ∃ w, r = some (0, w)) : iv_C L xs vz d z As μ (fun r μ' => P1 r μ' ∧ br_J L xs μ' ∧ (fLW c.2.2.2 = true → fL μ μ') ∧ (fKW c.2.2.2 = true → fK μ μ') ∧ (flW c.2.2.2 = true → fl μ μ') ∧ (fk8W c.2.2.2 = true → fk8 μ μ') ∧ (fIW c.2.2.2 = true → fI μ μ') ∧ (fiW c.2.2.2 = true → fi μ μ') ∧ (fSW c.2.2.2 = true → fS μ μ') ∧ (fsW c.2.2.2 = true → fs μ μ') ∧ ∃ w, r = some (0, w)) :=
  iv_C_and h1 h2 (fun r μ' => br_J L xs μ' ∧ (fLW c.2.2.2 = true → fL μ μ') ∧ (fKW c.2.2.2 = true → fK μ μ') ∧ (flW c.2.2.2 = true → fl μ μ') ∧ (fk8W c.2.2.2 = true → fk8 μ μ') ∧ (fIW c.2.2.2 = true → fI μ μ') ∧ (fiW c.2.2.2 = true → fi μ μ') ∧ (fSW c.2.2.2 = true → fS μ μ') ∧ (fsW c.2.2.2 = true → fs μ μ') ∧ ∃ w, r = some (0, w)) (fun r m1 r' m2 a1 a2 n1 n2 a3 => by
    obtain ⟨q1, q2, q3⟩ := a3
    obtain ⟨w, hw⟩ := hr r' q3
    exact ⟨by unfold br_J at q1 ⊢; rw [a2]; exact q1, fun c1 => fL_tr (fL_of c1 q2) (fL_m a2 n1 n2), fun c1 => fK_tr (fK_of c1 q2) (fK_m a2 n1 n2), fun c1 => fl_tr (fl_of c1 q2) (fl_m a2 n1 n2), fun c1 => fk8_tr (fk8_of c1 q2) (fk8_m a2 n1 n2), fun c1 => fI_tr (fI_of c1 q2) (fI_m a2 n1 n2), fun c1 => fi_tr (fi_of c1 q2) (fi_m a2 n1 n2), fun c1 => fS_tr (fS_of c1 q2) (fS_m a2 n1 n2), fun c1 => fs_tr (fs_of c1 q2) (fs_m a2 n1 n2), iv_cz_int a1 hw⟩)
def rok (n a b c e : Int) : Prop := 0 ≤ a ∧ a ≤ 5 ∧ 0 ≤ b ∧ b ≤ 35 ∧ 1 ≤ c ∧ c ≤ 99 ∧ 0 ≤ e ∧ e ≤ 99 ∧ n < 10
def vraft (v w : V8) (a c : Int) : Prop := w.1 = v.1 + 1 ∧ w.2.1 = v.2.1 ∧ w.2.2.1 = v.2.2.1 ∧ ∀ i : Int, 0 ≤ i → i < 10 → (i = v.1 → w.2.2.2.1 i = a ∧ w.2.2.2.2.1 i = c ∧ w.2.2.2.2.2 i = 0) ∧ (i ≠ v.1 → w.2.2.2.1 i = v.2.2.2.1 i ∧ w.2.2.2.2.1 i = v.2.2.2.2.1 i ∧ w.2.2.2.2.2 i = v.2.2.2.2.2 i)
theorem R8_raft {v w v' w' : V8} {a b c e : Int} (h : R8 v w) (ok : rok v.1 a b c e) (h1 : vraft v v' a c) (h2 : vraft w w' a c) : R8 v' w' := by
  obtain ⟨a1, a2, a3, a4⟩ := h
  refine ⟨by rw [h1.1, h2.1, a1], by rw [h1.2.1, h2.2.1, a2], by rw [h1.2.2.1, h2.2.2.1, a3], fun i i0 i1 => ?_⟩
  obtain ⟨b1, b2⟩ := h1.2.2.2 i i0 i1
  obtain ⟨c1, c2⟩ := h2.2.2.2 i i0 i1
  by_cases hi : i = v.1
  · obtain ⟨x1, x2, x3⟩ := b1 hi
    obtain ⟨y1, y2, y3⟩ := c1 (by rw [← a1]; exact hi)
    rw [x1, x2, x3, y1, y2, y3]
    exact ⟨rfl, rfl, rfl, ⟨by decide, by decide⟩, fun _ _ => ⟨ok.2.2.2.2.1, ok.2.2.2.2.2.1⟩⟩
  · obtain ⟨x1, x2, x3⟩ := b2 hi
    obtain ⟨y1, y2, y3⟩ := c2 (by rw [← a1]; exact hi)
    obtain ⟨e1, e2, e3, e4, e5⟩ := a4 i i0 i1
    rw [x1, x2, x3, y1, y2, y3, h1.1]
    exact ⟨e1, e2, e3, e4, fun q => e5 (by omega)⟩
theorem raft_c {d : Nat} (hL : L ≤ 3072) (hd : 6 ≤ d) (hc : 0 ≤ μ 39 2 ∧ μ 39 2 ≤ 10) {a b c e : Int} : iv_C L xs vz d 17 [(13, 38), (0, a), (0, b), (0, c), (0, e)] μ (fun _ μ' => (rok (μ 39 2) a b c e → vraft (vC μ) (vC μ') a c) ∧ (¬ rok (μ 39 2) a b c e → fL μ μ')) := by
  refine iv_C_of ?_
  have no : ∀ v, ¬ rok (μ 39 2) a b c e → (rok (μ 39 2) a b c e → vraft (vC μ) (vC (iv_upd μ 38 7 v)) a c) ∧ (¬ rok (μ 39 2) a b c e → fL μ (iv_upd μ 38 7 v)) := fun v h => ⟨fun q => absurd q h, fun _ => veq_of vC_upd⟩
  refine sg_17_0 hL hd hc.1 hc.2 ?_ ?_ ?_ ?_ ?_ ?_ ?_ ?_ ?_ ?_ <;> intros <;> first | exact no _ (fun q => by unfold rok at q; omega) | skip
  have ok : rok (μ 39 2) a b c e := ⟨by omega, by omega, by omega, by omega, by omega, by omega, by omega, by omega, by omega⟩
  refine ⟨fun _ => ?_, fun q => absurd ok q⟩
  unfold vraft vC
  dsimp only
  refine ⟨?_, ?_, ?_, fun i i0 i1 => ⟨fun hi => ?_, fun hi => ?_⟩⟩
  · rw [iv_upd_same]
    (repeat (first | rw [iv_upd_ne _ _ (Or.inl (by omega))] | rw [iv_upd_ne _ _ (Or.inr (by omega))]))
    rw [iv_w_id (by omega) (by omega)]
  · (repeat (first | rw [iv_upd_ne _ _ (Or.inl (by omega))] | rw [iv_upd_ne _ _ (Or.inr (by omega))]))
  · (repeat (first | rw [iv_upd_ne _ _ (Or.inl (by omega))] | rw [iv_upd_ne _ _ (Or.inr (by omega))]))
  · subst hi
    refine ⟨?_, ?_, ?_⟩
    · (repeat (first | rw [iv_upd_ne _ _ (Or.inl (by omega))] | rw [iv_upd_ne _ _ (Or.inr (by omega))]))
      rw [iv_upd_same]
    · (repeat (first | rw [iv_upd_ne _ _ (Or.inl (by omega))] | rw [iv_upd_ne _ _ (Or.inr (by omega))]))
      rw [iv_upd_same]
    · (repeat (first | rw [iv_upd_ne _ _ (Or.inl (by omega))] | rw [iv_upd_ne _ _ (Or.inr (by omega))]))
      rw [iv_upd_same]
  · refine ⟨?_, ?_, ?_⟩
    · (repeat (first | rw [iv_upd_ne _ _ (Or.inl (by omega))] | rw [iv_upd_ne _ _ (Or.inr (by omega))]))
    · (repeat (first | rw [iv_upd_ne _ _ (Or.inl (by omega))] | rw [iv_upd_ne _ _ (Or.inr (by omega))]))
    · (repeat (first | rw [iv_upd_ne _ _ (Or.inl (by omega))] | rw [iv_upd_ne _ _ (Or.inr (by omega))]))
theorem raft_r {d : Nat} (hL : L ≤ 3072) (hd : 6 ≤ d) (hc : 0 ≤ μ 196 0 ∧ μ 196 0 ≤ 10) {a b c e : Int} : iv_C L xs vz d 222 [(14, 195), (0, a), (0, b), (0, c), (0, e)] μ (fun _ μ' => (rok (μ 196 0) a b c e → vraft (vR μ) (vR μ') a c) ∧ (¬ rok (μ 196 0) a b c e → fl μ μ')) := by
  refine iv_C_of ?_
  have no : ∀ v, ¬ rok (μ 196 0) a b c e → (rok (μ 196 0) a b c e → vraft (vR μ) (vR (iv_upd μ 195 3 v)) a c) ∧ (¬ rok (μ 196 0) a b c e → fl μ (iv_upd μ 195 3 v)) := fun v h => ⟨fun q => absurd q h, fun _ => veq_of (vR_upd (by decide))⟩
  refine sg_222_0 hL hd hc.1 hc.2 ?_ ?_ ?_ ?_ ?_ ?_ ?_ ?_ ?_ ?_ <;> intros <;> first | exact no _ (fun q => by unfold rok at q; omega) | skip
  have ok : rok (μ 196 0) a b c e := ⟨by omega, by omega, by omega, by omega, by omega, by omega, by omega, by omega, by omega⟩
  refine ⟨fun _ => ?_, fun q => absurd ok q⟩
  unfold vraft vR kR pR sR
  dsimp only
  refine ⟨?_, ?_, ?_, fun i i0 i1 => ⟨fun hi => ?_, fun hi => ?_⟩⟩
  · (repeat (first | rw [iv_upd_ne _ _ (Or.inl (by omega))] | rw [iv_upd_ne _ _ (Or.inr (by omega))]))
    rw [iv_upd_same]
  · (repeat (first | rw [iv_upd_ne _ _ (Or.inl (by omega))] | rw [iv_upd_ne _ _ (Or.inr (by omega))]))
  · (repeat (first | rw [iv_upd_ne _ _ (Or.inl (by omega))] | rw [iv_upd_ne _ _ (Or.inr (by omega))]))
  · subst hi
    refine ⟨?_, ?_, ?_⟩
    · (repeat (first | rw [iv_upd_ne _ _ (Or.inl (by omega))] | rw [iv_upd_ne _ _ (Or.inr (by omega))]))
      rw [iv_upd_same]
    · (repeat (first | rw [iv_upd_ne _ _ (Or.inl (by omega))] | rw [iv_upd_ne _ _ (Or.inr (by omega))]))
      rw [iv_upd_same]
    · (repeat (first | rw [iv_upd_ne _ _ (Or.inl (by omega))] | rw [iv_upd_ne _ _ (Or.inr (by omega))]))
      rw [iv_upd_same]
  · refine ⟨?_, ?_, ?_⟩
    · (repeat (first | rw [iv_upd_ne _ _ (Or.inl (by omega))] | rw [iv_upd_ne _ _ (Or.inr (by omega))]))
    · (repeat (first | rw [iv_upd_ne _ _ (Or.inl (by omega))] | rw [iv_upd_ne _ _ (Or.inr (by omega))]))
    · (repeat (first | rw [iv_upd_ne _ _ (Or.inl (by omega))] | rw [iv_upd_ne _ _ (Or.inr (by omega))]))
end P8B
