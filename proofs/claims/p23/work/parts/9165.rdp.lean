/-! ===== the tape's tokens: where one begins, where it ends, what it is ===== -/
def tk_rnf (p : Nat → Bool) : Nat → Nat → Nat
  | 0, i => i
  | m + 1, i => if p i = true then tk_rnf p m (i + 1) else i
def tk_rn (n : Nat) (p : Nat → Bool) (i : Nat) : Nat := tk_rnf p (n - i) i
theorem tk_rn_t {n : Nat} {p : Nat → Bool} {i : Nat} (h : i < n) (hp : p i = true) : tk_rn n p i = tk_rn n p (i + 1) := by
  unfold tk_rn
  rw [show n - i = (n - (i + 1)) + 1 by omega]
  show (if p i = true then _ else _) = _
  rw [if_pos hp]
theorem tk_rn_f {n : Nat} {p : Nat → Bool} {i : Nat} (h : i < n → p i = false) : tk_rn n p i = i := by
  unfold tk_rn
  cases e : n - i with
  | zero => rfl
  | succ m =>
    show (if p i = true then _ else _) = _
    rw [if_neg (by rw [h (by omega)]; decide)]
theorem tk_rn_bd {n : Nat} {p : Nat → Bool} : ∀ (m i : Nat), n - i = m → i ≤ tk_rn n p i ∧ (i ≤ n → tk_rn n p i ≤ n) ∧ (tk_rn n p i < n → p (tk_rn n p i) = false) ∧ (∀ k, i ≤ k → k < tk_rn n p i → p k = true) := by
  intro m
  induction m with
  | zero =>
    intro i h
    have e : tk_rn n p i = i := tk_rn_f (fun q => by omega)
    rw [e]
    exact ⟨Nat.le_refl _, fun q => q, fun q => by omega, fun k h1 h2 => by omega⟩
  | succ m ih =>
    intro i h
    cases hp : p i with
    | true =>
      rw [tk_rn_t (by omega) hp]
      obtain ⟨a, b, c, d⟩ := ih (i + 1) (by omega)
      refine ⟨by omega, fun q => b (by omega), c, fun k h1 h2 => ?_⟩
      by_cases e : k = i
      · rw [e]; exact hp
      · exact d k (by omega) h2
    | false =>
      have e : tk_rn n p i = i := tk_rn_f (fun _ => hp)
      rw [e]
      exact ⟨Nat.le_refl _, fun q => q, fun _ => hp, fun k h1 h2 => by omega⟩
def tk_L (x : Int) : Bool := decide (97 ≤ x ∧ x ≤ 122)
def tk_D (x : Int) : Bool := decide (48 ≤ x ∧ x ≤ 57)
def tk_words : List (List Int) := [[119, 97, 118, 101, 115], [108, 111, 97, 100], [115, 116, 114, 101, 110, 103, 116, 104], [97, 103, 101], [107, 105, 110], [104, 101, 97, 100, 115], [119, 97, 116, 101, 114], [100, 97, 121], [98, 111, 114, 110], [116, 105, 101], [99, 117, 116], [115, 112, 101, 97, 107], [111, 114], [97, 110, 100], [110, 111, 116]]
/-- the word w stands at s, l long -/
def tk_is (b : Nat → Int) (s l w : Nat) : Prop := ∃ u, tk_words[w]? = some u ∧ u.length = l ∧ ∀ k : Nat, k < l → b (s + k) = u.getD k 0
theorem tk_is_one {b : Nat → Int} {s l w w' : Nat} (h : tk_is b s l w) (h' : tk_is b s l w') : w = w' := by
  obtain ⟨u, h1, h2, h3⟩ := h
  obtain ⟨v, g1, g2, g3⟩ := h'
  have huv : u = v := by
    refine List.ext_getElem (by omega) (fun k a c => ?_)
    have e1 := h3 k (by omega)
    have e2 := g3 k (by omega)
    rw [e1] at e2
    simpa [List.getD_eq_getElem?_getD, List.getElem?_eq_getElem a, List.getElem?_eq_getElem c] using e2
  subst huv
  have hd : ∀ x : Nat, x < 15 → ∀ y : Nat, y < 15 → tk_words[x]? = tk_words[y]? → x = y := by decide
  have lt : ∀ x : Nat, tk_words[x]? = some u → x < 15 := fun x hx => (List.getElem?_eq_some_iff.mp hx).1
  exact hd w (lt w h1) w' (lt w' g1) (h1.trans g1.symm)
/-- what word stands there: its number, 24: none -/
def tk_wd (b : Nat → Int) (s l : Nat) (t : Nat) : Prop := (t < 15 ∧ tk_is b s l t) ∨ (t = 24 ∧ ∀ w, ¬ tk_is b s l w)
theorem tk_wd_one {b : Nat → Int} {s l t t' : Nat} (h : tk_wd b s l t) (h' : tk_wd b s l t') : t = t' := by
  rcases h with ⟨a, h⟩ | ⟨rfl, h⟩ <;> rcases h' with ⟨a', h'⟩ | ⟨rfl, h'⟩
  · exact tk_is_one h h'
  · exact absurd h (h' _)
  · exact absurd h' (h _)
  · rfl
def tk_sg (x : Int) : Nat := if x = 40 then 16 else if x = 41 then 17 else if x = 59 then 18 else if x = 43 then 19 else if x = 45 then 20 else if x = 60 then 21 else if x = 61 then 22 else 24
def tk_nv (b : Nat → Int) (s : Nat) : Nat → Int
  | 0 => 0
  | k + 1 => iv_w (iv_w (iv_w (tk_nv b s k * 10) + b (s + k)) - 48)
section TOK
variable (b : Nat → Int) (n : Nat)
def tk_s (i : Nat) : Nat := tk_rn n (fun k => decide (b k = 32)) i
def tk_e (i : Nat) : Nat := if n ≤ tk_s b n i then tk_s b n i else if tk_L (b (tk_s b n i)) = true then tk_rn n (fun k => tk_L (b k)) (tk_s b n i) else if tk_D (b (tk_s b n i)) = true then tk_rn n (fun k => tk_D (b k)) (tk_s b n i) else tk_s b n i + 1
/-- t is what stands at hand when one reads on from i -/
def tk_t (i t : Nat) : Prop := if n ≤ tk_s b n i then t = 23 else if tk_L (b (tk_s b n i)) = true then tk_wd b (tk_s b n i) (tk_e b n i - tk_s b n i) t else if tk_D (b (tk_s b n i)) = true then t = (if tk_e b n i - tk_s b n i ≤ 4 then 15 else 24) else t = tk_sg (b (tk_s b n i))
def tk_v (i : Nat) : Int := tk_nv b (tk_s b n i) (tk_e b n i - tk_s b n i)
end TOK
section TOL
variable {b : Nat → Int} {n : Nat}
theorem tk_t_one {i t t' : Nat} (h : tk_t b n i t) (h' : tk_t b n i t') : t = t' := by
  unfold tk_t at h h'
  split at h
  · next q => rw [if_pos q] at h'; omega
  · next q =>
    rw [if_neg q] at h'
    split at h
    · next q => rw [if_pos q] at h'; exact tk_wd_one h h'
    · next q =>
      rw [if_neg q] at h'
      split at h
      · next q => rw [if_pos q] at h'; rw [h, h']
      · next q => rw [if_neg q] at h'; rw [h, h']
theorem tk_s_bd {i : Nat} : i ≤ tk_s b n i ∧ (i ≤ n → tk_s b n i ≤ n) := ⟨(tk_rn_bd _ i rfl).1, (tk_rn_bd _ i rfl).2.1⟩
theorem tk_e_bd {i : Nat} (hi : i ≤ n) : tk_s b n i ≤ tk_e b n i ∧ tk_e b n i ≤ n ∧ (tk_s b n i < n → tk_s b n i < tk_e b n i) := by
  obtain ⟨a, c⟩ := tk_s_bd (b := b) (n := n) (i := i)
  have c := c hi
  unfold tk_e
  split
  · exact ⟨Nat.le_refl _, c, fun q => by omega⟩
  · next q =>
    split
    · next q2 =>
      have h := tk_rn_bd (n := n) (p := fun k => tk_L (b k)) _ (tk_s b n i + 1) rfl
      rw [tk_rn_t (p := fun k => tk_L (b k)) (by omega) q2]
      exact ⟨by omega, h.2.1 (by omega), fun _ => by omega⟩
    · split
      · next q2 =>
        have h := tk_rn_bd (n := n) (p := fun k => tk_D (b k)) _ (tk_s b n i + 1) rfl
        rw [tk_rn_t (p := fun k => tk_D (b k)) (by omega) q2]
        exact ⟨by omega, h.2.1 (by omega), fun _ => by omega⟩
      · exact ⟨by omega, by omega, fun _ => by omega⟩
/-- what is not the end takes a byte at least -/
theorem tk_adv {i t : Nat} (hi : i ≤ n) (h : tk_t b n i t) (ht : t ≠ 23) : i + 1 ≤ tk_e b n i ∧ i < n := by
  obtain ⟨a, c⟩ := tk_s_bd (b := b) (n := n) (i := i)
  obtain ⟨d, e, f⟩ := tk_e_bd (b := b) hi
  unfold tk_t at h
  split at h
  · exact absurd h ht
  · next q =>
    have f := f (by omega)
    omega
theorem tk_t_le {i t : Nat} (h : tk_t b n i t) : t ≤ 24 := by
  unfold tk_t at h
  split at h
  · omega
  · split at h
    · rcases h with ⟨h, _⟩ | ⟨h, _⟩ <;> omega
    · split at h
      · split at h <;> omega
      · rw [h]; unfold tk_sg; repeat' split
        all_goals omega
end TOL
/-! ===== the reader as a machine: what waits, what is wanted (0: one, or a not; 1: one; 2: there is one), the code ===== -/
def mc_rk (t : Nat) : Nat := if t = 12 then 1 else if t = 13 then 2 else if t = 14 then 3 else if t = 21 ∨ t = 22 then 4 else if t = 19 ∨ t = 20 then 5 else 0
abbrev mc_S : Type := List Nat × Nat × List Int
def mc_st (r : Nat) : List Nat → List Int → List Nat × List Int
  | [], c => ([], c)
  | t :: W, c => if r ≤ mc_rk t then mc_st r W (c ++ [-1 - (t : Int)]) else (t :: W, c)
def mc_op (W : List Nat) : Nat := W.countP (fun t => Nat.beq t 16)
def mc_dp (W : List Nat) : Nat := W.countP (fun t => Nat.beq t 16 || Nat.beq t 14)
def mc_ts : List Nat → Bool
  | [] => false
  | t :: W => if 4 < mc_rk t then mc_ts W else Nat.beq (mc_rk t) 4
def mc_step (t : Nat) (v : Int) (S : mc_S) : mc_S ⊕ Option (List Int) :=
  if S.2.1 < 2 then
    (if t = 16 ∨ (t = 14 ∧ S.2.1 = 0) then (if mc_dp S.1 < 4 then .inl (t :: S.1, 0, S.2.2) else .inr none)
     else if t = 15 then .inl (S.1, 2, S.2.2 ++ [v]) else if t < 9 then .inl (S.1, 2, S.2.2 ++ [-1 - (t : Int)]) else .inr none)
  else if t = 17 ∧ 0 < mc_op S.1 then .inl ((mc_st 1 S.1 S.2.2).1.tail, 2, (mc_st 1 S.1 S.2.2).2)
  else if t = 18 ∧ mc_op S.1 = 0 then .inr (some (mc_st 1 S.1 S.2.2).2)
  else if t = 14 ∨ mc_rk t = 0 ∨ (mc_rk t = 4 ∧ mc_ts S.1 = true) then .inr none
  else .inl (t :: (mc_st (mc_rk t) S.1 S.2.2).1, (if mc_rk t < 3 then 0 else 1), (mc_st (mc_rk t) S.1 S.2.2).2)
section MAC
variable (b : Nat → Int) (n : Nat)
/-- from a state, reading on from i: it ends at the token read from j, with this outcome (none: a fault) -/
def mc_R : Nat → Nat → mc_S → Option (List Int) → Nat → Prop
  | 0, _, _, _, _ => False
  | m + 1, i, S, r, j => ∃ t, tk_t b n i t ∧ match mc_step t (tk_v b n i) S with
    | .inl S' => mc_R m (tk_e b n i) S' r j
    | .inr r' => r = r' ∧ j = i
def mc_Q (i : Nat) (S : mc_S) (r : Option (List Int)) (j : Nat) : Prop := ∃ m, mc_R b n m i S r j
end MAC
section MAL
variable {b : Nat → Int} {n : Nat}
theorem mc_Q_one {i : Nat} {S : mc_S} {r r' : Option (List Int)} {j j' : Nat} (h : mc_Q b n i S r j) (h' : mc_Q b n i S r' j') : r = r' ∧ j = j' := by
  obtain ⟨m, h⟩ := h
  obtain ⟨m', h'⟩ := h'
  induction m generalizing m' i S with
  | zero => exact h.elim
  | succ m ih =>
    cases m' with
    | zero => exact h'.elim
    | succ m' =>
      obtain ⟨t, h1, h2⟩ := h
      obtain ⟨t', g1, g2⟩ := h'
      have e := tk_t_one h1 g1
      subst e
      cases q : mc_step t (tk_v b n i) S with
      | inl S' =>
        rw [q] at h2 g2
        exact ih h2 m' g2
      | inr x =>
        rw [q] at h2 g2
        exact ⟨h2.1.trans g2.1.symm, h2.2.trans g2.2.symm⟩
theorem mc_Q_step {i t : Nat} {S S' : mc_S} {r : Option (List Int)} {j : Nat} (ht : tk_t b n i t) (hs : mc_step t (tk_v b n i) S = .inl S') (h : mc_Q b n (tk_e b n i) S' r j) : mc_Q b n i S r j := by
  obtain ⟨m, h⟩ := h
  refine ⟨m + 1, t, ht, ?_⟩
  rw [hs]
  exact h
theorem mc_Q_end {i t : Nat} {S : mc_S} {r : Option (List Int)} (ht : tk_t b n i t) (hs : mc_step t (tk_v b n i) S = .inr r) : mc_Q b n i S r i := by
  refine ⟨1, t, ht, ?_⟩
  rw [hs]
  exact ⟨rfl, rfl⟩
end MAL
theorem mc_st_st {r r' : Nat} (h : r ≤ r') : ∀ (W : List Nat) (c : List Int), mc_st r (mc_st r' W c).1 (mc_st r' W c).2 = mc_st r W c
  | [], c => rfl
  | t :: W, c => by
    by_cases q : r' ≤ mc_rk t
    · have e : mc_st r' (t :: W) c = mc_st r' W (c ++ [-1 - (t : Int)]) := by
        show (if _ then _ else _) = _
        rw [if_pos q]
      have e2 : mc_st r (t :: W) c = mc_st r W (c ++ [-1 - (t : Int)]) := by
        show (if _ then _ else _) = _
        rw [if_pos (by omega)]
      rw [e, e2, mc_st_st h W]
    · have e : mc_st r' (t :: W) c = (t :: W, c) := by
        show (if _ then _ else _) = _
        rw [if_neg q]
      rw [e]
theorem mc_st_up {r r' : Nat} (h : r ≤ r') {W W' : List Nat} {c c' : List Int} (e : mc_st r' W c = mc_st r' W' c') : mc_st r W c = mc_st r W' c' := by
  rw [← mc_st_st h W c, ← mc_st_st h W' c', e]
theorem mc_st_cons {r t : Nat} {W : List Nat} {c : List Int} (h : r ≤ mc_rk t) : mc_st r (t :: W) c = mc_st r W (c ++ [-1 - (t : Int)]) := by
  show (if _ then _ else _) = _
  rw [if_pos h]
/-- what is on top binds less tight -/
def mc_tp (r : Nat) (W : List Nat) : Prop := ∀ t V, W = t :: V → mc_rk t < r
theorem mc_st_tp {r : Nat} {W : List Nat} {c : List Int} (h : mc_tp r W) : mc_st r W c = (W, c) := by
  cases W with
  | nil => rfl
  | cons t V =>
    show (if _ then _ else _) = _
    rw [if_neg (by have := h t V rfl; omega)]
theorem mc_tp_cons {r t : Nat} {W : List Nat} (h : mc_rk t < r) : mc_tp r (t :: W) := fun u V e => by
  cases e
  exact h
theorem mc_tp_up {r r' : Nat} {W : List Nat} (h : mc_tp r W) (hr : r ≤ r') : mc_tp r' W := fun t V e => Nat.lt_of_lt_of_le (h t V e) hr
/-! ===== how far a reader has come, level by level ===== -/
def mc_wx (r : Nat) (W : List Nat) (c : List Int) (S : mc_S) : Prop := S.2.1 = 2 ∧ mc_st r S.1 S.2.2 = mc_st r W c ∧ mc_op S.1 = mc_op W
def mc_xt (r : Nat) (W : List Nat) (S : mc_S) (t : Nat) : Prop := (r ≤ 5 → t ≠ 19 ∧ t ≠ 20) ∧ (r ≤ 4 → t = 21 ∨ t = 22 → mc_ts S.1 = true) ∧ (5 ≤ r → mc_ts S.1 = mc_ts W) ∧ (r ≤ 2 → t ≠ 13) ∧ (r ≤ 1 → t ≠ 12)
theorem mc_wx_up {r r' : Nat} {W : List Nat} {c : List Int} {S : mc_S} (h : mc_wx r' W c S) (hr : r ≤ r') : mc_wx r W c S := ⟨h.1, mc_st_up hr h.2.1, h.2.2⟩
theorem mc_wx_rfl {r : Nat} {W : List Nat} {c : List Int} : mc_wx r W c (W, 2, c) := ⟨rfl, rfl, rfl⟩
theorem mc_op_cons {t : Nat} {W : List Nat} (h : t ≠ 16) : mc_op (t :: W) = mc_op W := by
  unfold mc_op
  rw [List.countP_cons_of_neg (by simpa using h)]
theorem mc_op_16 {W : List Nat} : mc_op (16 :: W) = mc_op W + 1 := by
  unfold mc_op
  rw [List.countP_cons_of_pos (by rfl)]
theorem mc_dp_cons {t : Nat} {W : List Nat} (h : t ≠ 16) (h2 : t ≠ 14) : mc_dp (t :: W) = mc_dp W := by
  unfold mc_dp
  rw [List.countP_cons_of_neg (by simp [h, h2])]
theorem mc_dp_in {t : Nat} {W : List Nat} (h : t = 16 ∨ t = 14) : mc_dp (t :: W) = mc_dp W + 1 := by
  unfold mc_dp
  rw [List.countP_cons_of_pos (by rcases h with rfl | rfl <;> rfl)]
/-- a sign between two -/
theorem mc_bin {r t : Nat} {v : Int} {W : List Nat} {c : List Int} {S : mc_S} (h : mc_wx r W c S) (hr : mc_rk t = r) (h0 : 0 < r) (h14 : t ≠ 14) (htp : mc_tp r W) (h4 : r = 4 → mc_ts S.1 = false) : mc_step t v S = .inl (t :: W, (if r < 3 then 0 else 1), c) := by
  obtain ⟨a, e, -⟩ := h
  have h17 : t ≠ 17 := fun q => by rw [q] at hr; have : (0 : Nat) = r := hr; omega
  have h18 : t ≠ 18 := fun q => by rw [q] at hr; have : (0 : Nat) = r := hr; omega
  unfold mc_step
  rw [if_neg (by omega), if_neg (fun q => h17 q.1), if_neg (fun q => h18 q.1), if_neg (fun q => by
    rcases q with q | q | q
    · exact h14 q
    · omega
    · rw [h4 (by omega)] at q; cases q.2), hr, e, mc_st_tp htp]
theorem mc_bin2 {r r' t : Nat} {W : List Nat} {c : List Int} {S : mc_S} (h : mc_wx r' (t :: W) c S) (hr : mc_rk t = r) (h0 : 0 < r) (hr2 : r ≤ r') : mc_wx r W (c ++ [-1 - (t : Int)]) S := by
  obtain ⟨a, e, o⟩ := h
  have h16 : t ≠ 16 := fun q => by rw [q] at hr; have : (0 : Nat) = r := hr; omega
  refine ⟨a, ?_, by rw [o, mc_op_cons h16]⟩
  rw [mc_st_up hr2 e, mc_st_cons (by omega)]
theorem mc_ts_tp {W : List Nat} (h : mc_tp 4 W) : mc_ts W = false := by
  cases W with
  | nil => rfl
  | cons t V =>
    have h := h t V rfl
    show (if 4 < mc_rk t then mc_ts V else Nat.beq (mc_rk t) 4) = false
    rw [if_neg (by omega)]
    cases e : Nat.beq (mc_rk t) 4 with
    | false => rfl
    | true => have := Nat.eq_of_beq_eq_true e; omega
theorem mc_ts_cons5 {t : Nat} {W : List Nat} (h : mc_rk t = 5) : mc_ts (t :: W) = mc_ts W := by
  show (if 4 < mc_rk t then mc_ts W else Nat.beq (mc_rk t) 4) = _
  rw [if_pos (by omega)]
theorem mc_ts_cons4 {t : Nat} {W : List Nat} (h : mc_rk t = 4) : mc_ts (t :: W) = true := by
  show (if 4 < mc_rk t then mc_ts W else Nat.beq (mc_rk t) 4) = _
  rw [if_neg (by omega), h]
  rfl
theorem mc_tp6 (W : List Nat) : mc_tp 6 W := fun t V _ => by
  unfold mc_rk
  repeat' split
  all_goals omega
/-- what opens -/
theorem mc_opens {t m : Nat} {v : Int} {W : List Nat} {c : List Int} (h : t = 16 ∨ (t = 14 ∧ m = 0)) (hm : m < 2) (hd : mc_dp W < 4) : mc_step t v (W, m, c) = .inl (t :: W, 0, c) := by
  unfold mc_step
  rw [if_pos hm, if_pos h, if_pos hd]
theorem mc_opens_no {t m : Nat} {v : Int} {W : List Nat} {c : List Int} (h : t = 16 ∨ (t = 14 ∧ m = 0)) (hm : m < 2) (hd : ¬ mc_dp W < 4) : mc_step t v (W, m, c) = .inr none := by
  unfold mc_step
  rw [if_pos hm, if_pos h, if_neg hd]
theorem mc_num {m : Nat} {v : Int} {W : List Nat} {c : List Int} (hm : m < 2) : mc_step 15 v (W, m, c) = .inl (W, 2, c ++ [v]) := by
  unfold mc_step
  rw [if_pos hm, if_neg (by omega), if_pos rfl]
theorem mc_nam {t m : Nat} {v : Int} {W : List Nat} {c : List Int} (hm : m < 2) (ht : t < 9) : mc_step t v (W, m, c) = .inl (W, 2, c ++ [-1 - (t : Int)]) := by
  unfold mc_step
  rw [if_pos hm, if_neg (by omega), if_neg (by omega), if_pos ht]
theorem mc_none {t m : Nat} {v : Int} {W : List Nat} {c : List Int} (hm : m < 2) (h1 : t ≠ 16) (h2 : m = 0 → t ≠ 14) (h3 : t ≠ 15) (h4 : ¬ t < 9) : mc_step t v (W, m, c) = .inr none := by
  unfold mc_step
  rw [if_pos hm, if_neg (fun q => by rcases q with q | ⟨q, q2⟩; exact h1 q; exact h2 q2 q), if_neg h3, if_neg h4]
/-- behind all of an expression: what does not go on -/
theorem mc_stuck {t : Nat} {v : Int} {W : List Nat} {c : List Int} {S : mc_S} (h : mc_wx 1 W c S) (hx : mc_xt 1 W S t) (h17 : t = 17 → mc_op W = 0) (h18 : t = 18 → 0 < mc_op W) : mc_step t v S = .inr none := by
  obtain ⟨a, e, o⟩ := h
  obtain ⟨x1, x2, -, x4, x5⟩ := hx
  have x1 := x1 (by omega)
  have x2 := x2 (by omega)
  have x4 := x4 (by omega)
  have x5 := x5 (by omega)
  unfold mc_step
  rw [if_neg (by omega), if_neg (fun q => by rw [o, h17 q.1] at q; omega), if_neg (fun q => by have := h18 q.1; rw [o] at q; omega)]
  rw [if_pos ?_]
  by_cases h14 : t = 14
  · exact Or.inl h14
  by_cases h4 : t = 21 ∨ t = 22
  · refine Or.inr (Or.inr ⟨?_, x2 h4⟩)
    rcases h4 with rfl | rfl <;> rfl
  · refine Or.inr (Or.inl ?_)
    unfold mc_rk
    rw [if_neg x5, if_neg x4, if_neg h14, if_neg h4, if_neg (by omega)]
theorem mc_close {v : Int} {W : List Nat} {c : List Int} {S : mc_S} (h : mc_wx 1 (16 :: W) c S) : mc_step 17 v S = .inl (W, 2, c) := by
  obtain ⟨a, e, o⟩ := h
  unfold mc_step
  rw [if_neg (by omega), if_pos ⟨rfl, by rw [o, mc_op_16]; omega⟩, e, mc_st_tp (mc_tp_cons (by decide))]
  rfl
theorem mc_semi {v : Int} {c : List Int} {S : mc_S} (h : mc_wx 1 [] c S) : mc_step 18 v S = .inr (some c) := by
  obtain ⟨a, e, o⟩ := h
  have o : mc_op S.1 = 0 := o
  unfold mc_step
  rw [if_neg (by omega), if_neg (fun q => by omega), if_pos ⟨rfl, o⟩, e]
  rfl
section LEV
variable {b : Nat → Int} {n : Nat}
def mc_K (b : Nat → Int) (n i : Nat) (S : mc_S) (j : Nat) (S' : mc_S) : Prop := ∀ r k, mc_Q b n j S' r k → mc_Q b n i S r k
theorem mc_K_rfl {i : Nat} {S : mc_S} : mc_K b n i S i S := fun _ _ h => h
theorem mc_K_step {i j t : Nat} {S S' S'' : mc_S} (h : mc_K b n i S j S') (ht : tk_t b n j t) (hs : mc_step t (tk_v b n j) S' = .inl S'') : mc_K b n i S (tk_e b n j) S'' := fun r k q => h r k (mc_Q_step ht hs q)
theorem mc_K_tr {i j k : Nat} {S S' S'' : mc_S} (h : mc_K b n i S j S') (h2 : mc_K b n j S' k S'') : mc_K b n i S k S'' := fun r l q => h r l (h2 r l q)
theorem mc_K_end {i j t : Nat} {S S' : mc_S} {r : Option (List Int)} (h : mc_K b n i S j S') (ht : tk_t b n j t) (hs : mc_step t (tk_v b n j) S' = .inr r) : mc_Q b n i S r j := h r j (mc_Q_end ht hs)
end LEV
/-- what stands ahead in the code is carried along -/
theorem mc_st_pre {r : Nat} (p : List Int) : ∀ (W : List Nat) (c : List Int), mc_st r W (p ++ c) = ((mc_st r W c).1, p ++ (mc_st r W c).2)
  | [], c => rfl
  | t :: W, c => by
    by_cases q : r ≤ mc_rk t
    · rw [mc_st_cons q, mc_st_cons q, List.append_assoc, mc_st_pre p W]
    · have e : ∀ c, mc_st r (t :: W) c = (t :: W, c) := fun c => by
        show (if _ then _ else _) = _
        rw [if_neg q]
      rw [e, e]
theorem mc_step_pre {t : Nat} {v : Int} (p : List Int) {W : List Nat} {m : Nat} {c : List Int} : mc_step t v (W, m, p ++ c) = match mc_step t v (W, m, c) with
    | .inl S => .inl (S.1, S.2.1, p ++ S.2.2)
    | .inr r => .inr (r.map (p ++ ·)) := by
  unfold mc_step
  dsimp only
  simp only [mc_st_pre, List.append_assoc]
  by_cases h1 : m < 2
  · simp only [if_pos h1]
    by_cases h2 : t = 16 ∨ (t = 14 ∧ m = 0)
    · simp only [if_pos h2]
      by_cases h3 : mc_dp W < 4
      · simp only [if_pos h3]
      · simp only [if_neg h3]; rfl
    · simp only [if_neg h2]
      by_cases h3 : t = 15
      · simp only [if_pos h3]
      · simp only [if_neg h3]
        by_cases h4 : t < 9
        · simp only [if_pos h4]
        · simp only [if_neg h4]; rfl
  · simp only [if_neg h1]
    by_cases h2 : t = 17 ∧ 0 < mc_op W
    · simp only [if_pos h2]
    · simp only [if_neg h2]
      by_cases h3 : t = 18 ∧ mc_op W = 0
      · simp only [if_pos h3]; rfl
      · simp only [if_neg h3]
        by_cases h4 : t = 14 ∨ mc_rk t = 0 ∨ (mc_rk t = 4 ∧ mc_ts W = true)
        · simp only [if_pos h4]; rfl
        · simp only [if_neg h4]
theorem mc_R_pre {b : Nat → Int} {n : Nat} (p : List Int) : ∀ (m i : Nat) (S : mc_S) (r : Option (List Int)) (j : Nat), mc_R b n m i S r j → mc_R b n m i (S.1, S.2.1, p ++ S.2.2) (r.map (p ++ ·)) j := by
  intro m
  induction m with
  | zero => exact fun _ _ _ _ h => h
  | succ m ih =>
    rintro i ⟨W, k, c⟩ r j ⟨t, h1, h2⟩
    refine ⟨t, h1, ?_⟩
    dsimp only
    rw [mc_step_pre]
    cases q : mc_step t (tk_v b n i) (W, k, c) with
    | inl S' =>
      rw [q] at h2
      exact ih _ _ _ _ h2
    | inr x =>
      rw [q] at h2
      exact ⟨by rw [h2.1], h2.2⟩
theorem mc_Q_pre {b : Nat → Int} {n : Nat} (p : List Int) {i : Nat} {W : List Nat} {m : Nat} {c : List Int} {r : Option (List Int)} {j : Nat} (h : mc_Q b n i (W, m, c) r j) : mc_Q b n i (W, m, p ++ c) (r.map (p ++ ·)) j := by
  obtain ⟨k, h⟩ := h
  exact ⟨k, mc_R_pre p k i _ r j h⟩
/-! ===== a text's three sums ===== -/
theorem mc_R_un {b : Nat → Int} {n : Nat} (p : List Int) : ∀ (m i : Nat) (W : List Nat) (k : Nat) (c : List Int) (r : Option (List Int)) (j : Nat), mc_R b n m i (W, k, p ++ c) r j → ∃ r', r = r'.map (p ++ ·) ∧ mc_R b n m i (W, k, c) r' j := by
  intro m
  induction m with
  | zero => exact fun _ _ _ _ _ _ h => h.elim
  | succ m ih =>
    rintro i W k c r j ⟨t, h1, h2⟩
    rw [mc_step_pre] at h2
    cases q : mc_step t (tk_v b n i) (W, k, c) with
    | inl S' =>
      rw [q] at h2
      obtain ⟨r', e, h3⟩ := ih _ _ _ _ _ _ h2
      refine ⟨r', e, t, h1, ?_⟩
      rw [q]
      exact h3
    | inr x =>
      rw [q] at h2
      refine ⟨x, h2.1, t, h1, ?_⟩
      rw [q]
      exact ⟨rfl, h2.2⟩
theorem mc_Q_un {b : Nat → Int} {n : Nat} {p : List Int} {i : Nat} {r : Option (List Int)} {j : Nat} (h : mc_Q b n i ([], 0, p) r j) : ∃ r', r = r'.map (p ++ ·) ∧ mc_Q b n i ([], 0, []) r' j := by
  obtain ⟨m, h⟩ := h
  obtain ⟨r', e, h2⟩ := mc_R_un p m i [] 0 [] r j (by rw [List.append_nil]; exact h)
  exact ⟨r', e, m, h2⟩
/-- reading on from i, with so many sums to come: where the fault is, or the sums' codes -/
def tx_Q (b : Nat → Int) (n : Nat) : Nat → Nat → Nat ⊕ List (List Int) → Prop
  | 0, i, z => ∃ t, tk_t b n i t ∧ ((t = 23 ∧ z = .inr []) ∨ (t ≠ 23 ∧ z = .inl (tk_s b n i)))
  | m + 1, i, z => ∃ t, tk_t b n i t ∧ ((t + m ≠ 11 ∧ z = .inl (tk_s b n i)) ∨ (t + m = 11 ∧ ((∃ j, mc_Q b n (tk_e b n i) ([], 0, []) none j ∧ z = .inl (tk_s b n j)) ∨ (∃ c j z', mc_Q b n (tk_e b n i) ([], 0, []) (some c) j ∧ tx_Q b n m (tk_e b n j) z' ∧ z = z'.map id (c :: ·)))))
theorem tx_one {b : Nat → Int} {n : Nat} : ∀ {m i : Nat} {z z' : Nat ⊕ List (List Int)}, tx_Q b n m i z → tx_Q b n m i z' → z = z'
  | 0, i, z, z', ⟨t, h1, h2⟩, ⟨t', g1, g2⟩ => by
    have e := tk_t_one h1 g1
    subst e
    rcases h2 with ⟨a, rfl⟩ | ⟨a, rfl⟩ <;> rcases g2 with ⟨c, rfl⟩ | ⟨c, rfl⟩
    · rfl
    · exact absurd a c
    · exact absurd c a
    · rfl
  | m + 1, i, z, z', ⟨t, h1, h2⟩, ⟨t', g1, g2⟩ => by
    have e := tk_t_one h1 g1
    subst e
    rcases h2 with ⟨a, rfl⟩ | ⟨a, h2⟩ <;> rcases g2 with ⟨c, rfl⟩ | ⟨c, g2⟩
    · rfl
    · exact absurd c a
    · exact absurd a c
    · rcases h2 with ⟨j, h3, rfl⟩ | ⟨k, j, y, h3, h4, rfl⟩ <;> rcases g2 with ⟨j', g3, rfl⟩ | ⟨k', j', y', g3, g4, rfl⟩
      · rw [(mc_Q_one h3 g3).2]
      · cases (mc_Q_one h3 g3).1
      · cases (mc_Q_one h3 g3).1
      · obtain ⟨e1, e2⟩ := mc_Q_one h3 g3
        cases e1
        subst e2
        rw [tx_one h4 g4]
