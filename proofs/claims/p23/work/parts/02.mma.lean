/-! ===== the small machine: its memory, and how the heap holds it ===== -/
/-- a cell: an array of a type, or an object of the class of a number; addresses are places in the memory -/
abbrev mm_C : Type := (FieldType × List Value) ⊕ (Nat × List Value)
def mm_sh (φ : Nat → Nat) : Value → Value
  | .ref a => .ref (φ a)
  | v => v
def mm_sl (φ : Nat → Nat) (l : List (Nat × Value)) : List (Nat × Value) := l.map fun q => (q.1, mm_sh φ q.2)
def mm_ph (φ : Nat → Nat) (kx bs : Nat) : Prop := (∀ i, i < kx → φ i < bs) ∧ ∀ i, kx ≤ i → φ i = bs + (i - kx)
/-- nothing but class and contents -/
def mm_pl (cell : Cell) : Prop := cell.vm = .none ∧ cell = { cls := cell.cls, slots := cell.slots, vm := .none }
theorem mm_pl_set {cell : Cell} (h : mm_pl cell) (k : Nat) (v : Value) : mm_pl (cell.setSlot k v) := by
  refine ⟨h.1, ?_⟩
  rw [h.2]
  rfl
/-- what is read of a row that may be another's: its first places -/
def mm_wk (φ : Nat → Nat) (cell : Cell) (xs : List Value) : Prop := xs.length ≤ cell.slots.size ∧ cell.slots.size.toInt32 = Int32.ofNat xs.length ∧ ∀ (j : Nat) (v : Value), xs[j]? = some v → cell.slots[j]? = some (mm_sh φ v)
theorem mm_wk_of {φ : Nat → Nat} {cell : Cell} {xs : List Value} (h : cell.slots = (xs.map (mm_sh φ)).toArray) : mm_wk φ cell xs := by
  refine ⟨by rw [h]; simp, by rw [h]; simp, fun j v hv => ?_⟩
  rw [h]
  simp [hv]
/-- a cell of others': a String constant (class number 15: the place of its bytes, its coder), or anything else (16) -/
def mm_sc (φ : Nat → Nat) (U : State) (H : Heap) (i : Nat) (o : Nat × List Value) : Prop := ∃ cell : Cell, H[φ i]? = some cell ∧ (o.1 = 15 → ∃ v : Nat, o.2 = [.ref v, .int 0] ∧ va_O "java/lang/String" (φ i) (fun _ => False) U H ∧ va_OF "java/lang/String" "value" "[B" (.ref (φ v)) (φ i) (fun _ => False) U H ∧ va_OF "java/lang/String" "coder" "B" (.int 0) (φ i) (fun _ => False) U H)
theorem mm_sc_moved {φ : Nat → Nat} {u U : State} {H : Heap} {i : Nat} {o : Nat × List Value} (hvm : u.vm.Alike U.vm) (h : mm_sc φ u H i o) : mm_sc φ U H i o := by
  obtain ⟨cell, h1, h2⟩ := h
  refine ⟨cell, h1, fun e => ?_⟩
  obtain ⟨v, g1, g2, g3, g4⟩ := h2 e
  exact ⟨v, g1, va_O.moved hvm g2, va_OF.moved hvm g3, va_OF.moved hvm g4⟩
theorem mm_OF_kept {o n d : String} {v : Value} {t : Nat} {U : State} {H H1 : Heap} (h : va_OF o n d v t (fun _ => False) U H) (hq : H1[t]? = H[t]?) : va_OF o n d v t (fun _ => False) U H1 := by
  obtain ⟨cf, k, i, f, cell, h1, h2, h3, h4⟩ := h
  exact ⟨cf, k, i, f, cell, h1, h2, hq.trans h3, h4⟩
theorem mm_sc_kept {φ : Nat → Nat} {U : State} {H H1 : Heap} {i : Nat} {o : Nat × List Value} (h : mm_sc φ U H i o) (hq : H1[φ i]? = H[φ i]?) : mm_sc φ U H1 i o := by
  obtain ⟨cell, h1, h2⟩ := h
  refine ⟨cell, hq.trans h1, fun e => ?_⟩
  obtain ⟨v, g1, ⟨c2, k1, k2⟩, g3, g4⟩ := h2 e
  exact ⟨v, g1, ⟨c2, hq.trans k1, k2⟩, mm_OF_kept g3 hq, mm_OF_kept g4 hq⟩
def mm_at (φ : Nat → Nat) (kx : Nat) (D : va_G) (cl : List vw_C) (U : State) (H : Heap) (i : Nat) : mm_C → Prop
  | .inl a => ∃ cell : Cell, H[φ i]? = some cell ∧ mm_wk φ cell a.2 ∧ cell.vm ≠ .unknown ∧ U.isArrayOf cell a.1 ∧ (kx ≤ i → (mm_pl cell ∧ cell.slots = (a.2.map (mm_sh φ)).toArray) ∧ va_RA U cell.cls a.1)
  | .inr o => (o.1 < 13 ∧ ∃ r : vw_C, cl[o.1]? = some r ∧ o.2.length = r.2.2 ∧ t_OB (φ i) (D.1 o.1) r.2.2 (D.2 o.1) H (vp_V (o.2.map (mm_sh φ)))) ∨ (13 ≤ o.1 ∧ mm_sc φ U H i o)
theorem mm_at_ob {φ : Nat → Nat} {kx : Nat} {D : va_G} {cl : List vw_C} {U : State} {H : Heap} {i ci : Nat} {fs : List Value} (h : mm_at φ kx D cl U H i (.inr (ci, fs))) (hc : ci < 13) : ∃ r : vw_C, cl[ci]? = some r ∧ fs.length = r.2.2 ∧ t_OB (φ i) (D.1 ci) r.2.2 (D.2 ci) H (vp_V (fs.map (mm_sh φ))) := by
  rcases h with ⟨-, h⟩ | ⟨h, -⟩
  · exact h
  · exact absurd hc (Nat.not_lt.mpr h)
def mm_B (bs : Nat) : Nat → Prop := fun q => bs ≤ q
abbrev mm_Zt : Type := String × String × String × Value
def mm_R (φ : Nat → Nat) (kx bs : Nat) (D : va_G) (cl : List vw_C) (zs : List mm_Zt) (U : State) (mem : List mm_C) (H : Heap) : Prop :=
  kx ≤ mem.length ∧ H.size = bs + (mem.length - kx) ∧ (∀ (i : Nat) (c : mm_C), mem[i]? = some c → mm_at φ kx D cl U H i c) ∧ ∀ z ∈ zs, va_Z z.1 z.2.1 z.2.2.1 (mm_sh φ z.2.2.2) (mm_B bs) U H
theorem mm_sh_cat (φ : Nat → Nat) (v : Value) : (mm_sh φ v).category = v.category := by cases v <;> rfl
theorem mm_at_moved {φ : Nat → Nat} {kx : Nat} {D : va_G} {cl : List vw_C} {u U : State} {H : Heap} {i : Nat} {c : mm_C} (hvm : u.vm.Alike U.vm) (h : mm_at φ kx D cl u H i c) : mm_at φ kx D cl U H i c := by
  cases c with
  | inl a =>
    obtain ⟨cell, h1, h2, h3, h4, h5⟩ := h
    exact ⟨cell, h1, h2, h3, State.isArrayOf_alike hvm h4, fun q => ⟨(h5 q).1, (h5 q).2.moved hvm⟩⟩
  | inr o =>
    rcases h with h | ⟨h1, h2⟩
    · exact Or.inl h
    · exact Or.inr ⟨h1, mm_sc_moved hvm h2⟩
theorem mm_R_moved {φ : Nat → Nat} {kx bs : Nat} {D : va_G} {cl : List vw_C} {zs : List mm_Zt} {u U : State} {mem : List mm_C} {H : Heap} (hvm : u.vm.Alike U.vm) (h : mm_R φ kx bs D cl zs u mem H) : mm_R φ kx bs D cl zs U mem H :=
  ⟨h.1, h.2.1, fun i c hc => mm_at_moved hvm (h.2.2.1 i c hc), fun z hz => (h.2.2.2 z hz).moved hvm⟩
theorem mm_at_kept {φ : Nat → Nat} {kx : Nat} {D : va_G} {cl : List vw_C} {U : State} {H H1 : Heap} {i : Nat} {c : mm_C} (h : mm_at φ kx D cl U H i c) (hq : H1[φ i]? = H[φ i]?) : mm_at φ kx D cl U H1 i c := by
  cases c with
  | inl a =>
    obtain ⟨cell, h1, h2⟩ := h
    exact ⟨cell, hq.trans h1, h2⟩
  | inr o =>
    rcases h with ⟨h0, r, h1, h2, h3⟩ | ⟨h1, h2⟩
    · exact Or.inl ⟨h0, r, h1, h2, h3.kept hq⟩
    · exact Or.inr ⟨h1, mm_sc_kept h2 hq⟩
theorem mm_at_lt {φ : Nat → Nat} {kx : Nat} {D : va_G} {cl : List vw_C} {U : State} {H : Heap} {i : Nat} {c : mm_C} (h : mm_at φ kx D cl U H i c) : φ i < H.size := by
  cases c with
  | inl a =>
    obtain ⟨cell, h1, h2⟩ := h
    exact (Array.getElem?_eq_some_iff.mp h1).1
  | inr o =>
    rcases h with ⟨h0, r, h1, h2, cell, h3, h4⟩ | ⟨h1, cell, h3, h4⟩
    · exact (Array.getElem?_eq_some_iff.mp h3).1
    · exact (Array.getElem?_eq_some_iff.mp h3).1
theorem mm_ph_ne {φ : Nat → Nat} {kx bs : Nat} (h : mm_ph φ kx bs) {i j : Nat} (hi : kx ≤ i) (hij : j ≠ i) : φ j ≠ φ i := by
  intro e
  rw [h.2 i hi] at e
  by_cases hj : kx ≤ j
  · rw [h.2 j hj] at e; omega
  · have := h.1 j (by omega); omega
/-- one cell of ours is another now -/
theorem mm_R_set {φ : Nat → Nat} {kx bs : Nat} {D : va_G} {cl : List vw_C} {zs : List mm_Zt} {U : State} {mem : List mm_C} {H H1 : Heap} (hp : mm_ph φ kx bs) (h : mm_R φ kx bs D cl zs U mem H) {i : Nat} (hi : kx ≤ i) {c : mm_C} (hc : mm_at φ kx D cl U H1 i c) (hz : H1.size = H.size) (ho : ∀ q : Nat, q ≠ φ i → H1[q]? = H[q]?) : mm_R φ kx bs D cl zs U (mem.set i c) H1 := by
  refine ⟨by simpa using h.1, by rw [hz, h.2.1, List.length_set], fun j d hd => ?_, fun z hz => ?_⟩
  · by_cases hj : j = i
    · subst hj
      rw [List.getElem?_set] at hd
      simp only [if_true] at hd
      split at hd
      · cases hd; exact hc
      · cases hd
    · rw [List.getElem?_set_ne (fun e => hj e.symm)] at hd
      exact mm_at_kept (h.2.2.1 j d hd) (ho _ (mm_ph_ne hp hi hj))
  · refine (h.2.2.2 z hz).kept (fun a _ ha => ho a (fun e => ha ?_))
    rw [e, hp.2 i hi]
    exact Nat.le_add_right _ _
/-- a cell more -/
theorem mm_R_push {φ : Nat → Nat} {kx bs : Nat} {D : va_G} {cl : List vw_C} {zs : List mm_Zt} {U : State} {mem : List mm_C} {H H1 : Heap} (h : mm_R φ kx bs D cl zs U mem H) {c : mm_C} (hc : mm_at φ kx D cl U H1 mem.length c) (hz : H1.size = H.size + 1) (ho : ∀ q : Nat, q < H.size → H1[q]? = H[q]?) : mm_R φ kx bs D cl zs U (mem ++ [c]) H1 := by
  have h1 := h.1
  have h2 := h.2.1
  refine ⟨by simp; omega, by simp; omega, fun j d hd => ?_, fun z hz => ?_⟩
  · by_cases hj : j < mem.length
    · rw [List.getElem?_append_left hj] at hd
      exact mm_at_kept (h.2.2.1 j d hd) (ho _ (mm_at_lt (h.2.2.1 j d hd)))
    · rw [List.getElem?_append_right (by omega)] at hd
      have hlt := (List.getElem?_eq_some_iff.mp hd).1
      simp at hlt
      have : j = mem.length := by omega
      subst this
      simp at hd
      subst hd
      exact hc
  · exact (h.2.2.2 z hz).kept (fun a ha _ => ho a ha)
theorem mm_ph_size {φ : Nat → Nat} {kx bs : Nat} {D : va_G} {cl : List vw_C} {zs : List mm_Zt} {U : State} {mem : List mm_C} {H : Heap} (hp : mm_ph φ kx bs) (h : mm_R φ kx bs D cl zs U mem H) : φ mem.length = H.size := by
  rw [hp.2 _ h.1, h.2.1]
