/-! ===== printed by wip/gen_pure.py: steps that touch no cell ===== -/
def mm_lget (lv : List (Nat × Value)) (i : Nat) : Option Value := (lv.find? (fun q => q.1 == i)).map (fun q => q.2)
def mm_l1 (lv : List (Nat × Value)) (i : Nat) (v : Value) : List (Nat × Value) := (i, v) :: lv.filter (fun q => !(q.1 == i) && !(q.1 + 1 == i && q.2.category == 2))
def mm_l2 (lv : List (Nat × Value)) (i : Nat) (v : Value) : List (Nat × Value) := (i, v) :: lv.filter (fun q => !(q.1 == i) && (!(q.1 == i + 1) && !(q.1 + 1 == i && q.2.category == 2)))
abbrev mm_F : Type := Nat × List (Nat × Value) × List Value
def mm_tgt (pc : Nat) (off : Int) : Option Nat := if 0 ≤ (pc : Int) + off then some ((pc : Int) + off).toNat else none
theorem mm_tgt_ok {pc tgt : Nat} {off : Int} (h : mm_tgt pc off = some tgt) : (pc : Int) + off = (tgt : Int) := by
  unfold mm_tgt at h
  split at h
  · next h0 => cases h; exact (Int.toNat_of_nonneg h0).symm
  · cases h
theorem mm_lget_has {φ : Nat → Nat} {ls : Array Slot} {nL : Nat} {lv : List (Nat × Value)} (h : lv_has ls nL (mm_sl φ lv)) {i : Nat} {v : Value} (hv : mm_lget lv i = some v) : ls[i]? = some (.val (mm_sh φ v)) := by
  unfold mm_lget at hv
  cases hf : lv.find? (fun q => q.1 == i) with
  | none => rw [hf] at hv; cases hv
  | some q =>
    rw [hf] at hv
    cases hv
    have h1 := List.mem_of_find?_eq_some hf
    have h2 := List.find?_some hf
    simp at h2
    have := h.2.2 (q.1, mm_sh φ q.2) (List.mem_map.mpr ⟨q, h1, rfl⟩)
    rw [← h2]
    exact this
theorem mm_lget_at {φ : Nat → Nat} {lv : List (Nat × Value)} {i : Nat} {v : Value} (hv : mm_lget lv i = some v) : ∃ k : Nat, (mm_sl φ lv)[k]? = some (i, mm_sh φ v) := by
  unfold mm_lget at hv
  cases hf : lv.find? (fun q => q.1 == i) with
  | none => rw [hf] at hv; cases hv
  | some q =>
    rw [hf] at hv
    cases hv
    have h1 := List.mem_of_find?_eq_some hf
    have h2 := List.find?_some hf
    simp at h2
    obtain ⟨k, hk⟩ := List.getElem?_of_mem (List.mem_map.mpr ⟨q, h1, rfl⟩ : (q.1, mm_sh φ q.2) ∈ mm_sl φ lv)
    exact ⟨k, by rw [← h2]; exact hk⟩
theorem mm_l1_sl (φ : Nat → Nat) (lv : List (Nat × Value)) (i : Nat) (v : Value) : (i, mm_sh φ v) :: (mm_sl φ lv).filter (fun q => !(q.1 == i) && !(q.1 + 1 == i && q.2.category == 2)) = mm_sl φ (mm_l1 lv i v) := by
  simp only [mm_sl, mm_l1, List.map_cons, List.filter_map]
  congr 2
  apply List.filter_congr
  intro q _
  simp [Function.comp, mm_sh_cat]
theorem mm_l2_sl (φ : Nat → Nat) (lv : List (Nat × Value)) (i : Nat) (v : Value) : (i, mm_sh φ v) :: (mm_sl φ lv).filter (fun q => !(q.1 == i) && (!(q.1 == i + 1) && !(q.1 + 1 == i && q.2.category == 2))) = mm_sl φ (mm_l2 lv i v) := by
  simp only [mm_sl, mm_l2, List.map_cons, List.filter_map]
  congr 2
  apply List.filter_congr
  intro q _
  simp [Function.comp, mm_sh_cat]
def mm_push (k len : Nat) (pc : Nat) (lv : List (Nat × Value)) (st : List Value) (v : Value) : Option mm_F := if len = k then some (pc + k, lv, v :: st) else none
theorem mm_push_inv {k len pc : Nat} {lv : List (Nat × Value)} {st : List Value} {v : Value} {f : mm_F} (h : mm_push k len pc lv st v = some f) : len = k ∧ f = (pc + k, lv, v :: st) := by
  unfold mm_push at h
  split at h
  · next e => cases h; exact ⟨e, rfl⟩
  · cases h
def mm_bii (g : Int32 → Int32 → Int32) (len pc : Nat) (lv : List (Nat × Value)) (st : List Value) : Option mm_F := match len, st with
  | 1, .int y :: .int x :: r => some (pc + 1, lv, .int (g x y) :: r)
  | _, _ => none
theorem mm_bii_inv {g : Int32 → Int32 → Int32} {len pc : Nat} {lv : List (Nat × Value)} {st : List Value} {f : mm_F} (h : mm_bii g len pc lv st = some f) : len = 1 ∧ ∃ x y r, st = .int y :: .int x :: r ∧ f = (pc + 1, lv, .int (g x y) :: r) := by
  unfold mm_bii at h
  split at h
  · cases h; exact ⟨rfl, _, _, _, rfl, rfl⟩
  · cases h
def mm_bll (g : Int64 → Int64 → Int64) (len pc : Nat) (lv : List (Nat × Value)) (st : List Value) : Option mm_F := match len, st with
  | 1, .long y :: .long x :: r => some (pc + 1, lv, .long (g x y) :: r)
  | _, _ => none
theorem mm_bll_inv {g : Int64 → Int64 → Int64} {len pc : Nat} {lv : List (Nat × Value)} {st : List Value} {f : mm_F} (h : mm_bll g len pc lv st = some f) : len = 1 ∧ ∃ x y r, st = .long y :: .long x :: r ∧ f = (pc + 1, lv, .long (g x y) :: r) := by
  unfold mm_bll at h
  split at h
  · cases h; exact ⟨rfl, _, _, _, rfl, rfl⟩
  · cases h
def mm_bli (g : Int64 → Int32 → Int64) (len pc : Nat) (lv : List (Nat × Value)) (st : List Value) : Option mm_F := match len, st with
  | 1, .int y :: .long x :: r => some (pc + 1, lv, .long (g x y) :: r)
  | _, _ => none
theorem mm_bli_inv {g : Int64 → Int32 → Int64} {len pc : Nat} {lv : List (Nat × Value)} {st : List Value} {f : mm_F} (h : mm_bli g len pc lv st = some f) : len = 1 ∧ ∃ x y r, st = .int y :: .long x :: r ∧ f = (pc + 1, lv, .long (g x y) :: r) := by
  unfold mm_bli at h
  split at h
  · cases h; exact ⟨rfl, _, _, _, rfl, rfl⟩
  · cases h
def mm_ui_i (g : Int32 → Int32) (len pc : Nat) (lv : List (Nat × Value)) (st : List Value) : Option mm_F := match len, st with
  | 1, .int x :: r => some (pc + 1, lv, .int (g x) :: r)
  | _, _ => none
theorem mm_ui_i_inv {g : Int32 → Int32} {len pc : Nat} {lv : List (Nat × Value)} {st : List Value} {f : mm_F} (h : mm_ui_i g len pc lv st = some f) : len = 1 ∧ ∃ x r, st = .int x :: r ∧ f = (pc + 1, lv, .int (g x) :: r) := by
  unfold mm_ui_i at h
  split at h
  · cases h; exact ⟨rfl, _, _, rfl, rfl⟩
  · cases h
def mm_ui_l (g : Int32 → Int64) (len pc : Nat) (lv : List (Nat × Value)) (st : List Value) : Option mm_F := match len, st with
  | 1, .int x :: r => some (pc + 1, lv, .long (g x) :: r)
  | _, _ => none
theorem mm_ui_l_inv {g : Int32 → Int64} {len pc : Nat} {lv : List (Nat × Value)} {st : List Value} {f : mm_F} (h : mm_ui_l g len pc lv st = some f) : len = 1 ∧ ∃ x r, st = .int x :: r ∧ f = (pc + 1, lv, .long (g x) :: r) := by
  unfold mm_ui_l at h
  split at h
  · cases h; exact ⟨rfl, _, _, rfl, rfl⟩
  · cases h
def mm_ul_i (g : Int64 → Int32) (len pc : Nat) (lv : List (Nat × Value)) (st : List Value) : Option mm_F := match len, st with
  | 1, .long x :: r => some (pc + 1, lv, .int (g x) :: r)
  | _, _ => none
theorem mm_ul_i_inv {g : Int64 → Int32} {len pc : Nat} {lv : List (Nat × Value)} {st : List Value} {f : mm_F} (h : mm_ul_i g len pc lv st = some f) : len = 1 ∧ ∃ x r, st = .long x :: r ∧ f = (pc + 1, lv, .int (g x) :: r) := by
  unfold mm_ul_i at h
  split at h
  · cases h; exact ⟨rfl, _, _, rfl, rfl⟩
  · cases h
def mm_bd (g : Int32 → Int32 → Int32) (len pc : Nat) (lv : List (Nat × Value)) (st : List Value) : Option mm_F := match len, st with
  | 1, .int y :: .int x :: r => if y = 0 then none else some (pc + 1, lv, .int (g x y) :: r)
  | _, _ => none
theorem mm_bd_inv {g : Int32 → Int32 → Int32} {len pc : Nat} {lv : List (Nat × Value)} {st : List Value} {f : mm_F} (h : mm_bd g len pc lv st = some f) : len = 1 ∧ ∃ x y r, st = .int y :: .int x :: r ∧ ¬ y = 0 ∧ f = (pc + 1, lv, .int (g x y) :: r) := by
  unfold mm_bd at h
  split at h
  · split at h
    · cases h
    · next e => cases h; exact ⟨rfl, _, _, _, rfl, e, rfl⟩
  · cases h
def mm_lcmp (len pc : Nat) (lv : List (Nat × Value)) (st : List Value) : Option mm_F := match len, st with
  | 1, .long y :: .long x :: r => some (pc + 1, lv, .int (lg_cmp x y) :: r)
  | _, _ => none
theorem mm_lcmp_inv {len pc : Nat} {lv : List (Nat × Value)} {st : List Value} {f : mm_F} (h : mm_lcmp len pc lv st = some f) : len = 1 ∧ ∃ x y r, st = .long y :: .long x :: r ∧ f = (pc + 1, lv, .int (lg_cmp x y) :: r) := by
  unfold mm_lcmp at h
  split at h
  · cases h; exact ⟨rfl, _, _, _, rfl, rfl⟩
  · cases h
def mm_ldi (k i len pc : Nat) (lv : List (Nat × Value)) (st : List Value) : Option mm_F := match mm_lget lv i with
  | some (.int x) => if len = k then some (pc + k, lv, .int x :: st) else none
  | _ => none
theorem mm_ldi_inv {k i len pc : Nat} {lv : List (Nat × Value)} {st : List Value} {f : mm_F} (h : mm_ldi k i len pc lv st = some f) : len = k ∧ ∃ x, mm_lget lv i = some (.int x) ∧ f = (pc + k, lv, .int x :: st) := by
  unfold mm_ldi at h
  split at h
  · next e =>
    split at h
    · next e2 => cases h; exact ⟨e2, _, e, rfl⟩
    · cases h
  · cases h
def mm_ldl (k i len pc : Nat) (lv : List (Nat × Value)) (st : List Value) : Option mm_F := match mm_lget lv i with
  | some (.long x) => if len = k then some (pc + k, lv, .long x :: st) else none
  | _ => none
theorem mm_ldl_inv {k i len pc : Nat} {lv : List (Nat × Value)} {st : List Value} {f : mm_F} (h : mm_ldl k i len pc lv st = some f) : len = k ∧ ∃ x, mm_lget lv i = some (.long x) ∧ f = (pc + k, lv, .long x :: st) := by
  unfold mm_ldl at h
  split at h
  · next e =>
    split at h
    · next e2 => cases h; exact ⟨e2, _, e, rfl⟩
    · cases h
  · cases h
def mm_lda (k i len pc : Nat) (lv : List (Nat × Value)) (st : List Value) : Option mm_F := match mm_lget lv i with
  | some (.ref x) => if len = k then some (pc + k, lv, .ref x :: st) else none
  | _ => none
theorem mm_lda_inv {k i len pc : Nat} {lv : List (Nat × Value)} {st : List Value} {f : mm_F} (h : mm_lda k i len pc lv st = some f) : len = k ∧ ∃ x, mm_lget lv i = some (.ref x) ∧ f = (pc + k, lv, .ref x :: st) := by
  unfold mm_lda at h
  split at h
  · next e =>
    split at h
    · next e2 => cases h; exact ⟨e2, _, e, rfl⟩
    · cases h
  · cases h
def mm_sti (k i nL len pc : Nat) (lv : List (Nat × Value)) (st : List Value) : Option mm_F := match st with
  | .int x :: r => if len = k ∧ i < nL then some (pc + k, mm_l1 lv i (.int x), r) else none
  | _ => none
theorem mm_sti_inv {k i nL len pc : Nat} {lv : List (Nat × Value)} {st : List Value} {f : mm_F} (h : mm_sti k i nL len pc lv st = some f) : len = k ∧ i < nL ∧ ∃ x r, st = .int x :: r ∧ f = (pc + k, mm_l1 lv i (.int x), r) := by
  unfold mm_sti at h
  split at h
  · split at h
    · next e2 => cases h; exact ⟨e2.1, e2.2, _, _, rfl, rfl⟩
    · cases h
  · cases h
def mm_stl (k i nL len pc : Nat) (lv : List (Nat × Value)) (st : List Value) : Option mm_F := match st with
  | .long x :: r => if len = k ∧ i + 1 < nL then some (pc + k, mm_l2 lv i (.long x), r) else none
  | _ => none
theorem mm_stl_inv {k i nL len pc : Nat} {lv : List (Nat × Value)} {st : List Value} {f : mm_F} (h : mm_stl k i nL len pc lv st = some f) : len = k ∧ i + 1 < nL ∧ ∃ x r, st = .long x :: r ∧ f = (pc + k, mm_l2 lv i (.long x), r) := by
  unfold mm_stl at h
  split at h
  · split at h
    · next e2 => cases h; exact ⟨e2.1, e2.2, _, _, rfl, rfl⟩
    · cases h
  · cases h
def mm_sta (k i nL len pc : Nat) (lv : List (Nat × Value)) (st : List Value) : Option mm_F := match st with
  | .ref x :: r => if len = k ∧ i < nL then some (pc + k, mm_l1 lv i (.ref x), r) else none
  | _ => none
theorem mm_sta_inv {k i nL len pc : Nat} {lv : List (Nat × Value)} {st : List Value} {f : mm_F} (h : mm_sta k i nL len pc lv st = some f) : len = k ∧ i < nL ∧ ∃ x r, st = .ref x :: r ∧ f = (pc + k, mm_l1 lv i (.ref x), r) := by
  unfold mm_sta at h
  split at h
  · split at h
    · next e2 => cases h; exact ⟨e2.1, e2.2, _, _, rfl, rfl⟩
    · cases h
  · cases h
def mm_inc (i nL : Nat) (n : Int) (len pc : Nat) (lv : List (Nat × Value)) (st : List Value) : Option mm_F := match mm_lget lv i with
  | some (.int x) => if len = 3 ∧ i < nL then some (pc + 3, mm_l1 lv i (.int (x + Int32.ofInt n)), st) else none
  | _ => none
theorem mm_inc_inv {i nL : Nat} {n : Int} {len pc : Nat} {lv : List (Nat × Value)} {st : List Value} {f : mm_F} (h : mm_inc i nL n len pc lv st = some f) : len = 3 ∧ i < nL ∧ ∃ x, mm_lget lv i = some (.int x) ∧ f = (pc + 3, mm_l1 lv i (.int (x + Int32.ofInt n)), st) := by
  unfold mm_inc at h
  split at h
  · next e =>
    split at h
    · next e2 => cases h; exact ⟨e2.1, e2.2, _, e, rfl⟩
    · cases h
  · cases h
def mm_if1 (P : Int32 → Bool) (off : Int) (len pc : Nat) (lv : List (Nat × Value)) (st : List Value) : Option mm_F := match mm_tgt pc off, st with
  | some tgt, .int x :: r => if len = 3 then some (if P x then tgt else pc + 3, lv, r) else none
  | _, _ => none
theorem mm_if1_inv {P : Int32 → Bool} {off : Int} {len pc : Nat} {lv : List (Nat × Value)} {st : List Value} {f : mm_F} (h : mm_if1 P off len pc lv st = some f) : len = 3 ∧ ∃ tgt x r, mm_tgt pc off = some tgt ∧ st = .int x :: r ∧ f = (if P x then tgt else pc + 3, lv, r) := by
  unfold mm_if1 at h
  split at h
  · next e =>
    split at h
    · next e2 => cases h; exact ⟨e2, _, _, _, e, rfl, rfl⟩
    · cases h
  · cases h
def mm_if2 (P : Int32 → Int32 → Bool) (off : Int) (len pc : Nat) (lv : List (Nat × Value)) (st : List Value) : Option mm_F := match mm_tgt pc off, st with
  | some tgt, .int y :: .int x :: r => if len = 3 then some (if P x y then tgt else pc + 3, lv, r) else none
  | _, _ => none
theorem mm_if2_inv {P : Int32 → Int32 → Bool} {off : Int} {len pc : Nat} {lv : List (Nat × Value)} {st : List Value} {f : mm_F} (h : mm_if2 P off len pc lv st = some f) : len = 3 ∧ ∃ tgt x y r, mm_tgt pc off = some tgt ∧ st = .int y :: .int x :: r ∧ f = (if P x y then tgt else pc + 3, lv, r) := by
  unfold mm_if2 at h
  split at h
  · next e =>
    split at h
    · next e2 => cases h; exact ⟨e2, _, _, _, _, e, rfl, rfl⟩
    · cases h
  · cases h
def mm_go (off : Int) (len pc : Nat) (lv : List (Nat × Value)) (st : List Value) : Option mm_F := match mm_tgt pc off with
  | some tgt => if len = 3 then some (tgt, lv, st) else none
  | none => none
theorem mm_go_inv {off : Int} {len pc : Nat} {lv : List (Nat × Value)} {st : List Value} {f : mm_F} (h : mm_go off len pc lv st = some f) : len = 3 ∧ ∃ tgt, mm_tgt pc off = some tgt ∧ f = (tgt, lv, st) := by
  unfold mm_go at h
  split at h
  · next e =>
    split at h
    · next e2 => cases h; exact ⟨e2, _, e, rfl⟩
    · cases h
  · cases h
def mm_sw (dflt lo hi : Int) (offs : Array Int) (pc : Nat) (lv : List (Nat × Value)) (st : List Value) : Option mm_F := match st with
  | .int x :: r => if x.toInt < lo ∨ hi < x.toInt then (mm_tgt pc dflt).map (fun t => (t, lv, r)) else match offs[(x.toInt - lo).toNat]? with
    | some off => (mm_tgt pc off).map (fun t => (t, lv, r))
    | none => none
  | _ => none
def mm_lsw (dflt : Int) (ps : Array (Int × Int)) (pc : Nat) (lv : List (Nat × Value)) (st : List Value) : Option mm_F := match st with
  | .int x :: r => if (ps.toList.zip (ps.toList.drop 1)).all (fun (a, next) => a.1 < next.1) = true then (mm_tgt pc (Op.lookupswitch.offset ps.toList dflt x.toInt)).map (fun t => (t, lv, r)) else none
  | _ => none
def mm_dup (len pc : Nat) (lv : List (Nat × Value)) (st : List Value) : Option mm_F := match st with
  | a :: r => if len = 1 ∧ a.category = 1 then some (pc + 1, lv, a :: a :: r) else none
  | _ => none
def mm_pop (len pc : Nat) (lv : List (Nat × Value)) (st : List Value) : Option mm_F := match st with
  | a :: r => if len = 1 ∧ a.category = 1 then some (pc + 1, lv, r) else none
  | _ => none
def mm_dup2 (len pc : Nat) (lv : List (Nat × Value)) (st : List Value) : Option mm_F := match st with
  | a :: b :: r => if len = 1 ∧ a.category = 1 ∧ b.category = 1 then some (pc + 1, lv, a :: b :: a :: b :: r) else none
  | _ => none
def mm_P1 : Jvm.ClassFile.Cond → Int32 → Bool := fun c x => match c with
  | .eq => decide (x = 0)
  | .ne => !decide (x = 0)
  | .lt => decide (x < 0)
  | .ge => decide (0 ≤ x)
  | .gt => decide (0 < x)
  | .le => decide (x ≤ 0)
def mm_P2 : Jvm.ClassFile.Cond → Int32 → Int32 → Bool := fun c x y => match c with
  | .eq => decide (x = y)
  | .ne => !decide (x = y)
  | .lt => decide (x < y)
  | .ge => decide (y ≤ x)
  | .gt => decide (y < x)
  | .le => decide (x ≤ y)
def mm_pure (nL : Nat) (ins : Instr) (len pc : Nat) (lv : List (Nat × Value)) (st : List Value) : Option mm_F := match ins with
  | .iconst n => mm_push 1 len pc lv st (.int (Int32.ofInt n))
  | .bipush n => mm_push 2 len pc lv st (.int (Int8.ofInt n).toInt32)
  | .sipush n => mm_push 3 len pc lv st (.int (Int16.ofInt n).toInt32)
  | .lconst n => mm_push 1 len pc lv st (.long (Int64.ofNat n))
  | .iload_n n => mm_ldi 1 n.val len pc lv st
  | .iload i => mm_ldi 2 i len pc lv st
  | .istore_n n => mm_sti 1 n.val nL len pc lv st
  | .istore i => mm_sti 2 i nL len pc lv st
  | .lload_n n => mm_ldl 1 n.val len pc lv st
  | .lload i => mm_ldl 2 i len pc lv st
  | .lstore_n n => mm_stl 1 n.val nL len pc lv st
  | .lstore i => mm_stl 2 i nL len pc lv st
  | .aload_n n => mm_lda 1 n.val len pc lv st
  | .aload i => mm_lda 2 i len pc lv st
  | .astore_n n => mm_sta 1 n.val nL len pc lv st
  | .astore i => mm_sta 2 i nL len pc lv st
  | .iinc i n => mm_inc i nL n len pc lv st
  | .iadd => mm_bii (fun x y => x + y) len pc lv st
  | .isub => mm_bii (fun x y => x - y) len pc lv st
  | .imul => mm_bii (fun x y => x * y) len pc lv st
  | .iand => mm_bii (fun x y => x &&& y) len pc lv st
  | .ior => mm_bii (fun x y => x ||| y) len pc lv st
  | .ixor => mm_bii (fun x y => x ^^^ y) len pc lv st
  | .ishl => mm_bii (fun x y => x <<< (y &&& 31)) len pc lv st
  | .ishr => mm_bii (fun x y => x >>> (y &&& 31)) len pc lv st
  | .iushr => mm_bii (fun x y => (x.toUInt32 >>> (y.toUInt32 &&& Int32.toUInt32 31)).toInt32) len pc lv st
  | .ladd => mm_bll (fun x y => x + y) len pc lv st
  | .lsub => mm_bll (fun x y => x - y) len pc lv st
  | .land => mm_bll (fun x y => x &&& y) len pc lv st
  | .lor => mm_bll (fun x y => x ||| y) len pc lv st
  | .lshl => mm_bli (fun x y => x <<< (y.toInt64 &&& 63)) len pc lv st
  | .lshr => mm_bli (fun x y => x >>> (y.toInt64 &&& 63)) len pc lv st
  | .lushr => mm_bli (fun x y => (x.toUInt64 >>> (y.toInt64.toUInt64 &&& Int64.toUInt64 63)).toInt64) len pc lv st
  | .idiv => mm_bd (fun x y => x / y) len pc lv st
  | .irem => mm_bd (fun x y => x - x / y * y) len pc lv st
  | .lcmp => mm_lcmp len pc lv st
  | .ineg => mm_ui_i (fun x => -x) len pc lv st
  | .i2l => mm_ui_l (fun x => x.toInt64) len pc lv st
  | .l2i => mm_ul_i (fun x => x.toInt32) len pc lv st
  | .i2b => mm_ui_i (fun x => x.toInt8.toInt32) len pc lv st
  | .i2s => mm_ui_i (fun x => x.toInt16.toInt32) len pc lv st
  | .i2c => mm_ui_i (fun x => (x.toUInt32 % 65536).toInt32) len pc lv st
  | .goto off => mm_go off len pc lv st
  | .ifCond c off => mm_if1 (mm_P1 c) off len pc lv st
  | .if_icmp c off => mm_if2 (mm_P2 c) off len pc lv st
  | .tableswitch dflt lo hi offs => mm_sw dflt lo hi offs pc lv st
  | .lookupswitch dflt ps => mm_lsw dflt ps pc lv st
  | .dup => mm_dup len pc lv st
  | .pop => mm_pop len pc lv st
  | .dup2 => mm_dup2 len pc lv st
  | _ => none
set_option maxHeartbeats 4000000 in
set_option maxRecDepth 100000 in
theorem mm_pure_ok {p : Program} {l : Launch} {e : Env} {R : Room} {s : State} {m : MethodId} {args : Array Value} {below : List Frame} {meth : Method} {c : Code} {H : Heap} {locs : List Loc} {cells slots : Nat} {Q : State → Prop} {cc : ByteArray} {pc : Nat} {ls : Array Slot} (φ : Nat → Nat) (hx : p.tables.exec = Jvm.exec) (hb : c.code = cc) {nL len : Nat} {ins : Instr} {lv : List (Nat × Value)} {st : List Value} {f : mm_F} (hd : decode cc pc = .ok (ins, len)) (h : mm_pure nL ins len pc lv st = some f) (hl : lv_has ls nL (mm_sl φ lv))
    (kk : ∀ ls' : Array Slot, lv_has ls' nL (mm_sl φ f.2.1) → W p l e R s m args below meth c H locs cells slots Q (F0 m f.1 ls' (f.2.2.map (mm_sh φ)))) : W p l e R s m args below meth c H locs cells slots Q (F0 m pc ls (st.map (mm_sh φ))) := by
  cases ins with
  | iconst n =>
    replace h : mm_push 1 len pc lv st (.int (Int32.ofInt n)) = some f := h
    obtain ⟨rfl, rfl⟩ := mm_push_inv h; exact lv_iconst hx hb hd rfl (kk _ hl)
  | bipush n =>
    replace h : mm_push 2 len pc lv st (.int (Int8.ofInt n).toInt32) = some f := h
    obtain ⟨rfl, rfl⟩ := mm_push_inv h; exact lv_bipush hx hb hd rfl (kk _ hl)
  | sipush n =>
    replace h : mm_push 3 len pc lv st (.int (Int16.ofInt n).toInt32) = some f := h
    obtain ⟨rfl, rfl⟩ := mm_push_inv h; exact lv_sipush hx hb hd rfl (kk _ hl)
  | lconst n =>
    replace h : mm_push 1 len pc lv st (.long (Int64.ofNat n)) = some f := h
    obtain ⟨rfl, rfl⟩ := mm_push_inv h; exact lv_lconst hx hb hd rfl (kk _ hl)
  | iload_n n =>
    replace h : mm_ldi 1 n.val len pc lv st = some f := h
    obtain ⟨rfl, x, h1, rfl⟩ := mm_ldi_inv h; exact lv_iload_n hx hb hd rfl (mm_lget_has hl h1) (kk _ hl)
  | iload i =>
    replace h : mm_ldi 2 i len pc lv st = some f := h
    obtain ⟨rfl, x, h1, rfl⟩ := mm_ldi_inv h; exact lv_iload hx hb hd (mm_lget_has hl h1) (kk _ hl)
  | istore_n n =>
    replace h : mm_sti 1 n.val nL len pc lv st = some f := h
    obtain ⟨rfl, hn, x, r, rfl, rfl⟩ := mm_sti_inv h; exact lv_istore_n hx hb hd rfl hl hn (mm_l1_sl φ lv n.val (.int x)) kk
  | istore i =>
    replace h : mm_sti 2 i nL len pc lv st = some f := h
    obtain ⟨rfl, hn, x, r, rfl, rfl⟩ := mm_sti_inv h; exact lv_istore hx hb hd hl hn (mm_l1_sl φ lv i (.int x)) kk
  | lload_n n =>
    replace h : mm_ldl 1 n.val len pc lv st = some f := h
    obtain ⟨rfl, x, h1, rfl⟩ := mm_ldl_inv h; exact lv_lload_n hx hb hd rfl (mm_lget_has hl h1) (kk _ hl)
  | lload i =>
    replace h : mm_ldl 2 i len pc lv st = some f := h
    obtain ⟨rfl, x, h1, rfl⟩ := mm_ldl_inv h; exact lv_lload hx hb hd (mm_lget_has hl h1) (kk _ hl)
  | lstore_n n =>
    replace h : mm_stl 1 n.val nL len pc lv st = some f := h
    obtain ⟨rfl, hn, x, r, rfl, rfl⟩ := mm_stl_inv h; exact lv_lstore_n hx hb hd rfl hl hn (mm_l2_sl φ lv n.val (.long x)) kk
  | lstore i =>
    replace h : mm_stl 2 i nL len pc lv st = some f := h
    obtain ⟨rfl, hn, x, r, rfl, rfl⟩ := mm_stl_inv h; exact lv_lstore hx hb hd hl hn (mm_l2_sl φ lv i (.long x)) kk
  | aload_n n =>
    replace h : mm_lda 1 n.val len pc lv st = some f := h
    obtain ⟨rfl, x, h1, rfl⟩ := mm_lda_inv h; exact lv_aload_n hx hb hd rfl (mm_lget_has hl h1) (kk _ hl)
  | aload i =>
    replace h : mm_lda 2 i len pc lv st = some f := h
    obtain ⟨rfl, x, h1, rfl⟩ := mm_lda_inv h; exact lv_aload hx hb hd (mm_lget_has hl h1) (kk _ hl)
  | astore_n n =>
    replace h : mm_sta 1 n.val nL len pc lv st = some f := h
    obtain ⟨rfl, hn, x, r, rfl, rfl⟩ := mm_sta_inv h; exact lv_astore_n hx hb hd rfl hl hn (mm_l1_sl φ lv n.val (.ref x)) kk
  | astore i =>
    replace h : mm_sta 2 i nL len pc lv st = some f := h
    obtain ⟨rfl, hn, x, r, rfl, rfl⟩ := mm_sta_inv h; exact lv_astore hx hb hd hl hn (mm_l1_sl φ lv i (.ref x)) kk
  | iinc i n =>
    replace h : mm_inc i nL n len pc lv st = some f := h
    obtain ⟨rfl, hn, x, h1, rfl⟩ := mm_inc_inv h; obtain ⟨k, hk⟩ := mm_lget_at (φ := φ) h1; exact lv_iinc hx hb hd hl hk rfl hn (mm_l1_sl φ lv i (.int (x + Int32.ofInt n))) kk
  | iadd =>
    replace h : mm_bii (fun x y => x + y) len pc lv st = some f := h
    obtain ⟨rfl, x, y, r, rfl, rfl⟩ := mm_bii_inv h; exact lv_iadd hx hb hd (kk _ hl)
  | isub =>
    replace h : mm_bii (fun x y => x - y) len pc lv st = some f := h
    obtain ⟨rfl, x, y, r, rfl, rfl⟩ := mm_bii_inv h; exact lv_isub hx hb hd (kk _ hl)
  | imul =>
    replace h : mm_bii (fun x y => x * y) len pc lv st = some f := h
    obtain ⟨rfl, x, y, r, rfl, rfl⟩ := mm_bii_inv h; exact lv_imul hx hb hd (kk _ hl)
  | iand =>
    replace h : mm_bii (fun x y => x &&& y) len pc lv st = some f := h
    obtain ⟨rfl, x, y, r, rfl, rfl⟩ := mm_bii_inv h; exact lv_iand hx hb hd (kk _ hl)
  | ior =>
    replace h : mm_bii (fun x y => x ||| y) len pc lv st = some f := h
    obtain ⟨rfl, x, y, r, rfl, rfl⟩ := mm_bii_inv h; exact lv_ior hx hb hd (kk _ hl)
  | ixor =>
    replace h : mm_bii (fun x y => x ^^^ y) len pc lv st = some f := h
    obtain ⟨rfl, x, y, r, rfl, rfl⟩ := mm_bii_inv h; exact lv_ixor hx hb hd (kk _ hl)
  | ishl =>
    replace h : mm_bii (fun x y => x <<< (y &&& 31)) len pc lv st = some f := h
    obtain ⟨rfl, x, y, r, rfl, rfl⟩ := mm_bii_inv h; exact lv_ishl hx hb hd (kk _ hl)
  | ishr =>
    replace h : mm_bii (fun x y => x >>> (y &&& 31)) len pc lv st = some f := h
    obtain ⟨rfl, x, y, r, rfl, rfl⟩ := mm_bii_inv h; exact lv_ishr hx hb hd (kk _ hl)
  | iushr =>
    replace h : mm_bii (fun x y => (x.toUInt32 >>> (y.toUInt32 &&& Int32.toUInt32 31)).toInt32) len pc lv st = some f := h
    obtain ⟨rfl, x, y, r, rfl, rfl⟩ := mm_bii_inv h; exact lv_iushr hx hb hd rfl (kk _ hl)
  | ladd =>
    replace h : mm_bll (fun x y => x + y) len pc lv st = some f := h
    obtain ⟨rfl, x, y, r, rfl, rfl⟩ := mm_bll_inv h; exact lv_ladd hx hb hd (kk _ hl)
  | lsub =>
    replace h : mm_bll (fun x y => x - y) len pc lv st = some f := h
    obtain ⟨rfl, x, y, r, rfl, rfl⟩ := mm_bll_inv h; exact lv_lsub hx hb hd (kk _ hl)
  | land =>
    replace h : mm_bll (fun x y => x &&& y) len pc lv st = some f := h
    obtain ⟨rfl, x, y, r, rfl, rfl⟩ := mm_bll_inv h; exact lv_land hx hb hd (kk _ hl)
  | lor =>
    replace h : mm_bll (fun x y => x ||| y) len pc lv st = some f := h
    obtain ⟨rfl, x, y, r, rfl, rfl⟩ := mm_bll_inv h; exact lv_lor hx hb hd (kk _ hl)
  | lshl =>
    replace h : mm_bli (fun x y => x <<< (y.toInt64 &&& 63)) len pc lv st = some f := h
    obtain ⟨rfl, x, y, r, rfl, rfl⟩ := mm_bli_inv h; exact lv_lshl hx hb hd rfl (kk _ hl)
  | lshr =>
    replace h : mm_bli (fun x y => x >>> (y.toInt64 &&& 63)) len pc lv st = some f := h
    obtain ⟨rfl, x, y, r, rfl, rfl⟩ := mm_bli_inv h; exact lv_lshr hx hb hd rfl (kk _ hl)
  | lushr =>
    replace h : mm_bli (fun x y => (x.toUInt64 >>> (y.toInt64.toUInt64 &&& Int64.toUInt64 63)).toInt64) len pc lv st = some f := h
    obtain ⟨rfl, x, y, r, rfl, rfl⟩ := mm_bli_inv h; exact lv_lushr hx hb hd rfl (kk _ hl)
  | idiv =>
    replace h : mm_bd (fun x y => x / y) len pc lv st = some f := h
    obtain ⟨rfl, x, y, r, rfl, h0, rfl⟩ := mm_bd_inv h; exact lv_idiv hx hb hd h0 (kk _ hl)
  | irem =>
    replace h : mm_bd (fun x y => x - x / y * y) len pc lv st = some f := h
    obtain ⟨rfl, x, y, r, rfl, h0, rfl⟩ := mm_bd_inv h; exact lv_irem hx hb hd h0 (kk _ hl)
  | lcmp =>
    replace h : mm_lcmp len pc lv st = some f := h
    obtain ⟨rfl, x, y, r, rfl, rfl⟩ := mm_lcmp_inv h; exact W.lcmp hx hb hd (kk _ hl)
  | ineg =>
    replace h : mm_ui_i (fun x => -x) len pc lv st = some f := h
    obtain ⟨rfl, x, r, rfl, rfl⟩ := mm_ui_i_inv h; exact lv_ineg hx hb hd (kk _ hl)
  | i2l =>
    replace h : mm_ui_l (fun x => x.toInt64) len pc lv st = some f := h
    obtain ⟨rfl, x, r, rfl, rfl⟩ := mm_ui_l_inv h; exact lv_i2l hx hb hd rfl (kk _ hl)
  | l2i =>
    replace h : mm_ul_i (fun x => x.toInt32) len pc lv st = some f := h
    obtain ⟨rfl, x, r, rfl, rfl⟩ := mm_ul_i_inv h; exact lv_l2i hx hb hd rfl (kk _ hl)
  | i2b =>
    replace h : mm_ui_i (fun x => x.toInt8.toInt32) len pc lv st = some f := h
    obtain ⟨rfl, x, r, rfl, rfl⟩ := mm_ui_i_inv h; exact lv_i2b hx hb hd rfl (kk _ hl)
  | i2s =>
    replace h : mm_ui_i (fun x => x.toInt16.toInt32) len pc lv st = some f := h
    obtain ⟨rfl, x, r, rfl, rfl⟩ := mm_ui_i_inv h; exact lv_i2s hx hb hd rfl (kk _ hl)
  | i2c =>
    replace h : mm_ui_i (fun x => (x.toUInt32 % 65536).toInt32) len pc lv st = some f := h
    obtain ⟨rfl, x, r, rfl, rfl⟩ := mm_ui_i_inv h; exact lv_i2c hx hb hd rfl (kk _ hl)
  | goto off =>
    replace h : mm_go off len pc lv st = some f := h
    obtain ⟨rfl, tgt, ht, rfl⟩ := mm_go_inv h; exact lv_goto hx hb hd (mm_tgt_ok ht) (kk _ hl)
  | ifCond cd off =>
    replace h : mm_if1 (mm_P1 cd) off len pc lv st = some f := h
    obtain ⟨rfl, tgt, x, r, ht, rfl, rfl⟩ := mm_if1_inv h
    have ht := mm_tgt_ok ht
    cases cd with
    | eq => exact lv_if_eq hx hb hd ht (fun q => by simpa [mm_P1, q] using kk _ hl) (fun q => by simpa [mm_P1, q] using kk _ hl)
    | ne => exact lv_if_ne hx hb hd ht (fun q => by simpa [mm_P1, q] using kk _ hl) (fun q => by simpa [mm_P1, q] using kk _ hl)
    | lt => exact lv_if_lt hx hb hd ht (fun q => by simpa [mm_P1, q] using kk _ hl) (fun q => by simpa [mm_P1, q] using kk _ hl)
    | ge => exact lv_if_ge hx hb hd ht (fun q => by simpa [mm_P1, q] using kk _ hl) (fun q => by simpa [mm_P1, q] using kk _ hl)
    | gt => exact lv_if_gt hx hb hd ht (fun q => by simpa [mm_P1, q] using kk _ hl) (fun q => by simpa [mm_P1, q] using kk _ hl)
    | le => exact lv_if_le hx hb hd ht (fun q => by simpa [mm_P1, q] using kk _ hl) (fun q => by simpa [mm_P1, q] using kk _ hl)
  | if_icmp cd off =>
    replace h : mm_if2 (mm_P2 cd) off len pc lv st = some f := h
    obtain ⟨rfl, tgt, x, y, r, ht, rfl, rfl⟩ := mm_if2_inv h
    have ht := mm_tgt_ok ht
    cases cd with
    | eq => exact lv_icmp_eq hx hb hd ht (fun q => by simpa [mm_P2, q] using kk _ hl) (fun q => by simpa [mm_P2, q] using kk _ hl)
    | ne => exact lv_icmp_ne hx hb hd ht (fun q => by simpa [mm_P2, q] using kk _ hl) (fun q => by simpa [mm_P2, q] using kk _ hl)
    | lt => exact lv_icmp_lt hx hb hd ht (fun q => by simpa [mm_P2, q] using kk _ hl) (fun q => by simpa [mm_P2, q] using kk _ hl)
    | ge => exact lv_icmp_ge hx hb hd ht (fun q => by simpa [mm_P2, q] using kk _ hl) (fun q => by simpa [mm_P2, q] using kk _ hl)
    | gt => exact lv_icmp_gt hx hb hd ht (fun q => by simpa [mm_P2, q] using kk _ hl) (fun q => by simpa [mm_P2, q] using kk _ hl)
    | le => exact lv_icmp_le hx hb hd ht (fun q => by simpa [mm_P2, q] using kk _ hl) (fun q => by simpa [mm_P2, q] using kk _ hl)
  | tableswitch dflt lo hi offs =>
    replace h : mm_sw dflt lo hi offs pc lv st = some f := h
    unfold mm_sw at h
    split at h
    · split at h
      · next e1 =>
        obtain ⟨t, h1, rfl⟩ := Option.map_eq_some_iff.mp h
        exact lv_tableOut hx hb hd e1 (mm_tgt_ok h1) (kk _ hl)
      · next e1 =>
        split at h
        · next off e2 =>
          obtain ⟨t, h1, rfl⟩ := Option.map_eq_some_iff.mp h
          exact lv_tableIn hx hb hd (fun q => e1 (Or.inl q)) (fun q => e1 (Or.inr q)) e2 (mm_tgt_ok h1) (kk _ hl)
        · cases h
    · cases h
  | lookupswitch dflt ps =>
    replace h : mm_lsw dflt ps pc lv st = some f := h
    unfold mm_lsw at h
    split at h
    · split at h
      · next e1 =>
        obtain ⟨t, h1, rfl⟩ := Option.map_eq_some_iff.mp h
        exact lv_lookup hx hb hd e1 rfl (mm_tgt_ok h1) (kk _ hl)
      · cases h
    · cases h
  | dup =>
    replace h : mm_dup len pc lv st = some f := h
    unfold mm_dup at h
    split at h
    · split at h
      · next e1 =>
        obtain ⟨rfl, e2⟩ := e1
        cases h
        exact lv_dup hx hb hd (by rw [mm_sh_cat]; exact e2) (kk _ hl)
      · cases h
    · cases h
  | pop =>
    replace h : mm_pop len pc lv st = some f := h
    unfold mm_pop at h
    split at h
    · split at h
      · next e1 =>
        obtain ⟨rfl, e2⟩ := e1
        cases h
        exact lv_pop hx hb hd (by rw [mm_sh_cat]; exact e2) (kk _ hl)
      · cases h
    · cases h
  | dup2 =>
    replace h : mm_dup2 len pc lv st = some f := h
    unfold mm_dup2 at h
    split at h
    · split at h
      · next e1 =>
        obtain ⟨rfl, e2, e3⟩ := e1
        cases h
        exact lv_dup2_11 hx hb hd (by rw [mm_sh_cat]; exact e2) (by rw [mm_sh_cat]; exact e3) (kk _ hl)
      · cases h
    · cases h
  | _ => cases h
