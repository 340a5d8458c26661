/-! ===== steps on cells, as a function of the state ===== -/
theorem mm_nar {φ : Nat → Nat} {ty : FieldType} {v : Value} (h : narrow ty v = v) : narrow ty (mm_sh φ v) = mm_sh φ v := by
  cases v with
  | ref a => cases ty <;> rfl
  | _ => exact h
theorem mm_fit {φ : Nat → Nat} {ty : FieldType} {v : Value} (h : fits ty v = true) : fits ty (mm_sh φ v) = true := by
  cases v with
  | ref a => cases ty <;> first | rfl | exact h
  | _ => exact h
theorem mm_sh_nar (φ : Nat → Nat) (ty : FieldType) (x : Int32) : mm_sh φ (narrow ty (.int x)) = narrow ty (.int x) := by cases ty <;> rfl
theorem mm_sh_def (φ : Nat → Nat) (ty : FieldType) : mm_sh φ (defaultValue ty) = defaultValue ty := by cases ty <;> rfl
def mm_getS (o len idx : Nat) (σ : mm_S) : Option mm_S := match σ with
  | (pc, lv, .ref a :: r, mem, cb, sb) => match mm_look o idx, mem[a]? with
    | some (idx', kd, ci, k, z, pl), some (.inr (ci', fs)) => if len = 3 ∧ idx' = idx ∧ (kd = 0 ∨ kd = 1) ∧ ci' = ci then (fs[k]?).map (fun v => (pc + 3, lv, v :: r, mem, cb, sb)) else none
    | _, _ => none
  | _ => none
def mm_putS (o kx : Nat) (ini : Bool) (len idx : Nat) (σ : mm_S) : Option mm_S := match σ with
  | (pc, lv, v :: .ref a :: r, mem, cb, sb) => match mm_look o idx, mem[a]? with
    | some (idx', kd, ci, k, z, pl), some (.inr (ci', fs)) => match vwCl[ci]? with
      | some q => if len = 3 ∧ idx' = idx ∧ ci' = ci ∧ kx ≤ a ∧ narrow (mm_ty ci k) v = v ∧ fits (mm_ty ci k) v = true ∧ (((kd = 0 ∨ kd = 1) ∧ (q.2.1 k).2.2.2 = false) ∨ (kd = 0 ∧ (q.2.1 k).2.2.2 = true ∧ ini = true ∧ mm_cns[o]? = some (q.2.1 k).1)) then some (pc + 3, lv, r, mem.set a (.inr (ci, fs.set k v)), cb, sb) else none
      | none => none
    | _, _ => none
  | _ => none
def mm_aldS (P : FieldType → Bool) (len : Nat) (σ : mm_S) : Option mm_S := match σ with
  | (pc, lv, .int j :: .ref a :: r, mem, cb, sb) => match mem[a]? with
    | some (.inl (ty, xs)) => if len = 1 ∧ P ty = true ∧ ¬ (j < 0 ∨ xs.length ≤ j.toNatClampNeg) then (xs[j.toNatClampNeg]?).map (fun v => (pc + 1, lv, v :: r, mem, cb, sb)) else none
    | _ => none
  | _ => none
theorem mm_aldS_inv {P : FieldType → Bool} {len : Nat} {σ σ' : mm_S} (h : mm_aldS P len σ = some σ') : len = 1 ∧ ∃ pc lv j a r mem cb sb ty xs v, σ = (pc, lv, .int j :: .ref a :: r, mem, cb, sb) ∧ mem[a]? = some (.inl (ty, xs)) ∧ P ty = true ∧ ¬ (j < 0 ∨ xs.length ≤ j.toNatClampNeg) ∧ xs[j.toNatClampNeg]? = some v ∧ σ' = (pc + 1, lv, v :: r, mem, cb, sb) := by
  unfold mm_aldS at h
  split at h
  · split at h
    · next e1 =>
      split at h
      · next e2 =>
        obtain ⟨v, hv, rfl⟩ := Option.map_eq_some_iff.mp h
        exact ⟨e2.1, _, _, _, _, _, _, _, _, _, _, _, rfl, e1, e2.2.1, e2.2.2, hv, rfl⟩
      · cases h
    · cases h
  · cases h
def mm_astS (ty0 : FieldType) (kx len : Nat) (σ : mm_S) : Option mm_S := match σ with
  | (pc, lv, .int x :: .int j :: .ref a :: r, mem, cb, sb) => match mem[a]? with
    | some (.inl (ty, xs)) => if len = 1 ∧ ty = ty0 ∧ kx ≤ a ∧ ¬ (j < 0 ∨ xs.length ≤ j.toNatClampNeg) then some (pc + 1, lv, r, mem.set a (.inl (ty0, xs.set j.toNatClampNeg (narrow ty0 (.int x)))), cb, sb) else none
    | _ => none
  | _ => none
theorem mm_astS_inv {ty0 : FieldType} {kx len : Nat} {σ σ' : mm_S} (h : mm_astS ty0 kx len σ = some σ') : len = 1 ∧ ∃ pc lv x j a r mem cb sb xs, σ = (pc, lv, .int x :: .int j :: .ref a :: r, mem, cb, sb) ∧ mem[a]? = some (.inl (ty0, xs)) ∧ kx ≤ a ∧ ¬ (j < 0 ∨ xs.length ≤ j.toNatClampNeg) ∧ σ' = (pc + 1, lv, r, mem.set a (.inl (ty0, xs.set j.toNatClampNeg (narrow ty0 (.int x)))), cb, sb) := by
  unfold mm_astS at h
  split at h
  · split at h
    · next e1 =>
      split at h
      · next e2 =>
        obtain ⟨rfl, rfl, h3, h4⟩ := e2
        cases h
        exact ⟨rfl, _, _, _, _, _, _, _, _, _, _, rfl, e1, h3, h4, rfl⟩
      · cases h
    · cases h
  · cases h
def mm_astlS (kx len : Nat) (σ : mm_S) : Option mm_S := match σ with
  | (pc, lv, .long x :: .int j :: .ref a :: r, mem, cb, sb) => match mem[a]? with
    | some (.inl (ty, xs)) => if len = 1 ∧ ty = .long ∧ kx ≤ a ∧ ¬ (j < 0 ∨ xs.length ≤ j.toNatClampNeg) then some (pc + 1, lv, r, mem.set a (.inl (ty, xs.set j.toNatClampNeg (.long x))), cb, sb) else none
    | _ => none
  | _ => none
def mm_astaS (kx len : Nat) (σ : mm_S) : Option mm_S := match σ with
  | (pc, lv, .ref b :: .int j :: .ref a :: r, mem, cb, sb) => match mem[a]?, mem[b]? with
    | some (.inl (.object C, xs)), some (.inr (ci, fs)) => match vwCl[ci]? with
      | some q => if len = 1 ∧ q.1 = C ∧ kx ≤ a ∧ ¬ (j < 0 ∨ xs.length ≤ j.toNatClampNeg) then some (pc + 1, lv, r, mem.set a (.inl (.object C, xs.set j.toNatClampNeg (.ref b))), cb, sb) else none
      | none => none
    | _, _ => none
  | _ => none
def mm_bstS (kx len : Nat) (σ : mm_S) : Option mm_S := match σ with
  | (_, _, .int _ :: .int _ :: .ref a :: _, mem, _, _) => match mem[a]? with
    | some (.inl (.byte, _)) => mm_astS .byte kx len σ
    | some (.inl (.boolean, _)) => mm_astS .boolean kx len σ
    | _ => none
  | _ => none
def mm_alenS (len : Nat) (σ : mm_S) : Option mm_S := match σ with
  | (pc, lv, .ref a :: r, mem, cb, sb) => match mem[a]? with
    | some (.inl (ty, xs)) => if len = 1 then some (pc + 1, lv, .int (Int32.ofNat xs.length) :: r, mem, cb, sb) else none
    | _ => none
  | _ => none
def mm_ldcS (o k len idx : Nat) (σ : mm_S) : Option mm_S := match σ with
  | (pc, lv, st, mem, cb, sb) => match mm_look o idx with
    | some (idx', 6, a, b, z, pl) => if len = k ∧ idx' = idx then some (pc + k, lv, .int (Int32.ofInt z) :: st, mem, cb, sb) else none
    | some (idx', 12, a, b, z, pl) => if len = k ∧ idx' = idx ∧ k = 2 ∧ o = 8 ∧ 5 ≤ a ∧ a < 21 ∧ idx = 122 + 2 * (a - 5) then some (pc + k, lv, .ref a :: st, mem, cb, sb) else none
    | _ => none
def mm_ldc2S (o len idx : Nat) (σ : mm_S) : Option mm_S := match σ with
  | (pc, lv, st, mem, cb, sb) => match mm_look o idx with
    | some (idx', 7, a, b, z, pl) => if len = 3 ∧ idx' = idx then some (pc + 3, lv, .long (Int64.ofInt z) :: st, mem, cb, sb) else none
    | _ => none
def mm_getstS (o : Nat) (zs : List mm_Zt) (len idx : Nat) (σ : mm_S) : Option mm_S := match σ with
  | (pc, lv, st, mem, cb, sb) => match mm_look o idx with
    | some (idx', kd, a, b, z, pl) => match mm_sts[a]? with
      | some q => match zs.find? (fun t => decide (t.1 = q.1 ∧ t.2.1 = q.2.1 ∧ t.2.2.1 = q.2.2)) with
        | some t => if len = 3 ∧ idx' = idx ∧ (kd = 10 ∨ kd = 11) then some (pc + 3, lv, t.2.2.2 :: st, mem, cb, sb) else none
        | none => none
      | none => none
    | none => none
def mm_newS (o len idx : Nat) (σ : mm_S) : Option mm_S := match σ with
  | (pc, lv, st, mem, cb, sb) => match mm_look o idx with
    | some (idx', kd, ci, b, z, pl) => match vwCl[ci]? with
      | some q => if len = 3 ∧ idx' = idx ∧ kd = 4 ∧ 1 ≤ cb ∧ q.2.2 ≤ sb then some (pc + 3, lv, .ref mem.length :: st, mem ++ [.inr (ci, (List.range q.2.2).map (fun k => defaultValue (mm_ty ci k)))], cb - 1, sb - q.2.2) else none
      | none => none
    | none => none
def mm_naS (at_ : ArrayType) (len : Nat) (σ : mm_S) : Option mm_S := match σ with
  | (pc, lv, .int n :: r, mem, cb, sb) => if len = 2 ∧ (newarray.typeOf at_ = .int ∨ newarray.typeOf at_ = .long ∨ newarray.typeOf at_ = .byte ∨ newarray.typeOf at_ = .char ∨ newarray.typeOf at_ = .boolean) ∧ ¬ n < 0 ∧ n.toNatClampNeg ≤ 10000 ∧ 1 ≤ cb ∧ n.toNatClampNeg ≤ sb then some (pc + 2, lv, .ref mem.length :: r, mem ++ [.inl (newarray.typeOf at_, List.replicate n.toNatClampNeg (defaultValue (newarray.typeOf at_)))], cb - 1, sb - n.toNatClampNeg) else none
  | _ => none
def mm_anaS (o len idx : Nat) (σ : mm_S) : Option mm_S := match σ with
  | (pc, lv, .int n :: r, mem, cb, sb) => match mm_look o idx with
    | some (idx', kd, ci, b, z, pl) => match vwCl[ci]? with
      | some q => if len = 3 ∧ idx' = idx ∧ kd = 4 ∧ (q.1 = "RaftTown$Raft" ∨ q.1 = "RaftTown$Person" ∨ q.1 = "RaftTown$Rope" ∨ q.1 = "RaftTown$Text" ∨ q.1 = "RaftTown$Sheet") ∧ ¬ n < 0 ∧ n.toNatClampNeg ≤ 10000 ∧ 1 ≤ cb ∧ n.toNatClampNeg ≤ sb then some (pc + 3, lv, .ref mem.length :: r, mem ++ [.inl (.object q.1, List.replicate n.toNatClampNeg .null)], cb - 1, sb - n.toNatClampNeg) else none
      | none => none
    | none => none
  | _ => none
def mm_cpy (xs ys : List Value) (sp dp n : Nat) : List Value := (List.range ys.length).map (fun j => if dp ≤ j ∧ j < dp + n then xs.getD (sp + (j - dp)) .null else ys.getD j .null)
def mm_spI (o len idx : Nat) (σ : mm_S) : Option mm_S := match σ with
  | (pc, lv, .ref a :: r, mem, cb, sb) => match mm_look o idx with
    | some (idx', kd, ci, b, z, pl) => if len = 3 ∧ idx' = idx ∧ kd = 8 ∧ (r.map fun v => v.category).sum ≤ 8 then some (pc + 3, lv, r, mem, cb, sb) else none
    | none => none
  | _ => none
def mm_spS (o kx len idx : Nat) (σ : mm_S) : Option mm_S := match σ with
  | (pc, lv, st, mem, cb, sb) => match mm_look o idx with
    | some (idx', kd, ci, b, z, pl) => if len = 3 ∧ idx' = idx then match kd, st with
      | 13, .int y :: .int x :: r => if (r.map fun v => v.category).sum ≤ 8 then some (pc + 3, lv, .int (if x < y then y else x) :: r, mem, cb, sb) else none
      | 14, .int y :: .int x :: r => if (r.map fun v => v.category).sum ≤ 8 then some (pc + 3, lv, .int (if y < x then y else x) :: r, mem, cb, sb) else none
      | 9, .int n :: .int dp :: .ref d :: .int sp :: .ref s :: r => match mem[s]?, mem[d]? with
        | some (.inl (ty, xs)), some (.inl (ty', ys)) => if (r.map fun v => v.category).sum ≤ 8 ∧ kx ≤ s ∧ kx ≤ d ∧ ty' = ty ∧ refKind ty = false ∧ ¬ sp < 0 ∧ ¬ dp < 0 ∧ ¬ n < 0 ∧ sp.toNatClampNeg + n.toNatClampNeg ≤ xs.length ∧ dp.toNatClampNeg + n.toNatClampNeg ≤ ys.length ∧ xs.all (fun v => fits ty v) = true then some (pc + 3, lv, r, mem.set d (.inl (ty, mm_cpy xs ys sp.toNatClampNeg dp.toNatClampNeg n.toNatClampNeg)), cb, sb) else none
        | _, _ => none
      | _, _ => none
      else none
    | none => none
def mm_mem (o kx : Nat) (ini : Bool) (zs : List mm_Zt) (ins : Instr) (len : Nat) (σ : mm_S) : Option mm_S := match ins with
  | .getfield idx => mm_getS o len idx σ
  | .putfield idx => mm_putS o kx ini len idx σ
  | .iaload => mm_aldS (fun ty => decide (ty = .int)) len σ
  | .laload => mm_aldS (fun ty => decide (ty = .long)) len σ
  | .caload => mm_aldS (fun ty => decide (ty = .char)) len σ
  | .baload => mm_aldS (fun ty => decide (ty = .byte ∨ ty = .boolean)) len σ
  | .aaload => mm_aldS (fun ty => ty.isReference) len σ
  | .iastore => mm_astS .int kx len σ
  | .castore => mm_astS .char kx len σ
  | .bastore => mm_bstS kx len σ
  | .lastore => mm_astlS kx len σ
  | .aastore => mm_astaS kx len σ
  | .arraylength => mm_alenS len σ
  | .ldc idx => mm_ldcS o 2 len idx σ
  | .ldc_w idx => mm_ldcS o 3 len idx σ
  | .ldc2_w idx => mm_ldc2S o len idx σ
  | .getstatic idx => mm_getstS o zs len idx σ
  | .new idx => mm_newS o len idx σ
  | .newarray at_ => mm_naS at_ len σ
  | .anewarray idx => mm_anaS o len idx σ
  | .invokespecial idx => mm_spI o len idx σ
  | .invokestatic idx => mm_spS o kx len idx σ
  | _ => none
