/-! ===== the small machine's run: straight steps, calls, the state at a return ===== -/
def mm_stp (o nL kx : Nat) (ini : Bool) (zs : List mm_Zt) (ins : Instr) (len : Nat) (σ : mm_S) : Option mm_S := match mm_pure nL ins len σ.1 σ.2.1 σ.2.2.1 with
  | some f => some (f.1, f.2.1, f.2.2, σ.2.2.2)
  | none => mm_mem o kx ini zs ins len σ
section MMR
variable {p : Program} {l : Launch} {e : Env} {R : Room} {s : State} {m : MethodId} {args : Array Value} {below : List Frame} {meth : Method} {c : Code} {Q : State → Prop}
variable {φ : Nat → Nat} {kx bs : Nat} {D : va_G} {zs : List mm_Zt} {cc : ByteArray} {o nL len : Nat} {own : String} {ini : Bool} {σ σ' : mm_S}
theorem mm_mem_ok {ins : Instr} (F : mm_Fx p s m args meth c φ kx bs D o own nL ini cc) (hRm : 1 ≤ R.frames ∧ 64 ≤ R.locals) (hd : decode cc σ.1 = .ok (ins, len)) (h : mm_mem o kx ini zs ins len σ = some σ') (kk : mm_Go p l e R s m args below meth c φ kx bs D zs nL Q σ') : mm_Go p l e R s m args below meth c φ kx bs D zs nL Q σ := by
  cases ins with
  | getfield idx => exact mm_getS_ok F hd h kk
  | putfield idx => exact mm_putS_ok F hd h kk
  | iaload => exact mm_iald_ok F hd h kk
  | laload => exact mm_lald_ok F hd h kk
  | caload => exact mm_cald_ok F hd h kk
  | baload => exact mm_bald_ok F hd h kk
  | aaload => exact mm_aald_ok F hd h kk
  | iastore => exact mm_iast_ok F hd h kk
  | castore => exact mm_cast_ok F hd h kk
  | bastore => exact mm_bast_ok F hd h kk
  | lastore => exact mm_last_ok F hd h kk
  | aastore => exact mm_aast_ok F hd h kk
  | arraylength => exact mm_alen_ok F hd h kk
  | ldc idx => exact mm_ldc_ok F hd h kk
  | ldc_w idx => exact mm_ldcw_ok F hd h kk
  | ldc2_w idx => exact mm_ldc2_ok F hd h kk
  | getstatic idx => exact mm_getst_ok F hd h kk
  | new idx => exact mm_new_ok F hd h kk
  | newarray at_ => exact mm_na_ok F hd h kk
  | anewarray idx => exact mm_ana_ok F hd h kk
  | invokespecial idx => exact mm_spI_ok F hRm hd h kk
  | invokestatic idx => exact mm_spS_ok F hRm hd h kk
  | _ => cases h
theorem mm_stp_ok {ins : Instr} (F : mm_Fx p s m args meth c φ kx bs D o own nL ini cc) (hRm : 1 ≤ R.frames ∧ 64 ≤ R.locals) (hd : decode cc σ.1 = .ok (ins, len)) (h : mm_stp o nL kx ini zs ins len σ = some σ') (kk : mm_Go p l e R s m args below meth c φ kx bs D zs nL Q σ') : mm_Go p l e R s m args below meth c φ kx bs D zs nL Q σ := by
  unfold mm_stp at h
  split at h
  · next f hf =>
    cases h
    intro H locs ls cells slots hR hS hl hc hs
    exact mm_pure_ok φ F.1 F.2.1 hd hf hl (fun ls' hl' => kk H locs ls' cells slots hR hS hl' hc hs)
  · exact mm_mem_ok F hRm hd h kk
end MMR
/-- a call's method, its arguments, what is left of the stack -/
def mm_cal (o : Nat) (ins : Instr) (len : Nat) (st : List Value) (mem : List mm_C) : Option (Nat × List Value × List Value) := match ins with
  | .invokevirtual idx => match mm_look o idx with
    | some (idx', kd, y, b, z, pl) => match mm_mths[y]? with
      | some t => match st.drop t.2.2.2.2.2.1 with
        | .ref a :: r => match mem[a]? with
          | some (.inr (ci, fs)) => if len = 3 ∧ idx' = idx ∧ (kd = 2 ∨ kd = 3) ∧ t.2.2.2.2.2.2.1 = 1 ∧ ci = t.1 ∧ (r.map fun v => v.category).sum ≤ 8 then some (y, .ref a :: (st.take t.2.2.2.2.2.1).reverse, r) else none
          | _ => none
        | _ => none
      | none => none
    | none => none
  | .invokestatic idx => match mm_look o idx with
    | some (idx', kd, y, b, z, pl) => match mm_mths[y]? with
      | some t => if len = 3 ∧ idx' = idx ∧ (kd = 2 ∨ kd = 3) ∧ t.2.2.2.2.2.2.1 = 0 ∧ t.2.2.2.2.2.1 ≤ st.length ∧ ((st.drop t.2.2.2.2.2.1).map fun v => v.category).sum ≤ 8 then some (y, (st.take t.2.2.2.2.2.1).reverse, st.drop t.2.2.2.2.2.1) else none
      | none => none
    | none => none
  | .invokespecial idx => match mm_look o idx with
    | some (idx', kd, y, b, z, pl) => match mm_mths[y]? with
      | some t => match st.drop t.2.2.2.2.2.1 with
        | .ref a :: r => if len = 3 ∧ idx' = idx ∧ (kd = 2 ∨ kd = 3) ∧ t.2.2.2.2.2.2.1 = 2 ∧ t.2.2.2.2.1 = none ∧ (r.map fun v => v.category).sum ≤ 8 then some (y, .ref a :: (st.take t.2.2.2.2.2.1).reverse, r) else none
        | _ => none
      | none => none
    | none => none
  | _ => none
abbrev mm_Fi : Type := Nat × ByteArray × Nat × Bool
def mm_fi (t : mm_Mt) : mm_Fi := (t.1, t.2.2.1, t.2.2.2.1, decide (t.2.2.2.2.2.2.1 = 2))
def mm_isR : Instr → Bool
  | .ireturn => true
  | .areturn => true
  | .lreturn => true
  | .return_ => true
  | _ => false
/-- what a method hands back -/
def mm_ret (t : mm_Mt) (τ : mm_S) : Option (Option Value) := match decode t.2.2.1 τ.1 with
  | .ok (.ireturn, 1) => match t.2.2.2.2.1, τ.2.2.1 with
    | some ty, [.int v] => if narrow ty (.int v) = .int v then some (some (.int v)) else none
    | _, _ => none
  | .ok (.areturn, 1) => match t.2.2.2.2.1, τ.2.2.1 with
    | some (.object _), [.ref a] => some (some (.ref a))
    | _, _ => none
  | .ok (.lreturn, 1) => match t.2.2.2.2.1, τ.2.2.1 with
    | some .long, [.long v] => some (some (.long v))
    | _, _ => none
  | .ok (.return_, 1) => match t.2.2.2.2.1, τ.2.2.1 with
    | none, [] => some none
    | _, _ => none
  | _ => none
def mm_ent (y : Nat) (As : List Value) (mem : List mm_C) : mm_S := (0, lv_args 0 As, [], mem, (mm_bud y).1, (mm_bud y).2)
/-- fuel, depth of calls, the method, the state: the state at its return -/
def mm_run (kx : Nat) (zs : List mm_Zt) : Nat → Nat → mm_Fi → mm_S → Option mm_S
  | 0, _, _, _ => none
  | n + 1, d, fi, σ => match decode fi.2.1 σ.1 with
    | .ok (ins, len) => if mm_isR ins then some σ else match mm_stp fi.1 fi.2.2.1 kx fi.2.2.2 zs ins len σ with
      | some σ' => mm_run kx zs n d fi σ'
      | none => match d with
        | 0 => none
        | d' + 1 => match mm_cal fi.1 ins len σ.2.2.1 σ.2.2.2.1 with
          | none => none
          | some (y, As, rest) => match mm_mths[y]? with
            | none => none
            | some t => if (lg_sl As).length ≤ t.2.2.2.1 ∧ (mm_bud y).1 ≤ σ.2.2.2.2.1 ∧ (mm_bud y).2 ≤ σ.2.2.2.2.2 then match mm_run kx zs n d' (mm_fi t) (mm_ent y As σ.2.2.2.1) with
              | none => none
              | some τ => match mm_ret t τ with
                | none => none
                | some v => mm_run kx zs n (d' + 1) fi (σ.1 + 3, σ.2.1, v.toList ++ rest, τ.2.2.2.1, σ.2.2.2.2.1 - (mm_bud y).1, σ.2.2.2.2.2 - (mm_bud y).2)
              else none
    | .error _ => none
