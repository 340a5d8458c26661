/-! ===== runs from cut to cut: memory, calls, the step ===== -/
/-- a contract: the method, its arguments, its answer, the types whose places it may change -/
abbrev se_C : Type := Nat × List se_K × Option se_K × List Nat
def se_eq (v w : se_V) : Bool := decide (v.1 = w.1) && (Nat.beq v.2.1 w.2.1 && decide (v.2.2 = w.2.2))
def se_find (M : se_M) (r i : se_V) : Option se_V := match M with
  | [] => none
  | e :: t => if se_eq e.1 r && se_eq e.2.1 i then some e.2.2 else se_find t r i
/-- a value is of a kind -/
def se_is (ds : List se_D) (v : se_V) (κ : se_K) : Bool := match κ.1 with
  | 0 => Nat.beq (se_kd ds v) 0 && (match se_rg ds v with
    | (l, h) => se_le κ.2.1 l && se_le h κ.2.2)
  | k => Nat.beq (se_kd ds v) k && decide (v.1 = 1)
def se_jn (a b : se_K) : Option se_K := if Nat.beq a.1 0 && Nat.beq b.1 0 then some (0, se_min a.2.1 b.2.1, se_max a.2.2 b.2.2) else if Nat.beq a.1 b.1 then some a else none
def se_js (segs : List (Nat × Nat × List se_K)) (κ : se_K) : List Nat → Option se_K
  | [] => some κ
  | i :: t => match se_jn κ (se_seg segs i) with
    | some κ' => se_js segs κ' t
    | none => none
/-- all that an index can be -/
def se_ixs (ds : List se_D) (v : se_V) : Option (List Nat) := if v.1 = 0 then some [v.2.2.toNat] else match ds[v.2.1]? with
  | some d => if se_le (d.1.2.2 - d.1.2.1) 256 then some ((List.range (d.1.2.2 - d.1.2.1 + 1).toNat).map (fun j : Nat => (v.1 * (d.1.2.1 + (j : Int)) + v.2.2).toNat)) else none
  | none => none
def se_flat (n : Nat) (segs : List (Nat × Nat × List se_K)) : Option se_K := match segs with
  | [(0, b, [κ])] => if Nat.ble n b then some κ else none
  | _ => none
def se_lk (ds : List se_D) (n : Nat) (segs : List (Nat × Nat × List se_K)) (i : se_V) : Option se_K := match se_flat n segs with
  | some κ => some κ
  | none => match se_ixs ds i with
    | some (j :: js) => se_js segs (se_seg segs j) js
    | _ => if segs.all (fun e => e.2.2.all (fun κ => Nat.beq κ.1 0)) then some se_any else none
def se_sk (ds : List se_D) (n : Nat) (segs : List (Nat × Nat × List se_K)) (i v : se_V) : Bool := match se_flat n segs with
  | some κ => se_is ds v κ
  | none => match se_ixs ds i with
    | some js => js.all (fun j => se_is ds v (se_seg segs j))
    | none => false
/-- two places that are surely two -/
def se_apart (ds : List se_D) (r i : se_V) (e : se_V × se_V × se_V) : Bool := !(Nat.beq (se_kd ds r) (se_kd ds e.1)) || (match se_rg ds i, se_rg ds e.2.1 with
  | (l1, h1), (l2, h2) => decide (h1 < l2) || decide (h2 < l1))
def se_nar (ty : FieldType) (l h : Int) : Bool := match ty with
  | .int => true
  | .boolean => se_le 0 l && se_le h 1
  | .byte => se_le (-128) l && se_le h 127
  | _ => false
/-- a type is among some -/
def se_has (W : List Nat) (t : Nat) : Bool := W.any (fun u => Nat.beq u t)
section SED
variable (tt : Nat → se_Ty) (C : List se_C) (W : List Nat)
def se_go (ds : List se_D) (M : se_M) (y : Nat) (full tl : List sx_I) (lv : List (Option se_V)) (st : List se_V) (K : List se_F) (P : List (Jvm.ClassFile.Cond × se_V × se_V)) (L : Option se_M) (pc : Nat) : se_R := sx_nK pc (fun pc => sx_nx tl full pc (fun cs => some [(ds, M, (y, full, cs, lv, st), K, P, L)]))
def se_ld (lv : List (Option se_V)) (i : Nat) : Option se_V := match lv[i]? with
  | some (some v) => some v
  | _ => none
def se_l1K {β : Type} (ds : List se_D) (lv : List (Option se_V)) (i : Nat) (v : se_V) (k : List (Option se_V) → β) : β := match i with
  | 0 => sx_setK lv 0 (some v) k
  | i + 1 => match lv[i]? with
    | some (some w) => if Nat.beq (se_kd ds w) 1 then sx_setK lv i none (fun lv => sx_setK lv (i + 1) (some v) k) else sx_setK lv (i + 1) (some v) k
    | _ => sx_setK lv (i + 1) (some v) k
def se_l2K {β : Type} (ds : List se_D) (lv : List (Option se_V)) (i : Nat) (v : se_V) (k : List (Option se_V) → β) : β := se_l1K ds lv i v (fun lv => sx_setK lv (i + 1) none k)
/-- a slot of a type read at a place -/
def se_load (ds : List se_D) (M : se_M) (n : Nat) (segs : List (Nat × Nat × List se_K)) (r i : se_V) (k : List se_D → se_M → se_V → se_R) : se_R := match se_rg ds i with
  | (l, h) => if Nat.beq (se_kd ds i) 0 && (se_le 0 l && decide (h < n)) then match se_find M r i with
    | some v => k ds M v
    | none => match se_lk ds n segs i with
      | some κ => se_new ds κ.1 κ.2.1 κ.2.2 0 (0, 0, 0) (0, 0, 0) (fun ds v => k ds ((r, i, v) :: M) v)
      | none => none
    else none
def se_store (ds : List se_D) (M : se_M) (L : Option se_M) (n : Nat) (segs : List (Nat × Nat × List se_K)) (r i v : se_V) (k : se_M → Option se_M → se_R) : se_R := match se_rg ds i with
  | (l, h) => if Nat.beq (se_kd ds i) 0 && (se_le 0 l && (decide (h < n) && (se_has W (se_kd ds r - 2) && se_sk ds n segs i v))) then k ((r, i, v) :: M.filter (se_apart ds r i)) (L.map (fun l => (r, i, v) :: l)) else none
def se_ald (ds : List se_D) (M : se_M) (ins : Instr) (len : Nat) (st : List se_V) (k : List se_D → se_M → List se_V → se_R) : se_R := match st with
  | i :: r :: s => match se_kd ds r with
    | t + 2 => match tt t with
      | (none, ft, n, segs) => if len = 1 ∧ sx_tyI ins ft = true ∧ r.1 = 1 then se_load ds M n segs r i (fun ds M v => k ds M (v :: s)) else none
      | _ => none
    | _ => none
  | _ => none
def se_ast (ds : List se_D) (M : se_M) (L : Option se_M) (ins : Instr) (len : Nat) (st : List se_V) (k : se_M → Option se_M → List se_V → se_R) : se_R := match st with
  | v :: i :: r :: s => match se_kd ds r with
    | t + 2 => match tt t, se_rg ds v with
      | (none, ft, n, segs), (l, h) => if len = 1 ∧ sx_tyI ins ft = true ∧ r.1 = 1 ∧ se_kd ds v = 0 ∧ se_nar ft l h = true then se_store W ds M L n segs r i v (fun M L => k M L s) else none
      | _, _ => none
    | _ => none
  | _ => none
def se_getf (ds : List se_D) (M : se_M) (len kd ci k : Nat) (st : List se_V) (kk : List se_D → se_M → List se_V → se_R) : se_R := match st with
  | r :: s => match se_kd ds r with
    | t + 2 => match tt t with
      | (some ci', _, n, segs) => if len = 3 ∧ (kd = 0 ∨ kd = 1) ∧ ci' = ci ∧ r.1 = 1 then se_load ds M n segs r (0, 0, (k : Int)) (fun ds M v => kk ds M (v :: s)) else none
      | _ => none
    | _ => none
  | _ => none
def se_putf (ds : List se_D) (M : se_M) (L : Option se_M) (len kd ci k : Nat) (st : List se_V) (kk : se_M → Option se_M → List se_V → se_R) : se_R := match st with
  | v :: r :: s => match se_kd ds r with
    | t + 2 => match tt t, se_rg ds v, vwCl[ci]? with
      | (some ci', _, n, segs), (l, h), some q => if len = 3 ∧ (kd = 0 ∨ kd = 1) ∧ ci' = ci ∧ r.1 = 1 ∧ se_kd ds v = 0 ∧ se_nar (mm_ty ci k) l h = true ∧ (q.2.1 k).2.2.2 = false then se_store W ds M L n segs r (0, 0, (k : Int)) v (fun M L => kk M L s) else none
      | _, _, _ => none
    | _ => none
  | _ => none
def se_cat (ds : List se_D) (v : se_V) : Nat := if Nat.beq (se_kd ds v) 1 then 2 else 1
def se_args (ds : List se_D) : List se_V → List (Option se_V)
  | [] => []
  | v :: vs => if Nat.beq (se_kd ds v) 1 then some v :: none :: se_args ds vs else some v :: se_args ds vs
def se_pad (n : Nat) (l : List (Option se_V)) : List (Option se_V) := l ++ List.replicate (n - l.length) none
def se_cats (ds : List se_D) (l : List se_V) : Nat := (l.map (se_cat ds)).sum
def se_fits (ds : List se_D) : List se_V → List se_K → Bool
  | [], [] => true
  | v :: vs, κ :: κs => se_is ds v κ && se_fits ds vs κs
  | _, _ => false
/-- a method's own slots are small enough, it makes nothing -/
def se_mok (t : mm_Mt) (y : Nat) (n : Nat) : Bool := Nat.ble n t.2.2.2.1 && (Nat.beq (mm_bud y).1 0 && Nat.beq (mm_bud y).2 0)
/-- a call: by contract, or into its code -/
def se_call (ds : List se_D) (M : se_M) (F : se_F) (tl : List sx_I) (K : List se_F) (P : List (Jvm.ClassFile.Cond × se_V × se_V)) (L : Option se_M) (y pc : Nat) (t : mm_Mt) (As rest : List se_V) : se_R :=
  if Nat.ble (se_cats ds rest) 8 && se_mok t y (se_args ds As).length then match C.find? (fun c => Nat.beq c.1 y && se_fits ds As c.2.1) with
    | some c => if c.2.2.2.all (fun t => se_has W t) then match c.2.2.1 with
      | some κ => se_new ds κ.1 κ.2.1 κ.2.2 0 (0, 0, 0) (0, 0, 0) (fun ds' v => se_go ds' (M.filter (fun e => !(c.2.2.2.any (fun t => Nat.beq (se_kd ds e.1) (t + 2))))) F.1 F.2.1 tl F.2.2.2.1 (v :: rest) K P (if c.2.2.2.isEmpty then L else none) (pc + 3))
      | none => se_go ds (M.filter (fun e => !(c.2.2.2.any (fun t => Nat.beq (se_kd ds e.1) (t + 2))))) F.1 F.2.1 tl F.2.2.2.1 rest K P (if c.2.2.2.isEmpty then L else none) (pc + 3)
      else none
    | none => match sx_cods[y]? with
      | some code => if Nat.blt K.length 12 then sx_nx tl F.2.1 (pc + 3) (fun cs => some [(ds, M, (y, code, code, se_pad t.2.2.2.1 (se_args ds As), []), (F.1, F.2.1, cs, F.2.2.2.1, rest) :: K, P, L)]) else none
      | none => none
  else none
def se_cal (ds : List se_D) (M : se_M) (F : se_F) (tl : List sx_I) (K : List se_F) (P : List (Jvm.ClassFile.Cond × se_V × se_V)) (L : Option se_M) (y kd len pc want : Nat) : se_R := match mm_mths[y]? with
  | some t => if len = 3 ∧ (kd = 2 ∨ kd = 3) ∧ t.2.2.2.2.2.2.1 = want then
      (if want = 0 then (if t.2.2.2.2.2.1 ≤ F.2.2.2.2.length then se_call C W ds M F tl K P L y pc t (F.2.2.2.2.take t.2.2.2.2.2.1).reverse (F.2.2.2.2.drop t.2.2.2.2.2.1) else none)
      else if want = 1 then match F.2.2.2.2.drop t.2.2.2.2.2.1 with
        | r :: rest => match se_kd ds r with
          | u + 2 => match tt u with
            | (some ci, _, _, _) => if ci = t.1 ∧ r.1 = 1 then se_call C W ds M F tl K P L y pc t (r :: (F.2.2.2.2.take t.2.2.2.2.2.1).reverse) rest else none
            | _ => none
          | _ => none
        | _ => none
      else none)
    else none
  | none => none
def se_ret (ds : List se_D) (M : se_M) (y : Nat) (ins : Instr) (len : Nat) (st : List se_V) (K : List se_F) (P : List (Jvm.ClassFile.Cond × se_V × se_V)) (L : Option se_M) : se_R := match K with
  | [] => none
  | (y', full', cs', lv', st') :: K' => match mm_mths[y]? with
    | some t => match ins, t.2.2.2.2.1, st with
      | .ireturn, some ty, [v] => match se_rg ds v with
        | (l, h) => if len = 1 ∧ se_kd ds v = 0 ∧ se_nar ty l h = true then some [(ds, M, (y', full', cs', lv', v :: st'), K', P, L)] else none
      | .areturn, some (.object _), [v] => if len = 1 ∧ 2 ≤ se_kd ds v ∧ v.1 = 1 then some [(ds, M, (y', full', cs', lv', v :: st'), K', P, L)] else none
      | .lreturn, some .long, [v] => if len = 1 ∧ se_kd ds v = 1 ∧ v.1 = 1 then some [(ds, M, (y', full', cs', lv', v :: st'), K', P, L)] else none
      | .return_, none, [] => if len = 1 then some [(ds, M, (y', full', cs', lv', st'), K', P, L)] else none
      | _, _, _ => none
    | none => none
/-- the ways of a switch on an int -/
def se_sw (ds : List se_D) (P : List (Jvm.ClassFile.Cond × se_V × se_V)) (x : se_V) (dflt lo : Int) (n : Nat) (offs : Array Int) (kk : Int → List se_D → List (Jvm.ClassFile.Cond × se_V × se_V) → se_R) : se_R := match n with
  | 0 => kk dflt ds P
  | n + 1 => match offs[n]? with
    | some off => se_cmp ds P .eq x (0, 0, lo + (n : Int)) (fun ds P => kk off ds P) (fun ds P => se_sw ds P x dflt lo n offs kk)
    | none => none
end SED
