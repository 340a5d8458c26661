/-! ===== symbolic runs: values, states, a step ===== -/
/-- a value, or (0, k) the k-th unknown int, (1, _) some int, (2, _) some long -/
abbrev sx_V : Type := Value ⊕ (Nat × Nat)
abbrev sx_A : Type := FieldType × Nat × sx_V × List (Nat × sx_V)
abbrev sx_C : Type := sx_A ⊕ (Nat × List sx_V)
abbrev sx_F : Type := Nat × List sx_I × List sx_I × List (Option sx_V) × List sx_V × Nat × Nat
abbrev sx_S : Type := List (Nat × Nat) × List sx_C × sx_F × List sx_F
def sx_nK {β : Type} (n : Nat) (k : Nat → β) : β := match n with
  | 0 => k 0
  | m + 1 => k (m + 1)
def sx_iK {β : Type} (x : Int32) (k : Int32 → β) : β := sx_nK x.toBitVec.toNat (fun n => k (Int32.ofBitVec (BitVec.ofNat 32 n)))
def sx_lK {β : Type} (x : Int64) (k : Int64 → β) : β := sx_nK x.toBitVec.toNat (fun n => k (Int64.ofBitVec (BitVec.ofNat 64 n)))
def sx_setK {α β : Type} (l : List α) (i : Nat) (c : α) (k : List α → β) : β := match l, i with
  | [], _ => k []
  | _ :: t, 0 => k (c :: t)
  | h :: t, i + 1 => sx_setK t i c (fun t' => k (h :: t'))
def sx_appK {α β : Type} (l : List α) (c : α) (k : List α → β) : β := match l with
  | [] => k [c]
  | h :: t => sx_appK t c (fun t' => k (h :: t'))
def sx_nx {β : Type} (tl full : List sx_I) (pc : Nat) (k : List sx_I → β) : β := match tl with
  | e :: t => if Nat.beq e.1 pc = true then k (e :: t) else k (full.dropWhile (fun e => !(Nat.beq e.1 pc)))
  | [] => k (full.dropWhile (fun e => !(Nat.beq e.1 pc)))
def sx_off (x : Int32) : Nat := (x.toInt + 2147483648).toNat
def sx_cst (n : Nat) : Int32 := Int32.ofInt ((n : Int) - 2147483648)
def sx_isI : sx_V → Bool
  | .inl (.int _) => true
  | .inr (0, _) => true
  | .inr (1, _) => true
  | _ => false
def sx_isL : sx_V → Bool
  | .inl (.long _) => true
  | .inr (2, _) => true
  | _ => false
def sx_is2 : sx_V → Bool
  | .inl v => v.category == 2
  | .inr (2, _) => true
  | _ => false
/-- an unknown that can be one thing alone is that -/
def sx_cn (iv : List (Nat × Nat)) (v : sx_V) : sx_V := match v with
  | .inr (0, k) => match iv[k]? with
    | some (lo, hi) => if Nat.beq hi (lo + 1) = true then .inl (.int (sx_cst lo)) else v
    | none => v
  | v => v
abbrev sx_R : Type := Option (List sx_S)
def sx_both (a b : sx_R) : sx_R := match a, b with
  | some x, some y => some (x ++ y)
  | _, _ => none
/-- the rest of the frame, as it goes on at a place -/
def sx_go (iv : List (Nat × Nat)) (mem : List sx_C) (y : Nat) (full tl : List sx_I) (lv : List (Option sx_V)) (st : List sx_V) (cb sb : Nat) (K : List sx_F) (pc : Nat) : sx_R := sx_nK pc (fun pc => sx_nx tl full pc (fun cs => some [(iv, mem, (y, full, cs, lv, st, cb, sb), K)]))
/-- an unknown's range cut by others, a way for each -/
def sx_spl (iv : List (Nat × Nat)) (k : Nat) (rs : List (Nat × Nat)) (kk : List (Nat × Nat) → sx_R) : sx_R := match iv[k]? with
  | none => none
  | some (lo, hi) => match rs with
    | [] => some []
    | (a, b) :: rs => if Nat.ble (min b hi) (max a lo) = true then sx_spl iv k rs kk else sx_both (sx_nK (max a lo) (fun x => sx_nK (min b hi) (fun y => sx_setK iv k (x, y) kk))) (sx_spl iv k rs kk)
def sx_M : Nat := 4294967296
/-- where a comparison with c holds, and where it doesn't -/
def sx_rng (cd : Jvm.ClassFile.Cond) (c : Nat) : List (Nat × Nat) × List (Nat × Nat) := match cd with
  | .lt => ([(0, c)], [(c, sx_M)])
  | .ge => ([(c, sx_M)], [(0, c)])
  | .le => ([(0, c + 1)], [(c + 1, sx_M)])
  | .gt => ([(c + 1, sx_M)], [(0, c + 1)])
  | .eq => ([(c, c + 1)], [(0, c), (c + 1, sx_M)])
  | .ne => ([(0, c), (c + 1, sx_M)], [(c, c + 1)])
def sx_swp : Jvm.ClassFile.Cond → Jvm.ClassFile.Cond
  | .lt => .gt
  | .gt => .lt
  | .le => .ge
  | .ge => .le
  | c => c
/-- x against y: the ways on where it holds, and where not -/
def sx_cmp (iv : List (Nat × Nat)) (cd : Jvm.ClassFile.Cond) (x y : sx_V) (kt kf : List (Nat × Nat) → sx_R) : sx_R := match x, y with
  | .inl (.int a), .inl (.int b) => if mm_P2 cd a b then kt iv else kf iv
  | .inr (0, k), .inl (.int b) => sx_nK (sx_off b) (fun c => sx_both (sx_spl iv k (sx_rng cd c).1 kt) (sx_spl iv k (sx_rng cd c).2 kf))
  | .inl (.int a), .inr (0, k) => sx_nK (sx_off a) (fun c => sx_both (sx_spl iv k (sx_rng (sx_swp cd) c).1 kt) (sx_spl iv k (sx_rng (sx_swp cd) c).2 kf))
  | .inr (0, k), .inr (0, j) => if Nat.beq k j = true then (if mm_P2 cd 0 0 then kt iv else kf iv) else sx_both (kt iv) (kf iv)
  | a, b => if sx_isI a && sx_isI b then sx_both (kt iv) (kf iv) else none
def sx_any : sx_V → Bool
  | .inr (1, _) => true
  | _ => false
/-- a comparison that is made into 1 or 0: both ways meet five instructions on -/
def sx_pat (pc t : Nat) (tl : List sx_I) : Bool := match tl with
  | (p1, .iconst n1, l1, _) :: (p2, .goto o1, l2, _) :: (p3, .iconst n2, l3, _) :: _ => Nat.beq p1 (pc + 3) && (Nat.beq p2 (pc + 4) && (Nat.beq p3 (pc + 7) && (Nat.beq t (pc + 7) && (decide (n1 = 1) && (decide (o1 = 4) && (decide (n2 = 0) && (Nat.beq l1 1 && (Nat.beq l2 3 && Nat.beq l3 1))))))))
  | _ => false
def sx_sw (iv : List (Nat × Nat)) (x : sx_V) (dflt lo hi : Int) (offs : Array Int) (kk : Int → List (Nat × Nat) → sx_R) : sx_R := match x with
  | .inl (.int a) => if a.toInt < lo ∨ hi < a.toInt then kk dflt iv else match offs[(a.toInt - lo).toNat]? with
    | some off => kk off iv
    | none => none
  | .inr (0, k) => if lo = 0 ∧ 0 ≤ hi ∧ hi < 1000 then sx_both (sx_spl iv k [(0, 2147483648), (2147483648 + hi.toNat + 1, sx_M)] (kk dflt))
      ((List.range (hi.toNat + 1)).foldr (fun j r => sx_both (match offs[j]? with
        | some off => sx_spl iv k [(2147483648 + j, 2147483648 + j + 1)] (kk off)
        | none => none) r) (some [])) else none
  | _ => none
/-- each of a few things that an unknown can be -/
def sx_enum (S : sx_S) (k : Nat) : sx_R := match S.1[k]? with
  | some (lo, hi) => if Nat.ble hi (lo + 64) = true then some ((List.range (hi - lo)).map (fun j => (S.1.set k (lo + j, lo + j + 1), S.2))) else none
  | none => none
def sx_rdK {β : Type} (up : List (Nat × sx_V)) (j : Nat) (df : sx_V) (k : sx_V → β) : β := match up with
  | [] => k df
  | (i, v) :: t => if Nat.beq i j = true then k v else sx_rdK t j df k
def sx_ld (iv : List (Nat × Nat)) (lv : List (Option sx_V)) (i : Nat) : Option sx_V := match lv[i]? with
  | some (some v) => some (sx_cn iv v)
  | _ => none
/-- a one-word value put into a place: a long ahead of it is no more -/
def sx_l1K {β : Type} (lv : List (Option sx_V)) (i : Nat) (v : sx_V) (k : List (Option sx_V) → β) : β := match i with
  | 0 => sx_setK lv 0 (some v) k
  | i + 1 => match lv[i]? with
    | some (some w) => if sx_is2 w then sx_setK lv i none (fun lv => sx_setK lv (i + 1) (some v) k) else sx_setK lv (i + 1) (some v) k
    | _ => sx_setK lv (i + 1) (some v) k
def sx_l2K {β : Type} (lv : List (Option sx_V)) (i : Nat) (v : sx_V) (k : List (Option sx_V) → β) : β := sx_l1K lv i v (fun lv => sx_setK lv (i + 1) none k)
def sx_b2 (g : Int32 → Int32 → Int32) (st : List sx_V) (k : List sx_V → sx_R) : sx_R := match st with
  | .inl (.int y) :: .inl (.int x) :: r => sx_iK (g x y) (fun z => k (.inl (.int z) :: r))
  | a :: b :: r => if sx_isI a && sx_isI b then k (.inr (1, 0) :: r) else none
  | _ => none
def sx_and (st : List sx_V) (k : List sx_V → sx_R) : sx_R := match st with
  | .inl (.int y) :: .inr (0, j) :: r => if y = -1 then k (.inr (0, j) :: r) else if y = 63 ∧ Nat.beq j 0 = true then k (.inr (0, 6) :: r) else k (.inr (1, 0) :: r)
  | st => sx_b2 (fun x y => x &&& y) st k
def sx_add (st : List sx_V) (k : List sx_V → sx_R) : sx_R := match st with
  | .inl (.int y) :: .inr (0, j) :: r => if y = 0 then k (.inr (0, j) :: r) else k (.inr (1, 0) :: r)
  | .inr (0, j) :: .inl (.int x) :: r => if x = 0 then k (.inr (0, j) :: r) else k (.inr (1, 0) :: r)
  | st => sx_b2 (fun x y => x + y) st k
def sx_div (g : Int32 → Int32 → Int32) (st : List sx_V) (k : List sx_V → sx_R) : sx_R := match st with
  | .inl (.int y) :: .inl (.int x) :: r => if y = 0 then none else sx_iK (g x y) (fun z => k (.inl (.int z) :: r))
  | .inl (.int y) :: b :: r => if y = 0 then none else if sx_isI b then k (.inr (1, 0) :: r) else none
  | _ => none
def sx_u1 (g : Int32 → Int32) (st : List sx_V) (k : List sx_V → sx_R) : sx_R := match st with
  | .inl (.int x) :: r => sx_iK (g x) (fun z => k (.inl (.int z) :: r))
  | a :: r => if sx_isI a then k (.inr (1, 0) :: r) else none
  | _ => none
def sx_l2 (g : Int64 → Int64 → Int64) (st : List sx_V) (k : List sx_V → sx_R) : sx_R := match st with
  | .inl (.long y) :: .inl (.long x) :: r => sx_lK (g x y) (fun z => k (.inl (.long z) :: r))
  | a :: b :: r => if sx_isL a && sx_isL b then k (.inr (2, 0) :: r) else none
  | _ => none
def sx_li (g : Int64 → Int32 → Int64) (st : List sx_V) (k : List sx_V → sx_R) : sx_R := match st with
  | .inl (.int y) :: .inl (.long x) :: r => sx_lK (g x y) (fun z => k (.inl (.long z) :: r))
  | a :: b :: r => if sx_isI a && sx_isL b then k (.inr (2, 0) :: r) else none
  | _ => none
def sx_cat (v : sx_V) : Nat := if sx_is2 v then 2 else 1
def sx_args : List sx_V → List (Option sx_V)
  | [] => []
  | v :: vs => if sx_is2 v then some v :: none :: sx_args vs else some v :: sx_args vs
def sx_pad (n : Nat) (l : List (Option sx_V)) : List (Option sx_V) := l ++ List.replicate (n - l.length) none
def sx_cats (l : List sx_V) : Nat := (l.map sx_cat).sum
/-- a value fits a field as it is -/
def sx_fit (ty : FieldType) (v : sx_V) : Bool := match v with
  | .inl v => decide (narrow ty v = v) && fits ty v
  | .inr (0, _) => decide (ty = .int)
  | .inr (1, _) => decide (ty = .int)
  | .inr (2, _) => decide (ty = .long)
  | _ => false
def sx_nar (ty : FieldType) (v : sx_V) : Option sx_V := match v with
  | .inl (.int x) => some (.inl (narrow ty (.int x)))
  | .inr (0, k) => if ty = .int then some (.inr (0, k)) else some (.inr (1, 0))
  | .inr (1, _) => some (.inr (1, 0))
  | _ => none
/-- a place in a row: known, or each of a few -/
def sx_ixK (S : sx_S) (j : sx_V) (len : Nat) (k : Nat → sx_R) : sx_R := match sx_cn S.1 j with
  | .inl (.int j) => if j < 0 ∨ len ≤ j.toNatClampNeg then none else sx_nK j.toNatClampNeg k
  | .inr (0, u) => sx_enum S u
  | _ => none
def sx_tyI (ins : Instr) (ty : FieldType) : Bool := match ins with
  | .iaload => decide (ty = .int)
  | .laload => decide (ty = .long)
  | .caload => decide (ty = .char)
  | .baload => decide (ty = .byte ∨ ty = .boolean)
  | .aaload => ty.isReference
  | .iastore => decide (ty = .int)
  | .castore => decide (ty = .char)
  | .bastore => decide (ty = .byte ∨ ty = .boolean)
  | _ => false
def sx_ald (S : sx_S) (ins : Instr) (len : Nat) (st : List sx_V) (mem : List sx_C) (k : List sx_V → sx_R) : sx_R := match st with
  | j :: .inl (.ref a) :: r => match mem[a]? with
    | some (.inl (ty, n, df, up)) => if len = 1 ∧ sx_tyI ins ty = true then sx_ixK S j n (fun j => sx_rdK up j df (fun v => k (v :: r))) else none
    | _ => none
  | _ => none
def sx_ast (S : sx_S) (kx : Nat) (ins : Instr) (len : Nat) (st : List sx_V) (mem : List sx_C) (k : List sx_C → List sx_V → sx_R) : sx_R := match st with
  | v :: j :: .inl (.ref a) :: r => match mem[a]? with
    | some (.inl (ty, n, df, up)) => match sx_nar ty v with
      | some w => if len = 1 ∧ sx_tyI ins ty = true ∧ Nat.ble kx a = true then sx_ixK S j n (fun j => sx_setK mem a (.inl (ty, n, df, (j, w) :: up)) (fun mem => k mem r)) else none
      | none => none
    | _ => none
  | _ => none
def sx_asta (S : sx_S) (kx : Nat) (len : Nat) (st : List sx_V) (mem : List sx_C) (k : List sx_C → List sx_V → sx_R) : sx_R := match st with
  | .inl (.ref b) :: j :: .inl (.ref a) :: r => match mem[a]?, mem[b]? with
    | some (.inl (.object C, n, df, up)), some (.inr (ci, fs)) => match vwCl[ci]? with
      | some q => if len = 1 ∧ q.1 = C ∧ Nat.ble kx a = true then sx_ixK S j n (fun j => sx_setK mem a (.inl (.object C, n, df, (j, .inl (.ref b)) :: up)) (fun mem => k mem r)) else none
      | none => none
    | _, _ => none
  | _ => none
def sx_get (len kd ci k : Nat) (st : List sx_V) (mem : List sx_C) (kk : List sx_V → sx_R) : sx_R := match st with
  | .inl (.ref a) :: r => match mem[a]? with
    | some (.inr (ci', fs)) => match fs[k]? with
      | some v => if len = 3 ∧ (kd = 0 ∨ kd = 1) ∧ ci' = ci then kk (v :: r) else none
      | none => none
    | _ => none
  | _ => none
def sx_put (o kx : Nat) (ini : Bool) (len kd ci k : Nat) (st : List sx_V) (mem : List sx_C) (kk : List sx_C → List sx_V → sx_R) : sx_R := match st with
  | v :: .inl (.ref a) :: r => match mem[a]? with
    | some (.inr (ci', fs)) => match vwCl[ci]? with
      | some q => if len = 3 ∧ ci' = ci ∧ Nat.ble kx a = true ∧ sx_fit (mm_ty ci k) v = true ∧ (((kd = 0 ∨ kd = 1) ∧ (q.2.1 k).2.2.2 = false) ∨ (kd = 0 ∧ (q.2.1 k).2.2.2 = true ∧ ini = true ∧ mm_cns[o]? = some (q.2.1 k).1)) then sx_setK fs k v (fun fs => sx_setK mem a (.inr (ci, fs)) (fun mem => kk mem r)) else none
      | none => none
    | _ => none
  | _ => none
def sx_cal (y : Nat) (S : sx_S) (kd len : Nat) (want : Nat) (pc : Nat) (tl : List sx_I) : sx_R := match S with
  | (iv, mem, (y0, full, _, lv, st, cb, sb), K) => match mm_mths[y]?, sx_cods[y]? with
    | some t, some code => if len = 3 ∧ (kd = 2 ∨ kd = 3) ∧ t.2.2.2.2.2.2.1 = want ∧ Nat.ble (mm_bud y).1 cb = true ∧ Nat.ble (mm_bud y).2 sb = true ∧ K.length < 60 then
        match st.drop t.2.2.2.2.2.1 with
        | rs => if want = 0 then (if t.2.2.2.2.2.1 ≤ st.length ∧ sx_cats rs ≤ 8 ∧ (sx_args (st.take t.2.2.2.2.2.1).reverse).length ≤ t.2.2.2.1 then sx_nx tl full (pc + 3) (fun cs => some [(iv, mem, (y, code, code, sx_pad t.2.2.2.1 (sx_args (st.take t.2.2.2.2.2.1).reverse), [], (mm_bud y).1, (mm_bud y).2), (y0, full, cs, lv, rs, cb - (mm_bud y).1, sb - (mm_bud y).2) :: K)]) else none)
          else match rs with
          | .inl (.ref a) :: r => match mem[a]? with
            | some (.inr (ci, _)) => if sx_cats r ≤ 8 ∧ (want = 1 → ci = t.1) ∧ (want = 2 → t.2.2.2.2.1 = none) ∧ (sx_args (.inl (.ref a) :: (st.take t.2.2.2.2.2.1).reverse)).length ≤ t.2.2.2.1 then sx_nx tl full (pc + 3) (fun cs => some [(iv, mem, (y, code, code, sx_pad t.2.2.2.1 (sx_args (.inl (.ref a) :: (st.take t.2.2.2.2.2.1).reverse)), [], (mm_bud y).1, (mm_bud y).2), (y0, full, cs, lv, r, cb - (mm_bud y).1, sb - (mm_bud y).2) :: K)]) else none
            | _ => none
          | _ => none
      else none
    | _, _ => none
def sx_fi (y : Nat) : mm_Fi := match mm_mths[y]? with
  | some t => mm_fi t
  | none => (13, code, 4, false)
def sx_rok (ty : FieldType) (v : sx_V) : Bool := match v with
  | .inl (.int x) => decide (narrow ty (.int x) = .int x)
  | .inr (0, _) => decide (ty = .int)
  | .inr (1, _) => decide (ty = .int)
  | _ => false
def sx_ret (iv : List (Nat × Nat)) (mem : List sx_C) (y : Nat) (ins : Instr) (len : Nat) (st : List sx_V) (K : List sx_F) : sx_R := match K with
  | [] => match ins, st with
    | .ireturn, [.inl (.int v)] => if len = 1 ∧ v = 1 ∧ mm_mths[y]? = none then some [] else none
    | _, _ => none
  | (y', full', cs', lv', st', cb', sb') :: K' => match mm_mths[y]? with
    | some t => match ins, t.2.2.2.2.1, st with
      | .ireturn, some ty, [v] => if len = 1 ∧ sx_rok ty v = true then some [(iv, mem, (y', full', cs', lv', v :: st', cb', sb'), K')] else none
      | .areturn, some (.object _), [.inl (.ref a)] => if len = 1 then some [(iv, mem, (y', full', cs', lv', .inl (.ref a) :: st', cb', sb'), K')] else none
      | .return_, none, [] => if len = 1 then some [(iv, mem, (y', full', cs', lv', st', cb', sb'), K')] else none
      | _, _, _ => none
    | none => none
def sx_isB (ins : Instr) : Option (Int32 → Int32 → Int32) := match ins with
  | .isub => some (fun x y => x - y)
  | .ior => some (fun x y => x ||| y)
  | .ixor => some (fun x y => x ^^^ y)
  | .ishl => some (fun x y => x <<< (y &&& 31))
  | .ishr => some (fun x y => x >>> (y &&& 31))
  | .iushr => some (fun x y => (x.toUInt32 >>> (y.toUInt32 &&& Int32.toUInt32 31)).toInt32)
  | _ => none
def sx_step (kx : Nat) (zs : List mm_Zt) (S : sx_S) : sx_R := match S with
  | (iv, mem, (y, full, cs, lv, st, cb, sb), K) => match cs with
    | [] => none
    | (pc, ins, len, kd, a, b, z) :: tl => match ins with
      | .iconst n => if len = 1 then sx_iK (Int32.ofInt n) (fun x => sx_go iv mem y full tl lv (.inl (.int x) :: st) cb sb K (pc + 1)) else none
      | .bipush n => if len = 2 then sx_iK (Int8.ofInt n).toInt32 (fun x => sx_go iv mem y full tl lv (.inl (.int x) :: st) cb sb K (pc + 2)) else none
      | .sipush n => if len = 3 then sx_iK (Int16.ofInt n).toInt32 (fun x => sx_go iv mem y full tl lv (.inl (.int x) :: st) cb sb K (pc + 3)) else none
      | .lconst n => if len = 1 then sx_go iv mem y full tl lv (.inl (.long (Int64.ofNat n)) :: st) cb sb K (pc + 1) else none
      | .iload_n i => match sx_ld iv lv i.val with
        | some v => if len = 1 ∧ sx_isI v = true then sx_go iv mem y full tl lv (v :: st) cb sb K (pc + 1) else none
        | none => none
      | .iload i => match sx_ld iv lv i with
        | some v => if len = 2 ∧ sx_isI v = true then sx_go iv mem y full tl lv (v :: st) cb sb K (pc + 2) else none
        | none => none
      | .lload_n i => match sx_ld iv lv i.val with
        | some v => if len = 1 ∧ sx_isL v = true then sx_go iv mem y full tl lv (v :: st) cb sb K (pc + 1) else none
        | none => none
      | .lload i => match sx_ld iv lv i with
        | some v => if len = 2 ∧ sx_isL v = true then sx_go iv mem y full tl lv (v :: st) cb sb K (pc + 2) else none
        | none => none
      | .aload_n i => match sx_ld iv lv i.val with
        | some (.inl (.ref q)) => if len = 1 then sx_go iv mem y full tl lv (.inl (.ref q) :: st) cb sb K (pc + 1) else none
        | _ => none
      | .aload i => match sx_ld iv lv i with
        | some (.inl (.ref q)) => if len = 2 then sx_go iv mem y full tl lv (.inl (.ref q) :: st) cb sb K (pc + 2) else none
        | _ => none
      | .istore_n i => match st with
        | v :: r => if len = 1 ∧ sx_isI v = true ∧ i.val < lv.length then sx_l1K lv i.val v (fun lv => sx_go iv mem y full tl lv r cb sb K (pc + 1)) else none
        | [] => none
      | .istore i => match st with
        | v :: r => if len = 2 ∧ sx_isI v = true ∧ i < lv.length then sx_l1K lv i v (fun lv => sx_go iv mem y full tl lv r cb sb K (pc + 2)) else none
        | [] => none
      | .astore_n i => match st with
        | .inl (.ref q) :: r => if len = 1 ∧ i.val < lv.length then sx_l1K lv i.val (.inl (.ref q)) (fun lv => sx_go iv mem y full tl lv r cb sb K (pc + 1)) else none
        | _ => none
      | .astore i => match st with
        | .inl (.ref q) :: r => if len = 2 ∧ i < lv.length then sx_l1K lv i (.inl (.ref q)) (fun lv => sx_go iv mem y full tl lv r cb sb K (pc + 2)) else none
        | _ => none
      | .iinc i n => match sx_ld iv lv i with
        | some (.inl (.int x)) => if len = 3 ∧ i < lv.length then sx_iK (x + Int32.ofInt n) (fun x => sx_l1K lv i (.inl (.int x)) (fun lv => sx_go iv mem y full tl lv st cb sb K (pc + 3))) else none
        | _ => none
      | .iadd => if len = 1 then sx_add st (fun st => sx_go iv mem y full tl lv st cb sb K (pc + 1)) else none
      | .imul => if len = 1 then sx_b2 (fun x y => x * y) st (fun st => sx_go iv mem y full tl lv st cb sb K (pc + 1)) else none
      | .iand => if len = 1 then sx_and st (fun st => sx_go iv mem y full tl lv st cb sb K (pc + 1)) else none
      | .idiv => if len = 1 then sx_div (fun x y => x / y) st (fun st => sx_go iv mem y full tl lv st cb sb K (pc + 1)) else none
      | .irem => if len = 1 then sx_div (fun x y => x - x / y * y) st (fun st => sx_go iv mem y full tl lv st cb sb K (pc + 1)) else none
      | .ineg => if len = 1 then sx_u1 (fun x => -x) st (fun st => sx_go iv mem y full tl lv st cb sb K (pc + 1)) else none
      | .i2b => if len = 1 then sx_u1 (fun x => x.toInt8.toInt32) st (fun st => sx_go iv mem y full tl lv st cb sb K (pc + 1)) else none
      | .i2s => if len = 1 then sx_u1 (fun x => x.toInt16.toInt32) st (fun st => sx_go iv mem y full tl lv st cb sb K (pc + 1)) else none
      | .land => if len = 1 then sx_l2 (fun x y => x &&& y) st (fun st => sx_go iv mem y full tl lv st cb sb K (pc + 1)) else none
      | .lor => if len = 1 then sx_l2 (fun x y => x ||| y) st (fun st => sx_go iv mem y full tl lv st cb sb K (pc + 1)) else none
      | .lshl => if len = 1 then sx_li (fun x y => x <<< (y.toInt64 &&& 63)) st (fun st => sx_go iv mem y full tl lv st cb sb K (pc + 1)) else none
      | .lshr => if len = 1 then sx_li (fun x y => x >>> (y.toInt64 &&& 63)) st (fun st => sx_go iv mem y full tl lv st cb sb K (pc + 1)) else none
      | .i2l => match st with
        | .inl (.int x) :: r => if len = 1 then sx_lK x.toInt64 (fun x => sx_go iv mem y full tl lv (.inl (.long x) :: r) cb sb K (pc + 1)) else none
        | v :: r => if len = 1 ∧ sx_isI v = true then sx_go iv mem y full tl lv (.inr (2, 0) :: r) cb sb K (pc + 1) else none
        | [] => none
      | .l2i => match st with
        | v :: r => if len = 1 ∧ sx_isL v = true then sx_go iv mem y full tl lv (.inr (1, 0) :: r) cb sb K (pc + 1) else none
        | [] => none
      | .goto off => match mm_tgt pc off with
        | some t => if len = 3 then sx_go iv mem y full tl lv st cb sb K t else none
        | none => none
      | .ifCond cd off => match mm_tgt pc off, st with
        | some t, v :: r => if len = 3 then sx_cmp iv cd (sx_cn iv v) (.inl (.int 0)) (fun iv => sx_go iv mem y full tl lv r cb sb K t) (fun iv => sx_go iv mem y full tl lv r cb sb K (pc + 3)) else none
        | _, _ => none
      | .if_icmp cd off => match mm_tgt pc off, st with
        | some t, w :: v :: r => if len = 3 then if (sx_any v || sx_any w) && (sx_isI v && (sx_isI w && sx_pat pc t tl)) then sx_go iv mem y full tl lv (.inr (1, 0) :: r) cb sb K (pc + 8) else sx_cmp iv cd (sx_cn iv v) (sx_cn iv w) (fun iv => sx_go iv mem y full tl lv r cb sb K t) (fun iv => sx_go iv mem y full tl lv r cb sb K (pc + 3)) else none
        | _, _ => none
      | .tableswitch dflt lo hi offs => match st with
        | v :: r => sx_sw iv (sx_cn iv v) dflt lo hi offs (fun off iv => match mm_tgt pc off with
          | some t => sx_go iv mem y full tl lv r cb sb K t
          | none => none)
        | [] => none
      | .dup => match st with
        | v :: r => if len = 1 ∧ sx_cat v = 1 then sx_go iv mem y full tl lv (v :: v :: r) cb sb K (pc + 1) else none
        | [] => none
      | .pop => match st with
        | v :: r => if len = 1 ∧ sx_cat v = 1 then sx_go iv mem y full tl lv r cb sb K (pc + 1) else none
        | [] => none
      | .dup2 => match st with
        | v :: w :: r => if len = 1 ∧ sx_cat v = 1 ∧ sx_cat w = 1 then sx_go iv mem y full tl lv (v :: w :: v :: w :: r) cb sb K (pc + 1) else none
        | _ => none
      | .getfield _ => sx_get len kd a b st mem (fun st => sx_go iv mem y full tl lv st cb sb K (pc + 3))
      | .putfield _ => sx_put (sx_fi y).1 kx (sx_fi y).2.2.2 len kd a b st mem (fun mem st => sx_go iv mem y full tl lv st cb sb K (pc + 3))
      | .arraylength => match st with
        | .inl (.ref q) :: r => match mem[q]? with
          | some (.inl (ty, n, df, up)) => if len = 1 then sx_iK (Int32.ofNat n) (fun x => sx_go iv mem y full tl lv (.inl (.int x) :: r) cb sb K (pc + 1)) else none
          | _ => none
        | _ => none
      | .ldc _ => if len = 2 ∧ kd = 6 then sx_iK (Int32.ofInt z) (fun x => sx_go iv mem y full tl lv (.inl (.int x) :: st) cb sb K (pc + 2)) else none
      | .ldc_w _ => if len = 3 ∧ kd = 6 then sx_iK (Int32.ofInt z) (fun x => sx_go iv mem y full tl lv (.inl (.int x) :: st) cb sb K (pc + 3)) else none
      | .ldc2_w _ => if len = 3 ∧ kd = 7 then sx_lK (Int64.ofInt z) (fun x => sx_go iv mem y full tl lv (.inl (.long x) :: st) cb sb K (pc + 3)) else none
      | .getstatic _ => match mm_sts[a]? with
        | some q => match zs.find? (fun t => decide (t.1 = q.1 ∧ t.2.1 = q.2.1 ∧ t.2.2.1 = q.2.2)) with
          | some t => if len = 3 ∧ (kd = 10 ∨ kd = 11) then sx_go iv mem y full tl lv (.inl t.2.2.2 :: st) cb sb K (pc + 3) else none
          | none => none
        | none => none
      | .new _ => match vwCl[a]? with
        | some q => if len = 3 ∧ kd = 4 ∧ 1 ≤ cb ∧ q.2.2 ≤ sb then sx_nK mem.length (fun n => sx_nK (cb - 1) (fun cb => sx_nK (sb - q.2.2) (fun sb => sx_appK mem (.inr (a, (List.range q.2.2).map (fun k => .inl (defaultValue (mm_ty a k))))) (fun mem => sx_go iv mem y full tl lv (.inl (.ref n) :: st) cb sb K (pc + 3))))) else none
        | none => none
      | .newarray at_ => match st with
        | .inl (.int n) :: r => if len = 2 ∧ (newarray.typeOf at_ = .int ∨ newarray.typeOf at_ = .long ∨ newarray.typeOf at_ = .byte ∨ newarray.typeOf at_ = .char ∨ newarray.typeOf at_ = .boolean) ∧ ¬ n < 0 ∧ n.toNatClampNeg ≤ 10000 ∧ 1 ≤ cb ∧ n.toNatClampNeg ≤ sb then sx_nK mem.length (fun q => sx_nK n.toNatClampNeg (fun n => sx_nK (cb - 1) (fun cb => sx_nK (sb - n) (fun sb => sx_appK mem (.inl (newarray.typeOf at_, n, .inl (defaultValue (newarray.typeOf at_)), [])) (fun mem => sx_go iv mem y full tl lv (.inl (.ref q) :: r) cb sb K (pc + 2)))))) else none
        | _ => none
      | .anewarray _ => match st with
        | .inl (.int n) :: r => match vwCl[a]? with
          | some q => if len = 3 ∧ kd = 4 ∧ (q.1 = "RaftTown$Raft" ∨ q.1 = "RaftTown$Person" ∨ q.1 = "RaftTown$Rope" ∨ q.1 = "RaftTown$Text" ∨ q.1 = "RaftTown$Sheet") ∧ ¬ n < 0 ∧ n.toNatClampNeg ≤ 10000 ∧ 1 ≤ cb ∧ n.toNatClampNeg ≤ sb then sx_nK mem.length (fun p => sx_nK n.toNatClampNeg (fun n => sx_nK (cb - 1) (fun cb => sx_nK (sb - n) (fun sb => sx_appK mem (.inl (.object q.1, n, .inl .null, [])) (fun mem => sx_go iv mem y full tl lv (.inl (.ref p) :: r) cb sb K (pc + 3)))))) else none
          | none => none
        | _ => none
      | .invokevirtual _ => sx_cal a S kd len 1 pc tl
      | .invokespecial _ => if kd = 8 then (match st with
          | .inl (.ref _) :: r => if len = 3 ∧ sx_cats r ≤ 8 then sx_go iv mem y full tl lv r cb sb K (pc + 3) else none
          | _ => none) else sx_cal a S kd len 2 pc tl
      | .invokestatic _ => if kd = 13 then (match st with
          | .inl (.int v) :: .inl (.int u) :: r => if len = 3 ∧ sx_cats r ≤ 8 then sx_iK (if u < v then v else u) (fun x => sx_go iv mem y full tl lv (.inl (.int x) :: r) cb sb K (pc + 3)) else none
          | _ => none)
        else if kd = 14 then (match st with
          | .inl (.int v) :: .inl (.int u) :: r => if len = 3 ∧ sx_cats r ≤ 8 then sx_iK (if v < u then v else u) (fun x => sx_go iv mem y full tl lv (.inl (.int x) :: r) cb sb K (pc + 3)) else none
          | _ => none)
        else if kd = 9 then (match st with
          | .inl (.int n) :: .inl (.int dp) :: .inl (.ref d) :: .inl (.int sp) :: .inl (.ref s) :: r => match mem[s]?, mem[d]? with
            | some (.inl (ty, m, df, up)), some (.inl (ty', m', df', up')) => if len = 3 ∧ sx_cats r ≤ 8 ∧ Nat.ble kx s = true ∧ Nat.ble kx d = true ∧ ty = .int ∧ ty' = .int ∧ sp = 0 ∧ dp = 0 ∧ ¬ n < 0 ∧ n.toNatClampNeg = m ∧ m' = m ∧ sx_isI df = true ∧ up.all (fun e => sx_isI e.2) = true then sx_setK mem d (.inl (ty, m, df, up)) (fun mem => sx_go iv mem y full tl lv r cb sb K (pc + 3)) else none
            | _, _ => none
          | _ => none)
        else sx_cal a S kd len 0 pc tl
      | .ireturn => sx_ret iv mem y ins len st K
      | .areturn => sx_ret iv mem y ins len st K
      | .return_ => sx_ret iv mem y ins len st K
      | .iaload => sx_ald S ins len st mem (fun st => sx_go iv mem y full tl lv st cb sb K (pc + 1))
      | .caload => sx_ald S ins len st mem (fun st => sx_go iv mem y full tl lv st cb sb K (pc + 1))
      | .baload => sx_ald S ins len st mem (fun st => sx_go iv mem y full tl lv st cb sb K (pc + 1))
      | .aaload => sx_ald S ins len st mem (fun st => sx_go iv mem y full tl lv st cb sb K (pc + 1))
      | .iastore => sx_ast S kx ins len st mem (fun mem st => sx_go iv mem y full tl lv st cb sb K (pc + 1))
      | .castore => sx_ast S kx ins len st mem (fun mem st => sx_go iv mem y full tl lv st cb sb K (pc + 1))
      | .bastore => sx_ast S kx ins len st mem (fun mem st => sx_go iv mem y full tl lv st cb sb K (pc + 1))
      | .aastore => sx_asta S kx len st mem (fun mem st => sx_go iv mem y full tl lv st cb sb K (pc + 1))
      | ins => match sx_isB ins with
        | some g => if len = 1 then sx_b2 g st (fun st => sx_go iv mem y full tl lv st cb sb K (pc + 1)) else none
        | none => none
/-- 2^k steps over the ways that are left -/
def sx_it (kx : Nat) (zs : List mm_Zt) : Nat → List sx_S → sx_R
  | 0, [] => some []
  | 0, S :: r => match sx_step kx zs S with
    | some l => some (l ++ r)
    | none => none
  | k + 1, w => match sx_it kx zs k w with
    | some [] => some []
    | some (S :: r) => sx_it kx zs k (S :: r)
    | none => none
