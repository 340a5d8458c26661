/-! ===== methods by their values: the executor ===== -/
abbrev iv_V : Type := Nat × iv_E
/-- a comparison: 0 <, 1 ≤, 2 >, 3 ≥, 4 =, 5 ≠, 6 within 0 .. , 7 not within -/
abbrev iv_I : Type := Nat × iv_E × iv_E
abbrev iv_F : Type := Nat × List sx_I × List sx_I × List (Option iv_V) × List iv_V
/-- what was compared (the latest first), what was written, the frame, the callers -/
abbrev iv_S : Type := List iv_I × List (List iv_E) × iv_F × List iv_F
/-- an end: 0 that can't be, 1 at a place, 2 a return; the method, the place -/
abbrev iv_L : Type := List iv_I × List (List iv_E) × Nat × Nat × Nat × List (Option iv_V) × List iv_V
abbrev iv_R : Type := Option (List (iv_S ⊕ iv_L))
def iv_eq : iv_E → iv_E → Bool
  | .nil, .nil => true
  | .nest a x, .nest b y => decide (a = b) && iv_eq x y
  | .tag a x, .tag b y => Nat.beq a b && iv_eq x y
  | .append a x, .append b y => iv_eq a b && iv_eq x y
  | _, _ => false
def iv_neg (c : Nat) : Nat := match c with
  | 0 => 3
  | 1 => 2
  | 2 => 1
  | 3 => 0
  | 4 => 5
  | 5 => 4
  | 6 => 7
  | _ => 6
def iv_zmax (a b : Int) : Int := if a ≤ b then b else a
def iv_zmin (a b : Int) : Int := if a ≤ b then a else b
def iv_lt (a b : Int) : Bool := decide (a < b)
def iv_le (a b : Int) : Bool := decide (a ≤ b)
/-- ranges: none is no bound -/
abbrev iv_Q : Type := Option Int × Option Int
def iv_oadd (a b : Option Int) : Option Int := match a, b with
  | some a, some b => some (a + b)
  | _, _ => none
def iv_omul (z : Int) (a : Option Int) : Option Int := match a with
  | some a => some (a * z)
  | none => none
def iv_omax (a b : Option Int) : Option Int := match a, b with
  | some a, some b => some (iv_zmax a b)
  | none, b => b
  | a, none => a
def iv_omin (a b : Option Int) : Option Int := match a, b with
  | some a, some b => some (iv_zmin a b)
  | none, b => b
  | a, none => a
def iv_rS (R : iv_E → iv_Q) (e : iv_E) : iv_Q := match e with
  | .nest z .nil => (some z, some z)
  | .tag 41 (.append a b) => (iv_oadd (R a).1 (R b).1, iv_oadd (R a).2 (R b).2)
  | .tag 42 (.append a (.nest z .nil)) => if 0 ≤ z then (iv_omul z (R a).1, iv_omul z (R a).2) else (iv_omul z (R a).2, iv_omul z (R a).1)
  | .tag 4 (.append _ (.nest z .nil)) => if 0 ≤ z ∧ z ≤ 2147483647 then (some 0, some z) else (none, none)
  | _ => (none, none)
def iv_rC (c : Nat) (q r : iv_Q) : iv_Q := match c with
  | 0 => (r.1, iv_omin r.2 (iv_oadd q.2 (some (-1))))
  | 1 => (r.1, iv_omin r.2 q.2)
  | 2 => (iv_omax r.1 (iv_oadd q.1 (some 1)), r.2)
  | 3 => (iv_omax r.1 q.1, r.2)
  | 4 => (iv_omax r.1 q.1, iv_omin r.2 q.2)
  | 6 => (iv_omax r.1 (some 0), iv_omin r.2 (iv_oadd q.2 (some (-1))))
  | _ => r
def iv_rI (R : iv_E → iv_Q) (e : iv_E) : List iv_I → iv_Q → iv_Q
  | [], r => r
  | f :: t, r => match iv_eq f.2.1 e with
    | true => iv_rI R e t (iv_rC f.1 (R f.2.2) r)
    | false => iv_rI R e t r
def iv_rng : Nat → List iv_I → iv_E → iv_Q
  | 0, _, _ => (none, none)
  | n + 1, I, e => iv_rI (iv_rng n I) e I (iv_rS (iv_rng n I) e)
def iv_lb (I : List iv_I) (a : iv_E) : Int := match (iv_rng 7 I a).1 with
  | some l => l
  | none => -9223372036854775808
def iv_ub (I : List iv_I) (a : iv_E) : Int := match (iv_rng 7 I a).2 with
  | some h => h
  | none => 9223372036854775807
def iv_same (c : Nat) (a b : iv_E) (e : iv_I) : Bool := Nat.beq e.1 c && (iv_eq e.2.1 a && iv_eq e.2.2 b)
/-- by ranges: surely -/
def iv_sure (c : Nat) (la ua lb ub : Int) (q : Bool) : Bool := match c with
  | 0 => iv_lt ua lb
  | 1 => iv_le ua lb
  | 2 => iv_lt ub la
  | 3 => iv_le ub la
  | 4 => q || (iv_le ua lb && iv_le ub la)
  | 5 => iv_lt ua lb || iv_lt ub la
  | 6 => iv_le 0 la && iv_lt ua lb
  | 7 => iv_lt ua 0 || iv_le ub la
  | _ => false
/-- 1 it is so, 2 it is not, 0 not known -/
def iv_dec (I : List iv_I) (c : Nat) (a b : iv_E) : Nat :=
  if iv_sure c (iv_lb I a) (iv_ub I a) (iv_lb I b) (iv_ub I b) (iv_eq a b) || I.any (iv_same c a b) then 1
  else if iv_sure (iv_neg c) (iv_lb I a) (iv_ub I a) (iv_lb I b) (iv_ub I b) (iv_eq a b) || I.any (iv_same (iv_neg c) a b) then 2 else 0
def iv_catK {α β : Type} (a b : List α) (k : List α → β) : β := match a with
  | [] => k b
  | h :: t => iv_catK t b (fun t => k (h :: t))
def iv_both (a b : iv_R) : iv_R := match a, b with
  | some x, some y => iv_catK x y (fun l => some l)
  | _, _ => none
def iv_cmp (I : List iv_I) (c : Nat) (a b : iv_E) (kt kf : List iv_I → iv_R) : iv_R := match iv_dec I c a b with
  | 1 => kt I
  | 2 => kf I
  | _ => iv_both (kt ((c, a, b) :: I)) (kf ((iv_neg c, a, b) :: I))
def iv_fail (W : List (List iv_E)) (I : List iv_I) : iv_R := some [.inr (I, W, 0, 0, 0, [], [])]
/-- it must be so -/
def iv_ast (W : List (List iv_E)) (I : List iv_I) (c : Nat) (a b : iv_E) (k : List iv_I → iv_R) : iv_R := iv_cmp I c a b k (iv_fail W)
def iv_zK {β : Type} (z : Int) (k : Int → β) : β := match z with
  | .ofNat n => sx_nK n (fun n => k (.ofNat n))
  | .negSucc n => sx_nK n (fun n => k (.negSucc n))
def iv_num {β : Type} (z : Int) (k : iv_E → β) : β := iv_zK z (fun z => k (.nest z .nil))
def iv_bin {β : Type} (o : Nat) (a b : iv_E) (k : iv_E → β) : β := match a, b with
  | .nest x .nil, .nest y .nil => iv_num (iv_op o x y) k
  | a, b => k (.tag o (.append a b))
def iv_un {β : Type} (o : Nat) (a : iv_E) (k : iv_E → β) : β := match a with
  | .nest x .nil => iv_num (iv_op o x 0) k
  | a => k (.tag o (.append a (.nest 0 .nil)))
/-- a place so far behind -/
def iv_pad {β : Type} (a : iv_E) (c : Int) (k : iv_E → β) : β := match a with
  | .nest x .nil => iv_num (x + c) k
  | .tag 41 (.append x (.nest y .nil)) => iv_zK (y + c) (fun z => k (.tag 41 (.append x (.nest z .nil))))
  | a => if c = 0 then k a else k (.tag 41 (.append a (.nest c .nil)))
def iv_elK {β : Type} (j : iv_E) (stride : Int) (k : iv_E → β) (p : iv_E) : β := match j with
  | .nest x .nil => iv_zK (x * stride) (fun c => iv_pad p c k)
  | j => if stride = 1 then k (.tag 41 (.append j p)) else k (.tag 41 (.append (.tag 42 (.append j (.nest stride .nil))) p))
def iv_elt {β : Type} (p j : iv_E) (off stride : Int) (k : iv_E → β) : β := iv_pad p off (iv_elK j stride k)
/-- sums, differences, products as they are -/
def iv_xK {β : Type} (o : Nat) (a b : iv_E) (k : iv_E → β) (kn : β) : β := match o with
  | 1 => (match a, b with
    | .nest x .nil, b => iv_pad b x k
    | a, .nest y .nil => iv_pad a y k
    | a, b => k (.tag 41 (.append a b)))
  | 2 => (match b with
    | .nest y .nil => iv_zK (-y) (fun y => iv_pad a y k)
    | b => k (.tag 41 (.append a (.tag 42 (.append b (.nest (-1) .nil))))))
  | 3 => (match a, b with
    | .nest x .nil, b => k (.tag 42 (.append b (.nest x .nil)))
    | a, .nest y .nil => k (.tag 42 (.append a (.nest y .nil)))
    | _, _ => kn)
  | _ => kn
def iv_fits (I : List iv_I) (e : iv_E) : Bool := match iv_rng 7 I e with
  | (some l, some h) => iv_le (-2147483648) l && iv_le h 2147483647
  | _ => false
def iv_fitK {β : Type} (I : List iv_I) (k : iv_E → β) (n e : iv_E) : β := match iv_fits I e with
  | true => k e
  | false => k n
/-- an op: as it is, where it can't run over -/
def iv_binI {β : Type} (I : List iv_I) (o : Nat) (a b : iv_E) (k : iv_E → β) : β := match a, b with
  | .nest x .nil, .nest y .nil => iv_num (iv_op o x y) k
  | a, b => iv_xK o a b (iv_fitK I k (.tag o (.append a b))) (k (.tag o (.append a b)))
def iv_rd {β : Type} (W : List (List iv_E)) (p s : iv_E) (k : iv_E → β) : β := sx_nK W.length (fun n => k (.nest (.ofNat n) (.append p s)))
/-- what it reads lies among the first memories -/
def iv_wf (n : Nat) : iv_E → Bool
  | .nest _ .nil => true
  | .tag _ .nil => true
  | .nest (.ofNat j) (.append p s) => Nat.ble j n && (iv_wf n p && iv_wf n s)
  | .tag _ (.append a b) => iv_wf n a && iv_wf n b
  | _ => false
def iv_wfl (n : Nat) (l : List (Option iv_V)) : Bool := l.all (fun o => match o with
  | some v => iv_wf n v.2
  | none => true)
def iv_wff (n : Nat) (f : iv_F) : Bool := iv_wfl n f.2.2.2.1 && f.2.2.2.2.all (fun v => iv_wf n v.2)
def iv_wfS (n : Nat) (I : List iv_I) (lv : List (Option iv_V)) (st : List iv_V) (K : List iv_F) : Bool := I.all (fun e => iv_wf n e.2.1 && iv_wf n e.2.2) && (iv_wfl n lv && (st.all (fun v => iv_wf n v.2) && K.all (iv_wff n)))
def iv_go (I : List iv_I) (W : List (List iv_E)) (y : Nat) (full tl : List sx_I) (lv : List (Option iv_V)) (st : List iv_V) (K : List iv_F) (pc : Nat) : iv_R := sx_nK pc (fun pc => sx_nx tl full pc (fun cs => some [.inl (I, W, (y, full, cs, lv, st), K)]))
def iv_kok (w : Nat) (k : Nat) : Bool := match w, k with
  | 0, 0 => true
  | 1, 1 => true
  | 2, _ + 2 => true
  | _, _ => false
def iv_ld (w : Nat) (lv : List (Option iv_V)) (i : Nat) : Option iv_V := match lv[i]? with
  | some (some v) => match iv_kok w v.1 with
    | true => some v
    | false => none
  | _ => none
def iv_l1K {β : Type} (lv : List (Option iv_V)) (i : Nat) (v : iv_V) (k : List (Option iv_V) → β) : β := match i with
  | 0 => sx_setK lv 0 (some v) k
  | i + 1 => match lv[i]? with
    | some (some w) => if Nat.beq w.1 1 then sx_setK lv i none (fun lv => sx_setK lv (i + 1) (some v) k) else sx_setK lv (i + 1) (some v) k
    | _ => sx_setK lv (i + 1) (some v) k
def iv_l2K {β : Type} (lv : List (Option iv_V)) (i : Nat) (v : iv_V) (k : List (Option iv_V) → β) : β := iv_l1K lv i v (fun lv => sx_setK lv (i + 1) none k)
def iv_cat (v : iv_V) : Nat := if Nat.beq v.1 1 then 2 else 1
def iv_args : List iv_V → List (Option iv_V)
  | [] => []
  | v :: vs => if Nat.beq v.1 1 then some v :: none :: iv_args vs else some v :: iv_args vs
def iv_padl (n : Nat) (l : List (Option iv_V)) : List (Option iv_V) := l ++ List.replicate (n - l.length) none
def iv_cats (l : List iv_V) : Nat := (l.map iv_cat).sum
/-- the ops on two ints, on two longs, on a long and an int -/
def iv_oi (ins : Instr) : Option Nat := match ins with
  | .iadd => some 1
  | .isub => some 2
  | .imul => some 3
  | .iand => some 4
  | .ior => some 5
  | .ixor => some 6
  | .ishl => some 7
  | .ishr => some 8
  | .iushr => some 9
  | _ => none
def iv_ol (ins : Instr) : Option (Nat × Nat) := match ins with
  | .ladd => some (21, 1)
  | .lsub => some (22, 1)
  | .land => some (23, 1)
  | .lor => some (24, 1)
  | .lshl => some (25, 0)
  | .lshr => some (26, 0)
  | .lushr => some (27, 0)
  | _ => none
def iv_ou (ins : Instr) : Option Nat := match ins with
  | .ineg => some 12
  | .i2b => some 13
  | .i2s => some 14
  | .i2c => some 15
  | _ => none
/-- loads, stores of locals: which, how long, what -/
def iv_ol1 (ins : Instr) : Option (Nat × Nat × Nat) := match ins with
  | .iload_n n => some (n.val, 1, 0)
  | .iload i => some (i, 2, 0)
  | .lload_n n => some (n.val, 1, 1)
  | .lload i => some (i, 2, 1)
  | .aload_n n => some (n.val, 1, 2)
  | .aload i => some (i, 2, 2)
  | _ => none
def iv_os1 (ins : Instr) : Option (Nat × Nat × Nat) := match ins with
  | .istore_n n => some (n.val, 1, 0)
  | .istore i => some (i, 2, 0)
  | .lstore_n n => some (n.val, 1, 1)
  | .lstore i => some (i, 2, 1)
  | .astore_n n => some (n.val, 1, 2)
  | .astore i => some (i, 2, 2)
  | _ => none
def iv_c1 (c : Jvm.ClassFile.Cond) : Nat := match c with
  | .lt => 0
  | .le => 1
  | .gt => 2
  | .ge => 3
  | .eq => 4
  | .ne => 5
/-- reads of rows: which they may be -/
def iv_lft (ins : Instr) (ft : Nat) : Bool := match ins, ft with
  | .iaload, 0 => true
  | .laload, 1 => true
  | .baload, 2 => true
  | .caload, 3 => true
  | .baload, 4 => true
  | .aaload, 5 => true
  | _, _ => false
def iv_sft (ins : Instr) (ft : Nat) : Bool := match ins, ft with
  | .iastore, 0 => true
  | .lastore, 1 => true
  | .bastore, 2 => true
  | .bastore, 4 => true
  | _, _ => false
def iv_sw (I I0 : List iv_I) (v : iv_E) (dflt : Int) (k : Int → List iv_I → iv_R) : List (Int × Int) → iv_R
  | [] => k dflt I
  | (z, off) :: t => iv_num z (fun ze => match iv_dec I 4 v ze with
    | 1 => k off I0
    | 2 => iv_sw I I0 v dflt k t
    | _ => iv_both (k off ((4, v, ze) :: I0)) (iv_sw ((5, v, ze) :: I) I0 v dflt k t))
def iv_ofs (lo : Int) : List Int → List (Int × Int)
  | [] => []
  | o :: t => (lo, o) :: iv_ofs (lo + 1) t
def iv_wrt (I : List iv_I) (W : List (List iv_E)) (lv : List (Option iv_V)) (st : List iv_V) (K : List iv_F) (w : List iv_E) (k : List (List iv_E) → iv_R) : iv_R := if iv_wfS W.length I lv st K && w.all (iv_wf W.length) then sx_appK W w k else none
/-- what an int that is returned has to be -/
def iv_rok (W : List (List iv_E)) (I : List iv_I) (ty : FieldType) (v : iv_E) (k : List iv_I → iv_R) : iv_R := match ty with
  | .int => k I
  | .boolean => iv_ast W I 6 v (.nest 2 .nil) k
  | .char => iv_ast W I 6 v (.nest 65536 .nil) k
  | .byte => match v with
    | .nest z .nil => if narrow .byte (.int (Int32.ofInt z)) = .int (Int32.ofInt z) then k I else none
    | _ => none
  | _ => none
def iv_ret (I : List iv_I) (W : List (List iv_E)) (y : Nat) (pc : Nat) (ins : Instr) (len : Nat) (st : List iv_V) (k : List iv_I → Option iv_V → iv_R) : iv_R := match mm_mths[y]? with
  | some t => match ins, t.2.2.2.2.1, st with
    | .ireturn, some ty, [v] => if len = 1 ∧ v.1 = 0 then iv_rok W I ty v.2 (fun I => k I (some v)) else none
    | .areturn, some (.object _), [v] => if len = 1 ∧ iv_kok 2 v.1 = true then k I (some v) else none
    | .lreturn, some .long, [v] => if len = 1 ∧ v.1 = 1 then k I (some v) else none
    | .return_, none, [] => if len = 1 then k I none else none
    | _, _, _ => none
  | none => none
def iv_cal (I : List iv_I) (W : List (List iv_E)) (z : Nat) (y : Nat) (full tl : List sx_I) (lv : List (Option iv_V)) (st : List iv_V) (K : List iv_F) (pc len kd want : Nat) : iv_R := match mm_mths[z]?, sx_cods[z]? with
  | some t, some code => if len = 3 ∧ (kd = 2 ∨ kd = 3) ∧ t.2.2.2.2.2.2.1 = want ∧ mm_bud z = (0, 0) ∧ Nat.ble K.length 5 = true then
      if want = 0 then (if t.2.2.2.2.2.1 ≤ st.length ∧ iv_cats (st.drop t.2.2.2.2.2.1) ≤ 8 ∧ (iv_args (st.take t.2.2.2.2.2.1).reverse).length ≤ t.2.2.2.1 then sx_nx tl full (pc + 3) (fun cs => some [.inl (I, W, (z, code, code, iv_padl t.2.2.2.1 (iv_args (st.take t.2.2.2.2.2.1).reverse), []), (y, full, cs, lv, st.drop t.2.2.2.2.2.1) :: K)]) else none)
      else if want = 1 then (match st.drop t.2.2.2.2.2.1 with
        | v :: r => if Nat.beq v.1 (t.1 + 2) = true ∧ Nat.ble t.1 15 = true ∧ iv_cats r ≤ 8 ∧ (iv_args (v :: (st.take t.2.2.2.2.2.1).reverse)).length ≤ t.2.2.2.1 then sx_nx tl full (pc + 3) (fun cs => some [.inl (I, W, (z, code, code, iv_padl t.2.2.2.1 (iv_args (v :: (st.take t.2.2.2.2.2.1).reverse)), []), (y, full, cs, lv, r) :: K)]) else none
        | [] => none)
      else none
    else none
  | _, _ => none
/-- all that is no load, no store, no op, no return -/
def iv_one (I : List iv_I) (W : List (List iv_E)) (y : Nat) (full tl : List sx_I) (lv : List (Option iv_V)) (st : List iv_V) (K : List iv_F) (pc : Nat) (ins : Instr) (len kd a b : Nat) (z : Int) : iv_R := match ins with
  | .iconst n => if len = 1 then iv_num (Int32.ofInt n).toInt (fun v => iv_go I W y full tl lv ((0, v) :: st) K (pc + 1)) else none
  | .bipush n => if len = 2 then iv_num (Int8.ofInt n).toInt32.toInt (fun v => iv_go I W y full tl lv ((0, v) :: st) K (pc + 2)) else none
  | .sipush n => if len = 3 then iv_num (Int16.ofInt n).toInt32.toInt (fun v => iv_go I W y full tl lv ((0, v) :: st) K (pc + 3)) else none
  | .lconst n => if len = 1 then iv_num (Int64.ofNat n).toInt (fun v => iv_go I W y full tl lv ((1, v) :: st) K (pc + 1)) else none
  | .ldc idx => if kd = 6 then (if len = 2 then iv_num (Int32.ofInt z).toInt (fun v => iv_go I W y full tl lv ((0, v) :: st) K (pc + 2)) else none)
    else if kd = 12 ∧ len = 2 ∧ (sx_fi y).1 = 8 ∧ 5 ≤ a ∧ a < 21 ∧ idx = 122 + 2 * (a - 5) then iv_num (a : Int) (fun v => iv_go I W y full tl lv ((17, v) :: st) K (pc + 2)) else none
  | .ldc_w _ => if kd = 6 ∧ len = 3 then iv_num (Int32.ofInt z).toInt (fun v => iv_go I W y full tl lv ((0, v) :: st) K (pc + 3)) else none
  | .ldc2_w _ => if kd = 7 ∧ len = 3 then iv_num (Int64.ofInt z).toInt (fun v => iv_go I W y full tl lv ((1, v) :: st) K (pc + 3)) else none
  | .idiv => match st with
    | (0, v2) :: (0, v1) :: r => if len = 1 then iv_ast W I 5 v2 (.nest 0 .nil) (fun I => iv_bin 10 v1 v2 (fun v => iv_go I W y full tl lv ((0, v) :: r) K (pc + 1))) else none
    | _ => none
  | .irem => match st with
    | (0, v2) :: (0, v1) :: r => if len = 1 then iv_ast W I 5 v2 (.nest 0 .nil) (fun I => iv_bin 11 v1 v2 (fun v => iv_go I W y full tl lv ((0, v) :: r) K (pc + 1))) else none
    | _ => none
  | .i2l => match st with
    | (0, v) :: r => if len = 1 then iv_go I W y full tl lv ((1, v) :: r) K (pc + 1) else none
    | _ => none
  | .l2i => match st with
    | (1, v) :: r => if len = 1 then iv_un 28 v (fun v => iv_go I W y full tl lv ((0, v) :: r) K (pc + 1)) else none
    | _ => none
  | .lcmp => match st with
    | (1, v2) :: (1, v1) :: r => if len = 1 then iv_bin 30 v1 v2 (fun v => iv_go I W y full tl lv ((0, v) :: r) K (pc + 1)) else none
    | _ => none
  | .iinc i n => match iv_ld 0 lv i with
    | some (0, v) => if len = 3 ∧ i < lv.length then iv_num (Int32.ofInt n).toInt (fun c => iv_binI I 1 v c (fun w => iv_l1K lv i (0, w) (fun lv => iv_go I W y full tl lv st K (pc + 3)))) else none
    | _ => none
  | .goto off => match mm_tgt pc off with
    | some t => if len = 3 then iv_go I W y full tl lv st K t else none
    | none => none
  | .ifCond c off => match mm_tgt pc off, st with
    | some t, (0, v) :: r => if len = 3 then iv_cmp I (iv_c1 c) v (.nest 0 .nil) (fun I => iv_go I W y full tl lv r K t) (fun I => iv_go I W y full tl lv r K (pc + 3)) else none
    | _, _ => none
  | .if_icmp c off => match mm_tgt pc off, st with
    | some t, (0, v2) :: (0, v1) :: r => if len = 3 then iv_cmp I (iv_c1 c) v1 v2 (fun I => iv_go I W y full tl lv r K t) (fun I => iv_go I W y full tl lv r K (pc + 3)) else none
    | _, _ => none
  | .tableswitch dflt lo hi offs => match st with
    | (0, v) :: r => if offs.size = (hi - lo + 1).toNat ∧ lo ≤ hi ∧ -2147483648 ≤ lo ∧ hi ≤ 2147483647 then iv_sw I I v dflt (fun off I => match mm_tgt pc off with
      | some t => iv_go I W y full tl lv r K t
      | none => none) (iv_ofs lo offs.toList) else none
    | _ => none
  | .lookupswitch dflt ps => match st with
    | (0, v) :: r => if (ps.toList.zip (ps.toList.drop 1)).all (fun (a, next) => a.1 < next.1) = true ∧ ps.toList.all (fun q => decide (-2147483648 ≤ q.1) && decide (q.1 ≤ 2147483647)) = true then iv_sw I I v dflt (fun off I => match mm_tgt pc off with
      | some t => iv_go I W y full tl lv r K t
      | none => none) ps.toList else none
    | _ => none
  | .dup => match st with
    | v :: r => if len = 1 ∧ iv_cat v = 1 then iv_go I W y full tl lv (v :: v :: r) K (pc + 1) else none
    | [] => none
  | .pop => match st with
    | v :: r => if len = 1 ∧ iv_cat v = 1 then iv_go I W y full tl lv r K (pc + 1) else none
    | [] => none
  | .dup2 => match st with
    | v :: w :: r => if len = 1 ∧ iv_cat v = 1 ∧ iv_cat w = 1 then iv_go I W y full tl lv (v :: w :: v :: w :: r) K (pc + 1) else none
    | _ => none
  | .getfield _ => match st with
    | (t + 2, p) :: r => if len = 3 ∧ (kd = 0 ∨ kd = 1) ∧ t = a ∧ t ≤ 15 then (match (iv_fds t)[b]? with
      | some (2, u, off) => iv_pad p off (fun q => iv_go I W y full tl lv ((u + 2, q) :: r) K (pc + 3))
      | some (3, _, _) => iv_go I W y full tl lv ((0, .nest 0 .nil) :: r) K (pc + 3)
      | some (_, _, _) => iv_rd W p (.nest b .nil) (fun v => iv_go I W y full tl lv ((0, v) :: r) K (pc + 3))
      | none => none) else none
    | _ => none
  | .putfield _ => match st with
    | (0, v) :: (t + 2, p) :: r => if len = 3 ∧ (kd = 0 ∨ kd = 1) ∧ t = a ∧ t ≤ 12 then (match (iv_fds t)[b]?, vwCl[a]? with
      | some (0, _, _), some q => if (q.2.1 b).2.2.2 = false ∧ mm_ty a b = .int then iv_wrt I W lv r K [p, .nest b .nil, v] (fun W => iv_go I W y full tl lv r K (pc + 3)) else none
      | some (1, _, _), some q => if (q.2.1 b).2.2.2 = false ∧ mm_ty a b = .boolean then iv_ast W I 6 v (.nest 2 .nil) (fun I => iv_wrt I W lv r K [p, .nest b .nil, v] (fun W => iv_go I W y full tl lv r K (pc + 3))) else none
      | _, _ => none) else none
    | _ => none
  | .getstatic _ => if len = 3 ∧ (kd = 10 ∨ kd = 11) then (match a with
      | 0 => iv_go I W y full tl lv ((18, .nest 1 .nil) :: st) K (pc + 3)
      | 1 => iv_go I W y full tl lv ((18, .nest 2 .nil) :: st) K (pc + 3)
      | 2 => iv_go I W y full tl lv ((0, .nest 1 .nil) :: st) K (pc + 3)
      | 7 => iv_go I W y full tl lv ((18, .nest 3 .nil) :: st) K (pc + 3)
      | 8 => iv_go I W y full tl lv ((18, .nest 4 .nil) :: st) K (pc + 3)
      | _ => none) else none
  | .arraylength => match st with
    | (t + 2, p) :: r => if len = 1 then (match iv_ars t with
      | some q => iv_num (q.2.1 : Int) (fun n => iv_go I W y full tl lv ((0, n) :: r) K (pc + 1))
      | none => if t = 16 ∨ t = 17 then iv_go I W y full tl lv ((0, .tag 43 (.append p .nil)) :: r) K (pc + 1) else none) else none
    | _ => none
  | .invokestatic _ => if kd = 13 ∨ kd = 14 then (match st with
      | (0, v2) :: (0, v1) :: r => if len = 3 ∧ Nat.ble (iv_cats r) 8 = true then iv_bin (kd + 3) v1 v2 (fun v => iv_go I W y full tl lv ((0, v) :: r) K (pc + 3)) else none
      | _ => none)
    else if kd = 9 then (match st with
      | (0, n) :: (0, dp) :: (u + 2, d) :: (0, sp) :: (t + 2, s) :: r => if len = 3 ∧ Nat.ble (iv_cats r) 8 = true then (match iv_ars t, iv_ars u with
        | some (0, nt, _), some (0, nu, _) => iv_ast W I 3 sp (.nest 0 .nil) (fun I => iv_ast W I 3 dp (.nest 0 .nil) (fun I => iv_ast W I 3 n (.nest 0 .nil) (fun I => iv_bin 41 sp n (fun e1 => iv_num (nt : Int) (fun nt => iv_ast W I 1 e1 nt (fun I => iv_bin 41 dp n (fun e2 => iv_num (nu : Int) (fun nu => iv_ast W I 1 e2 nu (fun I => iv_wrt I W lv r K [s, sp, d, dp, n] (fun W => iv_go I W y full tl lv r K (pc + 3)))))))))))
        | _, _ => none) else none
      | _ => none)
    else iv_cal I W a y full tl lv st K pc len kd 0
  | .invokevirtual _ => iv_cal I W a y full tl lv st K pc len kd 1
  | ins => match st with
    | (0, j) :: (t + 2, p) :: r => if len = 1 then (match iv_ars t with
      | some q => if iv_lft ins q.1 = true then iv_num (q.2.1 : Int) (fun n => iv_ast W I 6 j n (fun I => match q.1 with
        | 5 => iv_elt p j q.2.2.2.1 q.2.2.2.2 (fun e => iv_go I W y full tl lv ((q.2.2.1 + 2, e) :: r) K (pc + 1))
        | 1 => iv_rd W p j (fun v => iv_go I W y full tl lv ((1, v) :: r) K (pc + 1))
        | _ => iv_rd W p j (fun v => iv_go I W y full tl lv ((0, v) :: r) K (pc + 1)))) else none
      | none => if (t = 16 ∧ iv_lft ins 0 = true) ∨ (t = 17 ∧ iv_lft ins 2 = true) then iv_ast W I 6 j (.tag 43 (.append p .nil)) (fun I => iv_go I W y full tl lv ((0, .tag 40 (.append p j)) :: r) K (pc + 1)) else none) else none
    | (kv, v) :: (0, j) :: (t + 2, p) :: r => if len = 1 then (match iv_ars t with
      | some q => if iv_sft ins q.1 = true ∧ kv = (if q.1 = 1 then 1 else 0) then iv_num (q.2.1 : Int) (fun n => iv_ast W I 6 j n (fun I => match q.1 with
        | 2 => iv_un 13 v (fun v => iv_wrt I W lv r K [p, j, v] (fun W => iv_go I W y full tl lv r K (pc + 1)))
        | 4 => iv_un 18 v (fun v => iv_wrt I W lv r K [p, j, v] (fun W => iv_go I W y full tl lv r K (pc + 1)))
        | _ => iv_wrt I W lv r K [p, j, v] (fun W => iv_go I W y full tl lv r K (pc + 1)))) else none
      | none => none) else none
    | _ => none
/-- where a run stops: at some places of its own code, at its own return -/
def iv_step (stops : List Nat) (S : iv_S) : iv_R := match S with
  | (I, W, (y, full, cs, lv, st), K) => match cs with
    | [] => none
    | (pc, ins, len, kd, a, b, z) :: tl => match K.isEmpty && stops.any (fun q => Nat.beq q pc) with
      | true => some [.inr (I, W, 1, y, pc, lv, st)]
      | false => match mm_isR ins with
        | true => match K with
          | [] => iv_ret I W y pc ins len st (fun I v => some [.inr (I, W, 2, y, pc, [], match v with
            | some v => [v]
            | none => [])])
          | (y', full', cs', lv', st') :: K' => iv_ret I W y pc ins len st (fun I v => some [.inl (I, W, (y', full', cs', lv', match v with
            | some v => v :: st'
            | none => st'), K')])
        | false => match iv_ol1 ins with
          | some (i, n, w) => match iv_ld w lv i with
            | some v => if len = n then iv_go I W y full tl lv (v :: st) K (pc + n) else none
            | none => none
          | none => match iv_os1 ins with
            | some (i, n, w) => match st with
              | v :: r => if len = n ∧ iv_kok w v.1 = true then (if w = 1 then (if i + 1 < lv.length then iv_l2K lv i v (fun lv => iv_go I W y full tl lv r K (pc + n)) else none) else if i < lv.length then iv_l1K lv i v (fun lv => iv_go I W y full tl lv r K (pc + n)) else none) else none
              | [] => none
            | none => match iv_oi ins with
              | some o => match st with
                | (0, v2) :: (0, v1) :: r => if len = 1 then iv_binI I o v1 v2 (fun v => iv_go I W y full tl lv ((0, v) :: r) K (pc + 1)) else none
                | _ => none
              | none => match iv_ol ins with
                | some (o, w) => match st with
                  | (k2, v2) :: (1, v1) :: r => if len = 1 ∧ k2 = w then iv_bin o v1 v2 (fun v => iv_go I W y full tl lv ((1, v) :: r) K (pc + 1)) else none
                  | _ => none
                | none => match iv_ou ins with
                  | some o => match st with
                    | (0, v) :: r => if len = 1 then iv_un o v (fun v => iv_go I W y full tl lv ((0, v) :: r) K (pc + 1)) else none
                    | _ => none
                  | none => iv_one I W y full tl lv st K pc ins len kd a b z
def iv_pass (stops : List Nat) : List (iv_S ⊕ iv_L) → (List (iv_S ⊕ iv_L) → iv_R) → iv_R
  | [], k => k []
  | .inr l :: w, k => iv_pass stops w (fun w => k (.inr l :: w))
  | .inl S :: w, k => match iv_step stops S with
    | some x => iv_pass stops w (fun w => iv_catK x w k)
    | none => none
def iv_it (stops : List Nat) : Nat → List (iv_S ⊕ iv_L) → iv_R
  | 0, w => iv_pass stops w (fun w => some w)
  | n + 1, w => match iv_it stops n w with
    | some w => iv_it stops n w
    | none => none
