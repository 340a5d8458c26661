/-! ===== runs from cut to cut: ranges, a step ===== -/
def se_zK {β : Type} (z : Int) (k : Int → β) : β := match z with
  | .ofNat n => sx_nK n (fun n => k (.ofNat n))
  | .negSucc n => sx_nK n (fun n => k (.negSucc n))
def se_vK {β : Type} (a : Int) (u : Nat) (c : Int) (k : se_V → β) : β := se_zK a (fun a => sx_nK u (fun u => se_zK c (fun c => k (a, u, c))))
def se_le (a b : Int) : Bool := decide (a ≤ b)
def se_in (l h : Int) : Bool := se_le se_lo l && se_le h se_hi
/-- a range that fits an int, or all ints -/
def se_fit (l h : Int) : Int × Int := if se_in l h then (l, h) else (se_lo, se_hi)
def se_min (a b : Int) : Int := if se_le a b then a else b
def se_max (a b : Int) : Int := if se_le a b then b else a
def se_kd (ds : List se_D) (v : se_V) : Nat := if v.1 = 0 then 0 else match ds[v.2.1]? with
  | some d => d.1.1
  | none => 1000000
/-- an int's range; whether it is just that much more than its unknown -/
def se_rg (ds : List se_D) (v : se_V) : Int × Int := if v.1 = 0 then se_fit v.2.2 v.2.2 else match ds[v.2.1]? with
  | some d => if se_le 0 v.1 then se_fit (v.1 * d.1.2.1 + v.2.2) (v.1 * d.1.2.2 + v.2.2) else se_fit (v.1 * d.1.2.2 + v.2.2) (v.1 * d.1.2.1 + v.2.2)
  | none => (se_lo, se_hi)
def se_up (h : Int) : Int := ((2 ^ (h.toNat.log2 + 1) : Nat) : Int) - 1
/-- the ops that make ints, and their ranges -/
def se_op (o : Nat) : Int32 → Int32 → Int32 := match o with
  | 1 => fun x y => x + y
  | 2 => fun x y => x - y
  | 3 => fun x y => x * y
  | 4 => fun x y => x &&& y
  | 5 => fun x y => x ||| y
  | 6 => fun x y => x ^^^ y
  | 7 => fun x y => x <<< (y &&& 31)
  | 8 => fun x y => x >>> (y &&& 31)
  | 9 => fun x y => (x.toUInt32 >>> (y.toUInt32 &&& Int32.toUInt32 31)).toInt32
  | 10 => fun x y => x / y
  | 11 => fun x y => x - x / y * y
  | 12 => fun x _ => -x
  | 13 => fun x _ => x.toInt8.toInt32
  | 14 => fun x _ => x.toInt16.toInt32
  | 15 => fun x _ => (x.toUInt32 % 65536).toInt32
  | 16 => fun x y => if x < y then y else x
  | 17 => fun x y => if y < x then y else x
  | _ => fun x _ => x
def se_ro (o : Nat) (l1 h1 l2 h2 : Int) : Int × Int := match o with
  | 1 => se_fit (l1 + l2) (h1 + h2)
  | 2 => se_fit (l1 - h2) (h1 - l2)
  | 3 => if se_le 0 l1 && se_le 0 l2 then se_fit (l1 * l2) (h1 * h2) else (se_lo, se_hi)
  | 4 => if se_le 0 l1 then (if se_le 0 l2 then (0, se_min h1 h2) else (0, h1)) else if se_le 0 l2 then (0, h2) else (se_lo, se_hi)
  | 5 => if se_le 0 l1 && se_le 0 l2 then (se_max l1 l2, se_up (se_max h1 h2)) else (se_lo, se_hi)
  | 7 => if decide (l1 = 1) && decide (h1 = 1) && se_le 0 l2 && se_le h2 30 then ((2 ^ l2.toNat : Nat), (2 ^ h2.toNat : Nat)) else (se_lo, se_hi)
  | 8 => if se_le 0 l1 then (0, h1) else (se_lo, se_hi)
  | 11 => if decide (l2 = h2) && se_le 1 l2 then (1 - l2, l2 - 1) else (se_lo, se_hi)
  | 13 => (-128, 127)
  | 14 => (-32768, 32767)
  | 15 => (0, 65535)
  | 16 => (se_max l1 l2, se_max h1 h2)
  | 17 => (se_min l1 l2, se_min h1 h2)
  | _ => (se_lo, se_hi)
/-- one unknown more -/
def se_new (ds : List se_D) (kd : Nat) (l h : Int) (o : Nat) (x y : se_V) (k : List se_D → se_V → se_R) : se_R := se_zK l (fun l => se_zK h (fun h => sx_nK ds.length (fun n => sx_appK ds ((kd, l, h), o, x, y) (fun ds => k ds (1, n, 0)))))
def se_con (x : Int32) (k : se_V → se_R) : se_R := se_zK x.toInt (fun c => k (0, 0, c))
def se_eq (v w : se_V) : Bool := decide (v.1 = w.1) && (Nat.beq v.2.1 w.2.1 && decide (v.2.2 = w.2.2))
/-- an unknown that came by an op on two -/
def se_fdd (o : Nat) (x y : se_V) : List se_D → Nat → Option Nat
  | [], _ => none
  | d :: t, n => if Nat.beq d.2.1 o && (se_eq d.2.2.1 x && se_eq d.2.2.2 y) then some n else se_fdd o x y t (n + 1)
/-- an op on two ints -/
def se_bin (ds : List se_D) (o : Nat) (x y : se_V) (k : List se_D → se_V → se_R) : se_R :=
  if x.1 = 0 ∧ y.1 = 0 then se_con (se_op o (Int32.ofInt x.2.2) (Int32.ofInt y.2.2)) (fun v => k ds v)
  else match o, decide (x.1 = 0), decide (y.1 = 0) with
  | 1, false, true => se_vK x.1 x.2.1 (x.2.2 + y.2.2) (fun v => k ds v)
  | 1, true, false => se_vK y.1 y.2.1 (x.2.2 + y.2.2) (fun v => k ds v)
  | 2, false, true => se_vK x.1 x.2.1 (x.2.2 - y.2.2) (fun v => k ds v)
  | 2, true, false => se_vK (-y.1) y.2.1 (x.2.2 - y.2.2) (fun v => k ds v)
  | 3, false, true => if y.2.2 = 0 then k ds (0, 0, 0) else se_vK (x.1 * y.2.2) x.2.1 (x.2.2 * y.2.2) (fun v => k ds v)
  | 3, true, false => if x.2.2 = 0 then k ds (0, 0, 0) else se_vK (y.1 * x.2.2) y.2.1 (y.2.2 * x.2.2) (fun v => k ds v)
  | 12, false, _ => se_vK (-x.1) x.2.1 (-x.2.2) (fun v => k ds v)
  | o, _, _ => if Nat.beq o 2 && (decide (x.1 = y.1) && Nat.beq x.2.1 y.2.1) then se_con (Int32.ofInt (x.2.2 - y.2.2)) (fun v => k ds v) else match (if Nat.beq o 4 || (Nat.beq o 2 || Nat.beq o 1) then se_fdd o x y ds 0 else none) with
    | some n => sx_nK n (fun n => k ds (1, n, 0))
    | none => match se_rg ds x, se_rg ds y with
      | (l1, h1), (l2, h2) => match se_ro o l1 h1 l2 h2 with
        | (l, h) => se_new ds 0 l h o x y k
/-- an unknown's range made narrower: none left, no way -/
def se_nrw (ds : List se_D) (i kd : Nat) (a b : Int) (e : Nat × se_V × se_V) (l h : Int) (k : List se_D → se_R) : se_R := se_zK l (fun l => se_zK h (fun h => if se_le (se_max a l) (se_min b h) then se_zK (se_max a l) (fun l => se_zK (se_min b h) (fun h => sx_setK ds i ((kd, l, h), e) k)) else some []))
def se_cut (ds : List se_D) (v : se_V) (l h : Int) (k : List se_D → se_R) : se_R := if v.1 = 0 then k ds else match ds[v.2.1]? with
  | some ((kd, a, b), e) => if se_le 0 v.1 then (if se_in (v.1 * a + v.2.2) (v.1 * b + v.2.2) then se_nrw ds v.2.1 kd a b e (-((v.2.2 - l) / v.1)) ((h - v.2.2) / v.1) k else k ds)
    else (if se_in (v.1 * b + v.2.2) (v.1 * a + v.2.2) then se_nrw ds v.2.1 kd a b e (-((h - v.2.2) / (-v.1))) ((v.2.2 - l) / (-v.1)) k else k ds)
  | none => k ds
/-- what a comparison that holds says of the first, against the second's range -/
def se_side (c : Jvm.ClassFile.Cond) (l1 h1 l2 h2 : Int) : Int × Int := match c with
  | .lt => (l1, h2 - 1)
  | .le => (l1, h2)
  | .gt => (l2 + 1, h1)
  | .ge => (l2, h1)
  | .eq => (l2, h2)
  | .ne => if l2 = h2 then (if l1 = l2 then (l1 + 1, h1) else if h1 = l2 then (l1, h1 - 1) else (l1, h1)) else (l1, h1)
def se_neg : Jvm.ClassFile.Cond → Jvm.ClassFile.Cond
  | .lt => .ge
  | .ge => .lt
  | .gt => .le
  | .le => .gt
  | .eq => .ne
  | .ne => .eq
/-- the way on which a comparison holds; none, if it can't -/
def se_way (ds : List se_D) (c : Jvm.ClassFile.Cond) (x y : se_V) (k : List se_D → se_R) : se_R := match se_rg ds x, se_rg ds y with
  | (l1, h1), (l2, h2) => match se_side c l1 h1 l2 h2, se_side (sx_swp c) l2 h2 l1 h1 with
    | (a, b), (a', b') => if se_le (se_max a l1) (se_min b h1) && se_le (se_max a' l2) (se_min b' h2) then se_cut ds x a b (fun ds => se_cut ds y a' b' k) else some []
def se_both (a b : se_R) : se_R := match a, b with
  | some x, some y => some (x ++ y)
  | _, _ => none
def se_cN : Jvm.ClassFile.Cond → Nat
  | .lt => 0
  | .le => 1
  | .gt => 2
  | .ge => 3
  | .eq => 4
  | .ne => 5
/-- a fact that is there -/
def se_inP (P : List (Jvm.ClassFile.Cond × se_V × se_V)) (c : Jvm.ClassFile.Cond) (x y : se_V) : Bool := P.any (fun e => Nat.beq (se_cN e.1) (se_cN c) && (se_eq e.2.1 x && se_eq e.2.2 y))
def se_cmp (ds : List se_D) (P : List (Jvm.ClassFile.Cond × se_V × se_V)) (c : Jvm.ClassFile.Cond) (x y : se_V) (kt kf : List se_D → List (Jvm.ClassFile.Cond × se_V × se_V) → se_R) : se_R := if Nat.beq (se_kd ds x) 0 && Nat.beq (se_kd ds y) 0 then
    if x.1 = 0 ∧ y.1 = 0 then (if mm_P2 c (Int32.ofInt x.2.2) (Int32.ofInt y.2.2) then kt ds P else kf ds P)
    else if se_inP P c x y then kt ds P else if se_inP P (se_neg c) x y then kf ds P
    else se_both (se_way ds c x y (fun ds => kt ds ((c, x, y) :: P))) (se_way ds (se_neg c) x y (fun ds => kf ds ((se_neg c, x, y) :: P)))
  else none
