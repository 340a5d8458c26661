/-! ===== methods by their values: expressions, types of places, the memory that values make ===== -/
abbrev iv_E : Type := Std.Format
abbrev iv_M : Type := Int → Int → Int
def iv_w (z : Int) : Int := (Int32.ofInt z).toInt
def iv_and (a b : Int) : Int := (Int32.ofInt a &&& Int32.ofInt b).toInt
def iv_or (a b : Int) : Int := (Int32.ofInt a ||| Int32.ofInt b).toInt
def iv_xor (a b : Int) : Int := (Int32.ofInt a ^^^ Int32.ofInt b).toInt
def iv_shl (a b : Int) : Int := (Int32.ofInt a <<< (Int32.ofInt b &&& 31)).toInt
def iv_shr (a b : Int) : Int := (Int32.ofInt a >>> (Int32.ofInt b &&& 31)).toInt
def iv_ushr (a b : Int) : Int := (((Int32.ofInt a).toUInt32 >>> ((Int32.ofInt b).toUInt32 &&& Int32.toUInt32 31)).toInt32).toInt
def iv_div (a b : Int) : Int := (Int32.ofInt a / Int32.ofInt b).toInt
def iv_rem (a b : Int) : Int := (Int32.ofInt a - Int32.ofInt a / Int32.ofInt b * Int32.ofInt b).toInt
def iv_i2b (a : Int) : Int := ((Int32.ofInt a).toInt8.toInt32).toInt
def iv_i2s (a : Int) : Int := ((Int32.ofInt a).toInt16.toInt32).toInt
def iv_i2c (a : Int) : Int := ((Int32.ofInt a).toUInt32 % 65536).toInt32.toInt
def iv_bit1 (a : Int) : Int := (Int32.ofInt a &&& 1).toInt
def iv_max (a b : Int) : Int := if a < b then b else a
def iv_min (a b : Int) : Int := if b < a then b else a
def iv_w64 (z : Int) : Int := (Int64.ofInt z).toInt
def iv_land (a b : Int) : Int := (Int64.ofInt a &&& Int64.ofInt b).toInt
def iv_lor (a b : Int) : Int := (Int64.ofInt a ||| Int64.ofInt b).toInt
def iv_lshl (a b : Int) : Int := (Int64.ofInt a <<< ((Int32.ofInt b).toInt64 &&& 63)).toInt
def iv_lshr (a b : Int) : Int := (Int64.ofInt a >>> ((Int32.ofInt b).toInt64 &&& 63)).toInt
def iv_lushr (a b : Int) : Int := (((Int64.ofInt a).toUInt64 >>> ((Int32.ofInt b).toInt64.toUInt64 &&& Int64.toUInt64 63)).toInt64).toInt
def iv_l2i (a : Int) : Int := (Int64.ofInt a).toInt32.toInt
def iv_lcmp (a b : Int) : Int := if b < a then 1 else if a = b then 0 else -1
def iv_op (o : Nat) (a b : Int) : Int := match o with
  | 1 => iv_w (a + b)
  | 2 => iv_w (a - b)
  | 3 => iv_w (a * b)
  | 4 => iv_and a b
  | 5 => iv_or a b
  | 6 => iv_xor a b
  | 7 => iv_shl a b
  | 8 => iv_shr a b
  | 9 => iv_ushr a b
  | 10 => iv_div a b
  | 11 => iv_rem a b
  | 12 => iv_w (-a)
  | 13 => iv_i2b a
  | 14 => iv_i2s a
  | 15 => iv_i2c a
  | 16 => iv_max a b
  | 17 => iv_min a b
  | 18 => iv_bit1 a
  | 21 => iv_w64 (a + b)
  | 22 => iv_w64 (a - b)
  | 23 => iv_land a b
  | 24 => iv_lor a b
  | 25 => iv_lshl a b
  | 26 => iv_lshr a b
  | 27 => iv_lushr a b
  | 28 => iv_l2i a
  | 30 => iv_lcmp a b
  | 41 => a + b
  | 42 => a * b
  | _ => 0
def iv_val : Value → Int
  | .int x => x.toInt
  | .long x => x.toInt
  | _ => 0
/-- what stands in a row of others, and how long it is -/
def iv_sr (L : Nat) (xs : Nat → Int32) (p k : Int) : Int := match (mm_m0 L xs)[p.toNat]? with
  | some (.inl a) => match a.2[k.toNat]? with
    | some v => iv_val v
    | none => 0
  | _ => 0
def iv_ln (L : Nat) (xs : Nat → Int32) (p : Int) : Int := match (mm_m0 L xs)[p.toNat]? with
  | some (.inl a) => (a.2.length : Int)
  | _ => 0
section IVE
variable (L : Nat) (xs : Nat → Int32)
/-- nest c nil: a number; tag i nil: the i-th of what is given; nest j (append p s): what the j-th memory has at p, s; tag o (append a b): an op -/
def iv_e (ρ : List Int) (ms : List iv_M) : iv_E → Int
  | .nest c .nil => c
  | .tag i .nil => ρ.getD i 0
  | .nest j (.append p s) => (ms.getD j.toNat (fun _ _ => 0)) (iv_e ρ ms p) (iv_e ρ ms s)
  | .tag 40 (.append a b) => iv_sr L xs (iv_e ρ ms a) (iv_e ρ ms b)
  | .tag 43 (.append a _) => iv_ln L xs (iv_e ρ ms a)
  | .tag o (.append a b) => iv_op o (iv_e ρ ms a) (iv_e ρ ms b)
  | _ => 0
end IVE
def iv_upd (μ : iv_M) (p k v : Int) : iv_M := fun q j => if q = p ∧ j = k then v else μ q j
def iv_cpy (μ : iv_M) (s sp d dp n : Int) : iv_M := fun q j => if q = d ∧ dp ≤ j ∧ j < dp + n then μ s (sp + (j - dp)) else μ q j
/-- fields of a class: 0 an int, 1 a boolean, 2 refers to a type, so far behind; 3: always 0 -/
def iv_fds (t : Nat) : List (Nat × Nat × Int) := match t with
  | 0 => [(2, 100, 1), (2, 101, 2), (0, 0, 0)]
  | 1 => [(2, 102, 1), (2, 102, 2), (2, 102, 3), (2, 102, 4), (0, 0, 0), (0, 0, 0), (2, 103, 5), (2, 103, 6), (0, 0, 0)]
  | 2 => [(2, 103, 1), (2, 103, 2), (2, 103, 3), (2, 104, 4), (0, 0, 0), (0, 0, 0)]
  | 3 => [(0, 0, 0), (0, 0, 0), (0, 0, 0), (0, 0, 0), (0, 0, 0), (0, 0, 0), (1, 0, 0)]
  | 4 => [(0, 0, 0), (0, 0, 0), (0, 0, 0), (0, 0, 0), (0, 0, 0), (0, 0, 0), (1, 0, 0)]
  | 5 => [(0, 0, 0), (0, 0, 0), (0, 0, 0), (0, 0, 0), (0, 0, 0), (0, 0, 0), (0, 0, 0), (1, 0, 0)]
  | 6 => [(2, 105, 1), (2, 105, 2), (2, 106, 3)]
  | 7 => [(0, 0, 0), (0, 0, 0), (2, 107, 1)]
  | 8 => [(2, 108, 1), (0, 0, 0), (2, 9, 2), (0, 0, 0), (0, 0, 0), (0, 0, 0), (0, 0, 0)]
  | 9 => [(1, 0, 0), (2, 108, 1), (2, 109, 2), (0, 0, 0)]
  | 10 => [(2, 6, 1), (2, 120, 5), (0, 0, 0), (2, 121, 6), (0, 0, 0), (2, 122, 7), (0, 0, 0), (2, 1, 8), (2, 123, 15), (0, 0, 0), (0, 0, 0), (0, 0, 0)]
  | 11 => [(2, 10, 1), (2, 10, 68), (1, 0, 0), (2, 124, 135), (2, 8, 144), (2, 2, 149), (2, 0, 154), (0, 0, 0)]
  | 12 => [(2, 110, 1), (2, 110, 2), (1, 0, 0), (0, 0, 0), (2, 104, 3), (2, 111, 4), (0, 0, 0), (2, 112, 5), (2, 113, 6), (2, 114, 7), (2, 115, 8), (2, 100, 9), (0, 0, 0), (0, 0, 0), (0, 0, 0), (0, 0, 0), (0, 0, 0), (0, 0, 0), (2, 115, 10), (2, 116, 11), (2, 117, 12), (2, 117, 13), (2, 118, 14), (2, 118, 15), (2, 119, 16), (2, 107, 17)]
  | 15 => [(2, 17, 16), (3, 0, 0)]
  | _ => []
/-- rows: of ints, longs, bytes, chars, booleans (0 to 4), or of references (5): how long, to what, from where on, how far apart -/
def iv_ars (t : Nat) : Option (Nat × Nat × Nat × Int × Int) := match t with
  | 100 => some (0, 9, 0, 0, 0)
  | 101 => some (0, 24, 0, 0, 0)
  | 102 => some (0, 40, 0, 0, 0)
  | 103 => some (0, 12, 0, 0, 0)
  | 104 => some (0, 10, 0, 0, 0)
  | 105 => some (0, 36, 0, 0, 0)
  | 106 => some (1, 36, 0, 0, 0)
  | 107 => some (0, 20, 0, 0, 0)
  | 108 => some (0, 160, 0, 0, 0)
  | 109 => some (0, 3, 0, 0, 0)
  | 110 => some (0, 2973, 0, 0, 0)
  | 111 => some (2, 160, 0, 0, 0)
  | 112 => some (3, 59, 0, 0, 0)
  | 113 => some (0, 16, 0, 0, 0)
  | 114 => some (0, 489, 0, 0, 0)
  | 115 => some (0, 200, 0, 0, 0)
  | 116 => some (0, 4096, 0, 0, 0)
  | 117 => some (4, 36, 0, 0, 0)
  | 118 => some (0, 4, 0, 0, 0)
  | 119 => some (0, 80, 0, 0, 0)
  | 120 => some (5, 10, 4, 11, 1)
  | 121 => some (5, 14, 3, 20, 1)
  | 122 => some (5, 12, 5, 33, 1)
  | 123 => some (5, 5, 9, 37, 3)
  | 124 => some (5, 4, 7, 1, 2)
  | _ => none
/-- which type a place is of -/
def iv_pls : List Nat := [16, 16, 16, 16, 16] ++ List.replicate 16 15 ++ List.replicate 16 17 ++ [999, 11] ++
  [10, 6, 105, 105, 106, 120, 121, 122, 1, 102, 102, 102, 102, 103, 103, 123] ++ List.replicate 10 4 ++ List.replicate 14 3 ++ List.replicate 12 5 ++ [9, 108, 109, 9, 108, 109, 9, 108, 109, 9, 108, 109, 9, 108, 109] ++
  [10, 6, 105, 105, 106, 120, 121, 122, 1, 102, 102, 102, 102, 103, 103, 123] ++ List.replicate 10 4 ++ List.replicate 14 3 ++ List.replicate 12 5 ++ [9, 108, 109, 9, 108, 109, 9, 108, 109, 9, 108, 109, 9, 108, 109] ++
  [124, 7, 107, 7, 107, 7, 107, 7, 107, 8, 108, 9, 108, 109, 2, 103, 103, 103, 104, 0, 100, 101, 12, 110, 110, 104, 111, 112, 113, 114, 115, 100, 115, 116, 117, 117, 118, 118, 119, 107]
def iv_pl (p : Nat) : Nat := iv_pls.getD p 999
def iv_ip (t : Nat) (p : Int) : Prop := 0 ≤ p ∧ iv_pl p.toNat = t ∧ t ≠ 999
def iv_ft (a : Nat × Nat × Nat × Int × Int) : FieldType := match a.1 with
  | 0 => .int
  | 1 => .long
  | 2 => .byte
  | 3 => .char
  | 4 => .boolean
  | _ => .object ((vwCl.getD a.2.2.1 (RX0, TX0, 3)).1)
def iv_av (a : Nat × Nat × Nat × Int × Int) (μ : iv_M) (p k : Nat) : Value := match a.1 with
  | 1 => .long (Int64.ofInt (μ p k))
  | 5 => .ref ((p : Int) + a.2.2.2.1 + a.2.2.2.2 * (k : Int)).toNat
  | _ => .int (Int32.ofInt (μ p k))
def iv_fv (f : Nat × Nat × Int) (μ : iv_M) (p k : Nat) : Value := match f.1 with
  | 2 => .ref ((p : Int) + f.2.2).toNat
  | _ => .int (Int32.ofInt (μ p k))
def iv_cl (μ : iv_M) (p : Nat) : mm_C := match iv_ars (iv_pl p) with
  | some a => .inl (iv_ft a, (List.range a.2.1).map (fun k => iv_av a μ p k))
  | none => .inr (iv_pl p, (List.range (iv_fds (iv_pl p)).length).map (fun k => iv_fv ((iv_fds (iv_pl p)).getD k (0, 0, 0)) μ p k))
def iv_m (L : Nat) (xs : Nat → Int32) (μ : iv_M) : List mm_C := mm_m0 L xs ++ (List.range 175).map (fun i => iv_cl μ (i + 38))
/-! ranges -/
def iv_lo : Int := -2147483648
def iv_hi : Int := 2147483647
def iv_i32 (x : Int) : Prop := -2147483648 ≤ x ∧ x ≤ 2147483647
def iv_i64 (x : Int) : Prop := -9223372036854775808 ≤ x ∧ x ≤ 9223372036854775807
/-- what a slot may hold -/
def iv_sk (t k : Nat) : Nat := match iv_ars t with
  | some a => a.1
  | none => match (iv_fds t)[k]? with
    | some (1, _) => 4
    | _ => 0
def iv_rg (s : Nat) (x : Int) : Prop := match s with
  | 1 => iv_i64 x
  | 4 => 0 ≤ x ∧ x ≤ 1
  | _ => iv_i32 x
def iv_N (μ : iv_M) : Prop := ∀ p k : Nat, iv_rg (iv_sk (iv_pl p) k) (μ p k)
/-- a value of a kind: 0 an int, 1 a long, t + 2 a place of type t -/
def iv_nv (k : Nat) (x : Int) : Prop := match k with
  | 0 => iv_i32 x
  | 1 => iv_i64 x
  | t + 2 => iv_ip t x
def iv_cv (k : Nat) (x : Int) : Value := match k with
  | 0 => .int (Int32.ofInt x)
  | 1 => .long (Int64.ofInt x)
  | _ => .ref x.toNat
