/-! ===== the law's start: what the constructors make is of its types ===== -/
def st_tys : List (Option Nat) := [none, some 1, some 2, some 3, some 4, some 5, some 6, some 7, some 8, some 9, some 10, some 11, some 12, some 13, some 14, some 15, some 16, some 17, some 18, some 19, some 20, some 21, some 22, some 23, some 24, some 25, some 26, some 27, some 28, some 29, some 30, some 31, some 32, some 33, some 34, some 35, some 36, none, some 88, some 87, some 78, some 49, some 50, some 51, some 82, some 83, some 84, some 73, some 39, some 40, some 41, some 42, some 43, some 44, some 85, some 76, some 76, some 76, some 76, some 76, some 76, some 76, some 76, some 76, some 76, some 75, some 75, some 75, some 75, some 75, some 75, some 75, some 75, some 75, some 75, some 75, some 75, some 75, some 75, some 77, some 77, some 77, some 77, some 77, some 77, some 77, some 77, some 77, some 77, some 77, some 77, some 81, some 54, some 55, some 81, some 54, some 55, some 81, some 54, some 55, some 81, some 54, some 55, some 81, some 54, some 55, some 115, some 105, some 96, some 97, some 98, some 111, some 112, some 113, some 104, some 90, some 91, some 92, some 93, some 94, some 95, some 114, some 107, some 107, some 107, some 107, some 107, some 107, some 107, some 107, some 107, some 107, some 106, some 106, some 106, some 106, some 106, some 106, some 106, some 106, some 106, some 106, some 106, some 106, some 106, some 106, some 108, some 108, some 108, some 108, some 108, some 108, some 108, some 108, some 108, some 108, some 108, some 108, some 109, some 99, some 100, some 109, some 99, some 100, some 109, some 99, some 100, some 109, some 99, some 100, some 109, some 99, some 100, some 86, some 79, some 52, some 119, some 116, some 120, some 117, some 121, some 118, some 80, some 53, some 110, some 101, some 102, some 74, some 45, some 46, some 47, some 48, some 72, some 37, some 38, some 89, some 56, some 103, some 57, some 58, some 59, some 60, some 61, some 62, some 63, some 64, some 65, some 66, some 67, some 68, some 69, some 70, some 71]
def st_ty (p : Nat) : Option Nat := match st_tys[p]? with
  | some o => o
  | none => none
def st_zs : List mm_Zt := [("RaftTown", "KIND_ABOVE", "[I", .ref 1), ("RaftTown", "AREA", "[I", .ref 2), ("RaftTown", "BESIDE_X", "[I", .ref 3), ("RaftTown", "BESIDE_Y", "[I", .ref 4), ("java/lang/String", "COMPACT_STRINGS", "Z", .int 1)]
def st_of (c : mm_C) : sx_C := match c with
  | .inl (t, xs) => .inl (t, xs.length, .inl .null, (List.range xs.length).map (fun j => (j, .inl (xs.getD j .null))))
  | .inr (ci, fs) => .inr (ci, fs.map .inl)
def st_val (k : se_K) (v : sx_V) : Bool := match v with
  | .inl (.int x) => Nat.beq k.1 0 && (decide (k.2.1 ≤ x.toInt) && decide (x.toInt ≤ k.2.2))
  | .inl (.long _) => Nat.beq k.1 1
  | .inl (.ref q) => match k.1 with
    | u + 2 => match st_ty q with
      | some u' => Nat.beq u' u
      | none => false
    | _ => false
  | _ => false
def st_cell (t : se_Ty) (c : sx_C) : Bool := match c, t.1 with
  | .inl (el, n, df, up), none => (decide (el = t.2.1) && Nat.beq n t.2.2.1) && (List.range n).all (fun i => st_val (se_seg t.2.2.2 i) (sx_rd up i df))
  | .inr (ci, fs), some ci' => (Nat.beq ci ci' && Nat.beq fs.length t.2.2.1) && (List.range fs.length).all (fun i => match fs[i]? with
    | some v => st_val (se_seg t.2.2.2 i) v
    | none => false)
  | _, _ => false
def st_row (c : sx_C) : Bool := match c with
  | .inl (_, n, df, up) => (List.range 15).all (fun j => Nat.blt (528 + 163 * j) n && (match sx_rd up (528 + 163 * j) df with
    | .inl (.int x) => decide (x = 0)
    | _ => false))
  | _ => false
def st_chk (mem : List sx_C) : Bool := (List.range 213).all (fun p => match st_ty p with
  | some t => match mem[p]? with
    | some c => st_cell (se_tt t) c && (match Nat.beq t 56 || Nat.beq t 103 with | true => st_row c | false => true)
    | none => false
  | none => true)
def st_veq (v : sx_V) (x : Value) : Bool := match v, x with
  | .inl (.int a), .int b => decide (a = b)
  | .inl (.ref a), .ref b => Nat.beq a b
  | _, _ => false
def st_slot (mem : List sx_C) (q i : Nat) (x : Value) : Bool := match mem[q]? with
  | some (.inl (_, n, df, up)) => Nat.blt i n && st_veq (sx_rd up i df) x
  | some (.inr (_, fs)) => match fs[i]? with
    | some v => st_veq v x
    | none => false
  | none => false
/-- what a memory row says holds at the start -/
def st_mfc (mem : List sx_C) (τ : List Value) (M : se_M) : Bool := M.all (fun e => match se_v τ e.1, se_v τ e.2.1, se_v τ e.2.2 with
  | some (.ref q), some (.int j), some x => (decide (0 ≤ j.toInt) && Nat.blt 0 q) && st_slot mem q j.toInt.toNat x
  | _, _, _ => false)
def st_tauc (ks : List se_K) (τ : List Value) : Bool := match ks, τ with
  | [], [] => true
  | κ :: ks, x :: τ => st_val κ (.inl x) && st_tauc ks τ
  | _, _ => false
def st_h (S : sx_S) : Bool := match S with
  | (_, _, (y, _, cs, _, st, _, _), K) => (K.isEmpty && Nat.beq y 330) && (st.isEmpty && (match cs with
    | e :: _ => Nat.beq e.1 1044
    | [] => false))
def st_to (kx : Nat) (zs : List mm_Zt) : Nat → sx_S → Option sx_S
  | 0, S => match st_h S with
    | true => some S
    | false => match sx_stepF kx zs S with
      | some [S'] => some S'
      | _ => none
  | k + 1, S => match st_to kx zs k S with
    | some S' => st_to kx zs k S'
    | none => none
def st_S (y p : Nat) (code : List sx_I) (nL : Nat) (mem : List sx_C) : sx_S := ([], mem, (y, code, code, sx_pad nL (sx_args [.inl (.ref p)]), [], (mm_bud y).1, (mm_bud y).2), [(330, sx_c330, sx_c330.dropWhile (fun e => !(Nat.beq e.1 1044)), [none, none, none, none], [], 0, 0)])
def st_m1 : List sx_C := .inr (999, []) :: (mm_m0 0 (fun _ => 0)).tail.map st_of ++ [.inr (11, ((List.range 8).map (fun k => defaultValue (mm_ty 11 k))).map .inl)]
