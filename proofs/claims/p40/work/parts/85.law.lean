/-! ===== the law's arms, with what is known of the memory: a checker ===== -/
/-- the way to slots, and pairs of slots with one value, of a kind -/
abbrev la_R : Type := se_M × List (se_K × (se_V × se_V) × (se_V × se_V))
def la_W : se_W := (List.range 160).map (fun t => (t, 0, 5000))
def la_vals : Nat → List (se_K × (se_V × se_V) × (se_V × se_V)) → se_M
  | _, [] => []
  | k, e :: t => (e.2.1.1, e.2.1.2, (1, k, 0)) :: (e.2.2.1, e.2.2.2, (1, k, 0)) :: la_vals (k + 1) t
def la_M0 (np : Nat) (R : la_R) : se_M := R.1 ++ la_vals np R.2
/-- two values are one: both less one number are one -/
def la_cg (ds : List se_D) (P : se_P) (v w : se_V) : Bool := (List.range ds.length).any (fun i => match ds[i]? with
  | some (_, 2, a, p) => se_eq a v && (List.range ds.length).any (fun j => match ds[j]? with
    | some (_, 2, b, q) => se_eq b w && (se_eq p q && se_ent ds P .eq (1, i, 0) (1, j, 0))
    | _ => false)
  | _ => false)
def la_rel (R : la_R) (ds : List se_D) (P : se_P) (M : se_M) : Bool := R.1.all (fun e => match se_find M e.1 e.2.1 with
  | some v => se_eq v e.2.2
  | none => false) && R.2.all (fun e => match se_find M e.2.1.1 e.2.1.2, se_find M e.2.2.1 e.2.2.2 with
  | some v, some w => (se_eq v w || la_cg ds P v w) && se_is ds v e.1
  | _, _ => false)
def la_pushK (ds : List se_D) (k : Nat) (kk : se_V → se_R) : se_R := match ds[k]? with
  | some ((0, l, h), _) => match decide (l = h) with
    | true => kk (0, 0, l)
    | false => kk (1, k, 0)
  | _ => none
def la_at (tl : List sx_I) (pc : Nat) : Bool := match tl with
  | e :: _ => Nat.beq e.1 pc
  | [] => false
def la_nx (kk : List sx_I → List se_D → se_M → se_P → List se_V → se_R) (tl : List sx_I) (pc len k : Nat) (ds : List se_D) (M : se_M) (P : se_P) (st : List se_V) : se_R := match Nat.beq len k && la_at tl (pc + k) with
  | true => kk tl ds M P st
  | false => none
def la_to (RT : la_R) (kk : List sx_I → List se_D → se_M → se_P → List se_V → se_R) (tl : List sx_I) (pc len : Nat) (off : Int) (ds : List se_D) (M : se_M) (P : se_P) (st : List se_V) : se_R := match Nat.beq len 3 with
  | true => match mm_tgt pc off with
    | some tg => match Nat.beq tg 1636 with
      | true => match st.isEmpty && la_rel RT ds P M with
        | true => some []
        | false => none
      | false => kk (tl.dropWhile (fun e => !(Nat.beq e.1 tg))) ds M P st
    | none => none
  | false => none
def la_call (C : List se_C) (y : Nat) (ds : List se_D) (M : se_M) (P : se_P) (st : List se_V) (kk : List se_D → se_M → se_P → List se_V → se_R) : se_R := match mm_mths[y]? with
  | some t => match Nat.beq t.2.2.2.2.2.2.1 1 with
    | true => match st.drop t.2.2.2.2.2.1 with
      | r :: rest => match se_kd ds r with
        | u + 2 => match se_tt u with
          | (some ci, _, _, _) => match (Nat.beq ci t.1 && decide (r.1 = 1)) && (Nat.ble (se_cats ds rest) 8 && se_mok t y (se_args ds (r :: (st.take t.2.2.2.2.2.1).reverse)).length) with
            | true => se_callC se_tt la_W ds M P y (se_args ds (r :: (st.take t.2.2.2.2.2.1).reverse)) (fun _ ds M P v => match v with
              | some v => kk ds M P (v :: rest)
              | none => none) C
            | false => none
          | _ => none
        | _ => none
      | [] => none
    | false => none
  | none => none
def la_long (ds : List se_D) (kk : List se_D → se_V → se_R) : se_R := se_new ds 1 0 0 0 (0, 0, 0) (0, 0, 0) kk
/-- an argument out of the script: the number's place among the unknowns -/
def la_arg (tl : List sx_I) (pc : Nat) : Option (Nat × List sx_I) := match tl with
  | (p1, i1, l1, _) :: (p2, i2, l2, _) :: (p3, i3, l3, _) :: (p4, i4, l4, _) :: tl' => match i1, i2, i3, i4 with
    | .iload_n j, .iconst c, .iadd, .iaload => match (Nat.beq j.val 3 && (decide (1 ≤ c) && decide (c ≤ 5))) && (((Nat.beq p1 (pc + 1) && Nat.beq p2 (pc + 2)) && (Nat.beq p3 (pc + 3) && Nat.beq p4 (pc + 4))) && ((Nat.beq l1 1 && Nat.beq l2 1) && (Nat.beq l3 1 && Nat.beq l4 1))) with
      | true => some (c.toNat, tl')
      | false => none
    | _, _, _, _ => none
  | _ => none
def la_go (C : List se_C) (RT : la_R) (g : Nat) : Nat → List sx_I → List se_D → se_M → se_P → List se_V → se_R
  | 0, _, _, _, _, _ => none
  | _ + 1, [], _, _, _, _ => none
  | n + 1, (pc, ins, len, kd, a, b, z) :: tl, ds, M, P, st => match ins with
    | .aload_n j => match j.val with
      | 0 => match la_arg tl pc with
        | some (c, tl') => match Nat.beq len 1 && la_at tl' (pc + 5) with
          | true => sx_nK (g + (c - 1)) (fun k => la_pushK ds k (fun v => la_go C RT g n tl' ds M P (v :: st)))
          | false => none
        | none => none
      | 1 => la_nx (la_go C RT g n) tl pc len 1 ds M P ((1, 0, 0) :: st)
      | 2 => la_nx (la_go C RT g n) tl pc len 1 ds M P ((1, 1, 0) :: st)
      | _ => none
    | .iconst c => se_con (Int32.ofInt c) (fun v => la_nx (la_go C RT g n) tl pc len 1 ds M P (v :: st))
    | .bipush c => se_con (Int8.ofInt c).toInt32 (fun v => la_nx (la_go C RT g n) tl pc len 2 ds M P (v :: st))
    | .i2l => match st with
      | v :: r => match Nat.beq (se_kd ds v) 0 with
        | true => la_long ds (fun ds v => la_nx (la_go C RT g n) tl pc len 1 ds M P (v :: r))
        | false => none
      | [] => none
    | .lshl => match st with
      | v :: w :: r => match Nat.beq (se_kd ds v) 0 && Nat.beq (se_kd ds w) 1 with
        | true => la_long ds (fun ds v => la_nx (la_go C RT g n) tl pc len 1 ds M P (v :: r))
        | false => none
      | _ => none
    | .land => match st with
      | v :: w :: r => match Nat.beq (se_kd ds v) 1 && Nat.beq (se_kd ds w) 1 with
        | true => la_long ds (fun ds v => la_nx (la_go C RT g n) tl pc len 1 ds M P (v :: r))
        | false => none
      | _ => none
    | .lor => match st with
      | v :: w :: r => match Nat.beq (se_kd ds v) 1 && Nat.beq (se_kd ds w) 1 with
        | true => la_long ds (fun ds v => la_nx (la_go C RT g n) tl pc len 1 ds M P (v :: r))
        | false => none
      | _ => none
    | .ldc2_w _ => match Nat.beq kd 7 with
      | true => la_long ds (fun ds v => la_nx (la_go C RT g n) tl pc len 3 ds M P (v :: st))
      | false => none
    | .pop => match st with
      | v :: r => match Nat.beq (se_kd ds v) 0 with
        | true => la_nx (la_go C RT g n) tl pc len 1 ds M P r
        | false => none
      | [] => none
    | .ifCond cd off => match st with
      | v :: r => match mm_tgt pc off with
        | some _ => se_cmp ds P cd v (0, 0, 0) (fun ds P => la_to RT (la_go C RT g n) tl pc len off ds M P r) (fun ds P => la_nx (la_go C RT g n) tl pc len 3 ds M P r)
        | none => none
      | [] => none
    | .if_icmp .eq off => match st with
      | w :: v :: r => match se_eq v w && Nat.beq (se_kd ds v) 0 with
        | true => la_to RT (la_go C RT g n) tl pc len off ds M P r
        | false => se_cmp ds P .eq v w (fun ds P => la_to RT (la_go C RT g n) tl pc len off ds M P r) (fun _ _ => none)
      | _ => none
    | .goto off => la_to RT (la_go C RT g n) tl pc len off ds M P st
    | .invokevirtual _ => match Nat.beq len 3 && (Nat.beq kd 2 || Nat.beq kd 3) with
      | true => la_call C a ds M P st (fun ds M P st => la_nx (la_go C RT g n) tl pc len 3 ds M P st)
      | false => none
    | _ => none
