/-! ===== runs from cut to cut: the step ===== -/
/-- ints' ops with two of them -/
def se_b2 : Instr → Option Nat
  | .iadd => some 1
  | .isub => some 2
  | .imul => some 3
  | .iand => some 4
  | .ior => some 5
  | .ixor => some 6
  | .ishl => some 7
  | .ishr => some 8
  | .iushr => some 9
  | .idiv => some 10
  | .irem => some 11
  | _ => none
def se_u1 : Instr → Option Nat
  | .ineg => some 12
  | .i2b => some 13
  | .i2s => some 14
  | .i2c => some 15
  | _ => none
/-- ops that make a long of two: what the top is (0 an int, 1 a long) -/
def se_lg : Instr → Option Nat
  | .lsub => some 1
  | .land => some 1
  | .lor => some 1
  | .lshl => some 0
  | .lshr => some 0
  | .lushr => some 0
  | _ => none
/-- loads of locals: the place, the length, 0 an int, 1 a long, 2 a reference -/
def se_lo1 : Instr → Option (Nat × Nat × Nat)
  | .iload_n n => some (n.val, 1, 0)
  | .iload i => some (i, 2, 0)
  | .lload_n n => some (n.val, 1, 1)
  | .lload i => some (i, 2, 1)
  | .aload_n n => some (n.val, 1, 2)
  | .aload i => some (i, 2, 2)
  | _ => none
def se_st1 : Instr → Option (Nat × Nat × Nat)
  | .istore_n n => some (n.val, 1, 0)
  | .istore i => some (i, 2, 0)
  | .lstore_n n => some (n.val, 1, 1)
  | .lstore i => some (i, 2, 1)
  | .astore_n n => some (n.val, 1, 2)
  | .astore i => some (i, 2, 2)
  | _ => none
def se_kok (ds : List se_D) (v : se_V) (w : Nat) : Bool := match w with
  | 0 => Nat.beq (se_kd ds v) 0
  | 1 => Nat.beq (se_kd ds v) 1 && decide (v.1 = 1)
  | _ => Nat.ble 2 (se_kd ds v) && decide (v.1 = 1)
section SEE
variable (tt : Nat → se_Ty) (C : List se_C) (W Z : se_W) (tw : Nat) (zt : Nat → Option Nat)
def se_step (S : se_S) : se_R := match S with
  | (ds, M, (y, full, cs, lv, st), K, P, L) => match cs with
    | [] => none
    | (pc, ins, len, kd, a, b, z) :: tl => match se_b2 ins, se_u1 ins, se_lo1 ins, se_st1 ins, se_lg ins with
      | some o, _, _, _, _ => match st with
        | w :: v :: r => if len = 1 ∧ se_kd ds v = 0 ∧ se_kd ds w = 0 ∧ (o = 10 ∨ o = 11 → ((match se_rg ds w with
            | (l, h) => se_le 1 l || se_le h (-1)) || P.any (fun e => match e with
              | (.ne, x, z) => se_eq x w && se_eq z (0, 0, 0)
              | _ => false)) = true) then se_bin ds o v w (fun ds v => se_go ds M y full tl lv (v :: r) K P L (pc + 1)) else none
        | _ => none
      | _, some o, _, _, _ => match st with
        | v :: r => if len = 1 ∧ se_kd ds v = 0 then se_bin ds o v (0, 0, 0) (fun ds v => se_go ds M y full tl lv (v :: r) K P L (pc + 1)) else none
        | _ => none
      | _, _, some (i, k, w), _, _ => match se_ld lv i with
        | some v => if len = k ∧ se_kok ds v w = true then se_go ds M y full tl lv (v :: st) K P L (pc + k) else none
        | none => none
      | _, _, _, some (i, k, w), _ => match st with
        | v :: r => if len = k ∧ se_kok ds v w = true then (if w = 1 then (if i + 1 < lv.length then se_l2K ds lv i v (fun lv => se_go ds M y full tl lv r K P L (pc + k)) else none) else if i < lv.length then se_l1K ds lv i v (fun lv => se_go ds M y full tl lv r K P L (pc + k)) else none) else none
        | _ => none
      | _, _, _, _, some t => match st with
        | w :: v :: r => if len = 1 ∧ se_kok ds v 1 = true ∧ se_kok ds w t = true then se_new ds 1 0 0 0 (0, 0, 0) (0, 0, 0) (fun ds v => se_go ds M y full tl lv (v :: r) K P L (pc + 1)) else none
        | _ => none
      | none, none, none, none, none => match ins with
        | .iconst n => if len = 1 then se_con (Int32.ofInt n) (fun v => se_go ds M y full tl lv (v :: st) K P L (pc + 1)) else none
        | .bipush n => if len = 2 then se_con (Int8.ofInt n).toInt32 (fun v => se_go ds M y full tl lv (v :: st) K P L (pc + 2)) else none
        | .sipush n => if len = 3 then se_con (Int16.ofInt n).toInt32 (fun v => se_go ds M y full tl lv (v :: st) K P L (pc + 3)) else none
        | .ldc idx => if kd = 12 then (match zt (1000 + a) with
            | some t => if len = 2 ∧ (sx_fi y).1 = 8 ∧ 5 ≤ a ∧ a < 21 ∧ idx = 122 + 2 * (a - 5) then se_new ds (t + 2) 0 0 0 (0, 0, 0) (0, 0, 0) (fun ds v => se_go ds M y full tl lv (v :: st) K P L (pc + 2)) else none
            | none => none) else if len = 2 ∧ kd = 6 then se_con (Int32.ofInt z) (fun v => se_go ds M y full tl lv (v :: st) K P L (pc + 2)) else none
        | .ldc_w _ => if len = 3 ∧ kd = 6 then se_con (Int32.ofInt z) (fun v => se_go ds M y full tl lv (v :: st) K P L (pc + 3)) else none
        | .lconst _ => if len = 1 then se_new ds 1 0 0 0 (0, 0, 0) (0, 0, 0) (fun ds v => se_go ds M y full tl lv (v :: st) K P L (pc + 1)) else none
        | .ldc2_w _ => if len = 3 ∧ kd = 7 then se_new ds 1 0 0 0 (0, 0, 0) (0, 0, 0) (fun ds v => se_go ds M y full tl lv (v :: st) K P L (pc + 3)) else none
        | .ladd => match st with
          | w :: v :: r => if len = 1 ∧ se_kok ds v 1 = true ∧ se_kok ds w 1 = true then se_new ds 1 0 0 21 v w (fun ds v => se_go ds M y full tl lv (v :: r) K P L (pc + 1)) else none
          | _ => none
        | .i2l => match st with
          | v :: r => if len = 1 ∧ se_kok ds v 0 = true then se_new ds 1 0 0 20 v (0, 0, 0) (fun ds v => se_go ds M y full tl lv (v :: r) K P L (pc + 1)) else none
          | _ => none
        | .lcmp => match st with
          | w :: v :: r => if len = 1 ∧ se_kok ds v 1 = true ∧ se_kok ds w 1 = true then se_lcK ds P v w (fun ds v => se_go ds M y full tl lv (v :: r) K P L (pc + 1)) else none
          | _ => none
        | .l2i => match st with
          | v :: r => if len = 1 ∧ se_kok ds v 1 = true then se_new ds 0 se_lo se_hi 0 (0, 0, 0) (0, 0, 0) (fun ds v => se_go ds M y full tl lv (v :: r) K P L (pc + 1)) else none
          | _ => none
        | .iinc i n => match se_ld lv i with
          | some v => if len = 3 ∧ se_kd ds v = 0 ∧ i < lv.length then se_con (Int32.ofInt n) (fun c => se_bin ds 1 v c (fun ds w => se_l1K ds lv i w (fun lv => se_go ds M y full tl lv st K P L (pc + 3)))) else none
          | none => none
        | .goto off => match mm_tgt pc off with
          | some t => if len = 3 then se_go ds M y full tl lv st K P L t else none
          | none => none
        | .ifCond cd off => match mm_tgt pc off, st with
          | some t, v :: r => if len = 3 then se_cmp ds P cd v (0, 0, 0) (fun ds P => se_go ds M y full tl lv r K P L t) (fun ds P => se_go ds M y full tl lv r K P L (pc + 3)) else none
          | _, _ => none
        | .if_icmp cd off => match mm_tgt pc off, st with
          | some t, w :: v :: r => if len = 3 then se_cmp ds P cd v w (fun ds P => se_go ds M y full tl lv r K P L t) (fun ds P => se_go ds M y full tl lv r K P L (pc + 3)) else none
          | _, _ => none
        | .tableswitch dflt lo hi offs => match st with
          | v :: r => if se_in lo hi = true ∧ lo ≤ hi ∧ se_kd ds v = 0 then se_sw ds P v dflt lo (hi - lo + 1).toNat offs (fun off ds P => match mm_tgt pc off with
            | some t => se_go ds M y full tl lv r K P L t
            | none => none) else none
          | [] => none
        | .dup => match st with
          | v :: r => if len = 1 ∧ se_cat ds v = 1 then se_go ds M y full tl lv (v :: v :: r) K P L (pc + 1) else none
          | [] => none
        | .pop => match st with
          | v :: r => if len = 1 ∧ se_cat ds v = 1 then se_go ds M y full tl lv r K P L (pc + 1) else none
          | [] => none
        | .dup2 => match st with
          | v :: w :: r => if len = 1 ∧ se_cat ds v = 1 ∧ se_cat ds w = 1 then se_go ds M y full tl lv (v :: w :: v :: w :: r) K P L (pc + 1) else none
          | _ => none
        | .getfield _ => se_getf tt ds M P len kd a b st (fun ds M st => se_go ds M y full tl lv st K P L (pc + 3))
        | .putfield _ => se_putf tt W Z tw ds M P L len kd a b st (fun M L st => se_go ds M y full tl lv st K P L (pc + 3))
        | .getstatic _ => match zt (2000 + a) with
          | some n => if len = 3 ∧ (kd = 10 ∨ kd = 11) then se_con (Int32.ofInt (n : Int)) (fun v => se_go ds M y full tl lv (v :: st) K P L (pc + 3)) else none
          | none => match zt a with
            | some t => if len = 3 ∧ (kd = 10 ∨ kd = 11) ∧ a < 1000 then se_new ds (t + 2) 0 0 0 (0, 0, 0) (0, 0, 0) (fun ds v => se_go ds M y full tl lv (v :: st) K P L (pc + 3)) else none
            | none => none
        | .iaload => se_ald tt ds M P ins len st (fun ds M st => se_go ds M y full tl lv st K P L (pc + 1))
        | .baload => se_ald tt ds M P ins len st (fun ds M st => se_go ds M y full tl lv st K P L (pc + 1))
        | .caload => se_ald tt ds M P ins len st (fun ds M st => se_go ds M y full tl lv st K P L (pc + 1))
        | .laload => se_ald tt ds M P ins len st (fun ds M st => se_go ds M y full tl lv st K P L (pc + 1))
        | .aaload => se_spl ds P (se_top st) (se_mixn tt ds st) (fun ds P => se_ald tt ds M P ins len st (fun ds M st => se_go ds M y full tl lv st K P L (pc + 1)))
        | .iastore => se_ast tt W Z tw ds M P L ins len st (fun M L st => se_go ds M y full tl lv st K P L (pc + 1))
        | .bastore => se_ast tt W Z tw ds M P L ins len st (fun M L st => se_go ds M y full tl lv st K P L (pc + 1))
        | .lastore => se_astl tt W Z tw ds M P L len st (fun M L st => se_go ds M y full tl lv st K P L (pc + 1))
        | .arraylength => match st with
          | r :: s => match se_kd ds r with
            | t + 2 => match tt t with
              | (none, _, n, _) => if len = 1 ∧ r.1 = 1 ∧ n < 100000 then se_go ds M y full tl lv ((0, 0, (n : Int)) :: s) K P L (pc + 1) else none
              | _ => none
            | _ => none
          | [] => none
        | .invokestatic _ => if kd = 13 ∨ kd = 14 then (match st with
            | w :: v :: r => if len = 3 ∧ se_kd ds v = 0 ∧ se_kd ds w = 0 ∧ Nat.ble (se_cats ds r) 8 = true then se_bin ds (kd + 3) v w (fun ds v => se_go ds M y full tl lv (v :: r) K P L (pc + 3)) else none
            | _ => none) else if kd = 9 then se_acp tt W Z tw ds M P len st (fun M st => se_go ds M y full tl lv st K P none (pc + 3)) else se_cal tt C W ds M (y, full, cs, lv, st) tl K P L a kd len pc 0
        | .invokevirtual _ => se_cal tt C W ds M (y, full, cs, lv, st) tl K P L a kd len pc 1
        | .ireturn => se_ret ds M y ins len st K P L
        | .areturn => se_ret ds M y ins len st K P L
        | .lreturn => se_ret ds M y ins len st K P L
        | .return_ => se_ret ds M y ins len st K P L
        | _ => none
/-- where a run is to stop: at a return of its own, and at some places in its own code -/
def se_stop (stops : List Nat) (S : se_S) : Bool := match S with
  | (_, _, (_, _, cs, _, _), K, _, _) => match K, cs with
    | [], (pc, ins, _) :: _ => mm_isR ins || stops.any (fun q => Nat.beq q pc)
    | _, _ => false
/-- a step, if it can be done; else the state is left -/
def se_one (S : se_S) : List se_S := match se_step tt C W Z tw zt S with
  | some l => l
  | none => [S]
def se_it (stops : List Nat) : Nat → List se_S → List se_S
  | 0, w => w.flatMap (fun S => if se_stop stops S then [S] else se_one tt C W Z tw zt S)
  | n + 1, w => se_it stops n (se_it stops n w)
end SEE
