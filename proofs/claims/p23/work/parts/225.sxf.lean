/-! ===== printed by wip/gen_fast.py: the step, an instruction a function ===== -/
def sx_f_iconst (n : Int) (kx : Nat) (zs : List mm_Zt) (iv : List (Nat × Nat)) (mem : List sx_C) (y : Nat) (full tl : List sx_I) (lv : List (Option sx_V)) (st : List sx_V) (cb sb : Nat) (K : List sx_F) (pc len kd a b : Nat) (z : Int) : sx_R := if len = 1 then sx_iK (Int32.ofInt n) (fun x => sx_go iv mem y full tl lv (.inl (.int x) :: st) cb sb K (pc + 1)) else none
def sx_f_bipush (n : Int) (kx : Nat) (zs : List mm_Zt) (iv : List (Nat × Nat)) (mem : List sx_C) (y : Nat) (full tl : List sx_I) (lv : List (Option sx_V)) (st : List sx_V) (cb sb : Nat) (K : List sx_F) (pc len kd a b : Nat) (z : Int) : sx_R := if len = 2 then sx_iK (Int8.ofInt n).toInt32 (fun x => sx_go iv mem y full tl lv (.inl (.int x) :: st) cb sb K (pc + 2)) else none
def sx_f_sipush (n : Int) (kx : Nat) (zs : List mm_Zt) (iv : List (Nat × Nat)) (mem : List sx_C) (y : Nat) (full tl : List sx_I) (lv : List (Option sx_V)) (st : List sx_V) (cb sb : Nat) (K : List sx_F) (pc len kd a b : Nat) (z : Int) : sx_R := if len = 3 then sx_iK (Int16.ofInt n).toInt32 (fun x => sx_go iv mem y full tl lv (.inl (.int x) :: st) cb sb K (pc + 3)) else none
def sx_f_lconst (n : Fin 2) (kx : Nat) (zs : List mm_Zt) (iv : List (Nat × Nat)) (mem : List sx_C) (y : Nat) (full tl : List sx_I) (lv : List (Option sx_V)) (st : List sx_V) (cb sb : Nat) (K : List sx_F) (pc len kd a b : Nat) (z : Int) : sx_R := if len = 1 then sx_go iv mem y full tl lv (.inl (.long (Int64.ofNat n)) :: st) cb sb K (pc + 1) else none
def sx_f_iload_n (i : Fin 4) (kx : Nat) (zs : List mm_Zt) (iv : List (Nat × Nat)) (mem : List sx_C) (y : Nat) (full tl : List sx_I) (lv : List (Option sx_V)) (st : List sx_V) (cb sb : Nat) (K : List sx_F) (pc len kd a b : Nat) (z : Int) : sx_R := match sx_ld iv lv i.val with
        | some v => if len = 1 ∧ sx_isI v = true then sx_go iv mem y full tl lv (v :: st) cb sb K (pc + 1) else none
        | none => none
def sx_f_iload (i : Nat) (kx : Nat) (zs : List mm_Zt) (iv : List (Nat × Nat)) (mem : List sx_C) (y : Nat) (full tl : List sx_I) (lv : List (Option sx_V)) (st : List sx_V) (cb sb : Nat) (K : List sx_F) (pc len kd a b : Nat) (z : Int) : sx_R := match sx_ld iv lv i with
        | some v => if len = 2 ∧ sx_isI v = true then sx_go iv mem y full tl lv (v :: st) cb sb K (pc + 2) else none
        | none => none
def sx_f_lload_n (i : Fin 4) (kx : Nat) (zs : List mm_Zt) (iv : List (Nat × Nat)) (mem : List sx_C) (y : Nat) (full tl : List sx_I) (lv : List (Option sx_V)) (st : List sx_V) (cb sb : Nat) (K : List sx_F) (pc len kd a b : Nat) (z : Int) : sx_R := match sx_ld iv lv i.val with
        | some v => if len = 1 ∧ sx_isL v = true then sx_go iv mem y full tl lv (v :: st) cb sb K (pc + 1) else none
        | none => none
def sx_f_lload (i : Nat) (kx : Nat) (zs : List mm_Zt) (iv : List (Nat × Nat)) (mem : List sx_C) (y : Nat) (full tl : List sx_I) (lv : List (Option sx_V)) (st : List sx_V) (cb sb : Nat) (K : List sx_F) (pc len kd a b : Nat) (z : Int) : sx_R := match sx_ld iv lv i with
        | some v => if len = 2 ∧ sx_isL v = true then sx_go iv mem y full tl lv (v :: st) cb sb K (pc + 2) else none
        | none => none
def sx_f_aload_n (i : Fin 4) (kx : Nat) (zs : List mm_Zt) (iv : List (Nat × Nat)) (mem : List sx_C) (y : Nat) (full tl : List sx_I) (lv : List (Option sx_V)) (st : List sx_V) (cb sb : Nat) (K : List sx_F) (pc len kd a b : Nat) (z : Int) : sx_R := match sx_ld iv lv i.val with
        | some (.inl (.ref q)) => if len = 1 then sx_go iv mem y full tl lv (.inl (.ref q) :: st) cb sb K (pc + 1) else none
        | _ => none
def sx_f_aload (i : Nat) (kx : Nat) (zs : List mm_Zt) (iv : List (Nat × Nat)) (mem : List sx_C) (y : Nat) (full tl : List sx_I) (lv : List (Option sx_V)) (st : List sx_V) (cb sb : Nat) (K : List sx_F) (pc len kd a b : Nat) (z : Int) : sx_R := match sx_ld iv lv i with
        | some (.inl (.ref q)) => if len = 2 then sx_go iv mem y full tl lv (.inl (.ref q) :: st) cb sb K (pc + 2) else none
        | _ => none
def sx_f_istore_n (i : Fin 4) (kx : Nat) (zs : List mm_Zt) (iv : List (Nat × Nat)) (mem : List sx_C) (y : Nat) (full tl : List sx_I) (lv : List (Option sx_V)) (st : List sx_V) (cb sb : Nat) (K : List sx_F) (pc len kd a b : Nat) (z : Int) : sx_R := match st with
        | v :: r => if len = 1 ∧ sx_isI v = true ∧ i.val < lv.length then sx_l1K lv i.val v (fun lv => sx_go iv mem y full tl lv r cb sb K (pc + 1)) else none
        | [] => none
def sx_f_istore (i : Nat) (kx : Nat) (zs : List mm_Zt) (iv : List (Nat × Nat)) (mem : List sx_C) (y : Nat) (full tl : List sx_I) (lv : List (Option sx_V)) (st : List sx_V) (cb sb : Nat) (K : List sx_F) (pc len kd a b : Nat) (z : Int) : sx_R := match st with
        | v :: r => if len = 2 ∧ sx_isI v = true ∧ i < lv.length then sx_l1K lv i v (fun lv => sx_go iv mem y full tl lv r cb sb K (pc + 2)) else none
        | [] => none
def sx_f_astore_n (i : Fin 4) (kx : Nat) (zs : List mm_Zt) (iv : List (Nat × Nat)) (mem : List sx_C) (y : Nat) (full tl : List sx_I) (lv : List (Option sx_V)) (st : List sx_V) (cb sb : Nat) (K : List sx_F) (pc len kd a b : Nat) (z : Int) : sx_R := match st with
        | .inl (.ref q) :: r => if len = 1 ∧ i.val < lv.length then sx_l1K lv i.val (.inl (.ref q)) (fun lv => sx_go iv mem y full tl lv r cb sb K (pc + 1)) else none
        | _ => none
def sx_f_astore (i : Nat) (kx : Nat) (zs : List mm_Zt) (iv : List (Nat × Nat)) (mem : List sx_C) (y : Nat) (full tl : List sx_I) (lv : List (Option sx_V)) (st : List sx_V) (cb sb : Nat) (K : List sx_F) (pc len kd a b : Nat) (z : Int) : sx_R := match st with
        | .inl (.ref q) :: r => if len = 2 ∧ i < lv.length then sx_l1K lv i (.inl (.ref q)) (fun lv => sx_go iv mem y full tl lv r cb sb K (pc + 2)) else none
        | _ => none
def sx_f_iinc (i : Nat) (n : Int) (kx : Nat) (zs : List mm_Zt) (iv : List (Nat × Nat)) (mem : List sx_C) (y : Nat) (full tl : List sx_I) (lv : List (Option sx_V)) (st : List sx_V) (cb sb : Nat) (K : List sx_F) (pc len kd a b : Nat) (z : Int) : sx_R := match sx_ld iv lv i with
        | some (.inl (.int x)) => if len = 3 ∧ i < lv.length then sx_iK (x + Int32.ofInt n) (fun x => sx_l1K lv i (.inl (.int x)) (fun lv => sx_go iv mem y full tl lv st cb sb K (pc + 3))) else none
        | _ => none
def sx_f_iadd  (kx : Nat) (zs : List mm_Zt) (iv : List (Nat × Nat)) (mem : List sx_C) (y : Nat) (full tl : List sx_I) (lv : List (Option sx_V)) (st : List sx_V) (cb sb : Nat) (K : List sx_F) (pc len kd a b : Nat) (z : Int) : sx_R := if len = 1 then sx_add st (fun st => sx_go iv mem y full tl lv st cb sb K (pc + 1)) else none
def sx_f_imul  (kx : Nat) (zs : List mm_Zt) (iv : List (Nat × Nat)) (mem : List sx_C) (y : Nat) (full tl : List sx_I) (lv : List (Option sx_V)) (st : List sx_V) (cb sb : Nat) (K : List sx_F) (pc len kd a b : Nat) (z : Int) : sx_R := if len = 1 then sx_b2 (fun x y => x * y) st (fun st => sx_go iv mem y full tl lv st cb sb K (pc + 1)) else none
def sx_f_iand  (kx : Nat) (zs : List mm_Zt) (iv : List (Nat × Nat)) (mem : List sx_C) (y : Nat) (full tl : List sx_I) (lv : List (Option sx_V)) (st : List sx_V) (cb sb : Nat) (K : List sx_F) (pc len kd a b : Nat) (z : Int) : sx_R := if len = 1 then sx_and st (fun st => sx_go iv mem y full tl lv st cb sb K (pc + 1)) else none
def sx_f_idiv  (kx : Nat) (zs : List mm_Zt) (iv : List (Nat × Nat)) (mem : List sx_C) (y : Nat) (full tl : List sx_I) (lv : List (Option sx_V)) (st : List sx_V) (cb sb : Nat) (K : List sx_F) (pc len kd a b : Nat) (z : Int) : sx_R := if len = 1 then sx_div (fun x y => x / y) st (fun st => sx_go iv mem y full tl lv st cb sb K (pc + 1)) else none
def sx_f_irem  (kx : Nat) (zs : List mm_Zt) (iv : List (Nat × Nat)) (mem : List sx_C) (y : Nat) (full tl : List sx_I) (lv : List (Option sx_V)) (st : List sx_V) (cb sb : Nat) (K : List sx_F) (pc len kd a b : Nat) (z : Int) : sx_R := if len = 1 then sx_div (fun x y => x - x / y * y) st (fun st => sx_go iv mem y full tl lv st cb sb K (pc + 1)) else none
def sx_f_ineg  (kx : Nat) (zs : List mm_Zt) (iv : List (Nat × Nat)) (mem : List sx_C) (y : Nat) (full tl : List sx_I) (lv : List (Option sx_V)) (st : List sx_V) (cb sb : Nat) (K : List sx_F) (pc len kd a b : Nat) (z : Int) : sx_R := if len = 1 then sx_u1 (fun x => -x) st (fun st => sx_go iv mem y full tl lv st cb sb K (pc + 1)) else none
def sx_f_i2b  (kx : Nat) (zs : List mm_Zt) (iv : List (Nat × Nat)) (mem : List sx_C) (y : Nat) (full tl : List sx_I) (lv : List (Option sx_V)) (st : List sx_V) (cb sb : Nat) (K : List sx_F) (pc len kd a b : Nat) (z : Int) : sx_R := if len = 1 then sx_u1 (fun x => x.toInt8.toInt32) st (fun st => sx_go iv mem y full tl lv st cb sb K (pc + 1)) else none
def sx_f_i2s  (kx : Nat) (zs : List mm_Zt) (iv : List (Nat × Nat)) (mem : List sx_C) (y : Nat) (full tl : List sx_I) (lv : List (Option sx_V)) (st : List sx_V) (cb sb : Nat) (K : List sx_F) (pc len kd a b : Nat) (z : Int) : sx_R := if len = 1 then sx_u1 (fun x => x.toInt16.toInt32) st (fun st => sx_go iv mem y full tl lv st cb sb K (pc + 1)) else none
def sx_f_land  (kx : Nat) (zs : List mm_Zt) (iv : List (Nat × Nat)) (mem : List sx_C) (y : Nat) (full tl : List sx_I) (lv : List (Option sx_V)) (st : List sx_V) (cb sb : Nat) (K : List sx_F) (pc len kd a b : Nat) (z : Int) : sx_R := if len = 1 then sx_l2 (fun x y => x &&& y) st (fun st => sx_go iv mem y full tl lv st cb sb K (pc + 1)) else none
def sx_f_lor  (kx : Nat) (zs : List mm_Zt) (iv : List (Nat × Nat)) (mem : List sx_C) (y : Nat) (full tl : List sx_I) (lv : List (Option sx_V)) (st : List sx_V) (cb sb : Nat) (K : List sx_F) (pc len kd a b : Nat) (z : Int) : sx_R := if len = 1 then sx_l2 (fun x y => x ||| y) st (fun st => sx_go iv mem y full tl lv st cb sb K (pc + 1)) else none
def sx_f_lshl  (kx : Nat) (zs : List mm_Zt) (iv : List (Nat × Nat)) (mem : List sx_C) (y : Nat) (full tl : List sx_I) (lv : List (Option sx_V)) (st : List sx_V) (cb sb : Nat) (K : List sx_F) (pc len kd a b : Nat) (z : Int) : sx_R := if len = 1 then sx_li (fun x y => x <<< (y.toInt64 &&& 63)) st (fun st => sx_go iv mem y full tl lv st cb sb K (pc + 1)) else none
def sx_f_lshr  (kx : Nat) (zs : List mm_Zt) (iv : List (Nat × Nat)) (mem : List sx_C) (y : Nat) (full tl : List sx_I) (lv : List (Option sx_V)) (st : List sx_V) (cb sb : Nat) (K : List sx_F) (pc len kd a b : Nat) (z : Int) : sx_R := if len = 1 then sx_li (fun x y => x >>> (y.toInt64 &&& 63)) st (fun st => sx_go iv mem y full tl lv st cb sb K (pc + 1)) else none
def sx_f_i2l  (kx : Nat) (zs : List mm_Zt) (iv : List (Nat × Nat)) (mem : List sx_C) (y : Nat) (full tl : List sx_I) (lv : List (Option sx_V)) (st : List sx_V) (cb sb : Nat) (K : List sx_F) (pc len kd a b : Nat) (z : Int) : sx_R := match st with
        | .inl (.int x) :: r => if len = 1 then sx_lK x.toInt64 (fun x => sx_go iv mem y full tl lv (.inl (.long x) :: r) cb sb K (pc + 1)) else none
        | v :: r => if len = 1 ∧ sx_isI v = true then sx_go iv mem y full tl lv (.inr (2, 0) :: r) cb sb K (pc + 1) else none
        | [] => none
def sx_f_l2i  (kx : Nat) (zs : List mm_Zt) (iv : List (Nat × Nat)) (mem : List sx_C) (y : Nat) (full tl : List sx_I) (lv : List (Option sx_V)) (st : List sx_V) (cb sb : Nat) (K : List sx_F) (pc len kd a b : Nat) (z : Int) : sx_R := match st with
        | v :: r => if len = 1 ∧ sx_isL v = true then sx_go iv mem y full tl lv (.inr (1, 0) :: r) cb sb K (pc + 1) else none
        | [] => none
def sx_f_goto (off : Int) (kx : Nat) (zs : List mm_Zt) (iv : List (Nat × Nat)) (mem : List sx_C) (y : Nat) (full tl : List sx_I) (lv : List (Option sx_V)) (st : List sx_V) (cb sb : Nat) (K : List sx_F) (pc len kd a b : Nat) (z : Int) : sx_R := match mm_tgt pc off with
        | some t => if len = 3 then sx_go iv mem y full tl lv st cb sb K t else none
        | none => none
def sx_f_ifCond (cd : Jvm.ClassFile.Cond) (off : Int) (kx : Nat) (zs : List mm_Zt) (iv : List (Nat × Nat)) (mem : List sx_C) (y : Nat) (full tl : List sx_I) (lv : List (Option sx_V)) (st : List sx_V) (cb sb : Nat) (K : List sx_F) (pc len kd a b : Nat) (z : Int) : sx_R := match mm_tgt pc off, st with
        | some t, v :: r => if len = 3 then sx_cmp iv cd (sx_cn iv v) (.inl (.int 0)) (fun iv => sx_go iv mem y full tl lv r cb sb K t) (fun iv => sx_go iv mem y full tl lv r cb sb K (pc + 3)) else none
        | _, _ => none
def sx_f_if_icmp (cd : Jvm.ClassFile.Cond) (off : Int) (kx : Nat) (zs : List mm_Zt) (iv : List (Nat × Nat)) (mem : List sx_C) (y : Nat) (full tl : List sx_I) (lv : List (Option sx_V)) (st : List sx_V) (cb sb : Nat) (K : List sx_F) (pc len kd a b : Nat) (z : Int) : sx_R := match mm_tgt pc off, st with
        | some t, w :: v :: r => if len = 3 then if (sx_any v || sx_any w) && (sx_isI v && (sx_isI w && sx_pat pc t tl)) then sx_go iv mem y full tl lv (.inr (1, 0) :: r) cb sb K (pc + 8) else sx_cmp iv cd (sx_cn iv v) (sx_cn iv w) (fun iv => sx_go iv mem y full tl lv r cb sb K t) (fun iv => sx_go iv mem y full tl lv r cb sb K (pc + 3)) else none
        | _, _ => none
def sx_f_tableswitch (dflt : Int) (lo : Int) (hi : Int) (offs : Array Int) (kx : Nat) (zs : List mm_Zt) (iv : List (Nat × Nat)) (mem : List sx_C) (y : Nat) (full tl : List sx_I) (lv : List (Option sx_V)) (st : List sx_V) (cb sb : Nat) (K : List sx_F) (pc len kd a b : Nat) (z : Int) : sx_R := match st with
        | v :: r => sx_sw iv (sx_cn iv v) dflt lo hi offs (fun off iv => match mm_tgt pc off with
          | some t => sx_go iv mem y full tl lv r cb sb K t
          | none => none)
        | [] => none
def sx_f_dup  (kx : Nat) (zs : List mm_Zt) (iv : List (Nat × Nat)) (mem : List sx_C) (y : Nat) (full tl : List sx_I) (lv : List (Option sx_V)) (st : List sx_V) (cb sb : Nat) (K : List sx_F) (pc len kd a b : Nat) (z : Int) : sx_R := match st with
        | v :: r => if len = 1 ∧ sx_cat v = 1 then sx_go iv mem y full tl lv (v :: v :: r) cb sb K (pc + 1) else none
        | [] => none
def sx_f_pop  (kx : Nat) (zs : List mm_Zt) (iv : List (Nat × Nat)) (mem : List sx_C) (y : Nat) (full tl : List sx_I) (lv : List (Option sx_V)) (st : List sx_V) (cb sb : Nat) (K : List sx_F) (pc len kd a b : Nat) (z : Int) : sx_R := match st with
        | v :: r => if len = 1 ∧ sx_cat v = 1 then sx_go iv mem y full tl lv r cb sb K (pc + 1) else none
        | [] => none
def sx_f_dup2  (kx : Nat) (zs : List mm_Zt) (iv : List (Nat × Nat)) (mem : List sx_C) (y : Nat) (full tl : List sx_I) (lv : List (Option sx_V)) (st : List sx_V) (cb sb : Nat) (K : List sx_F) (pc len kd a b : Nat) (z : Int) : sx_R := match st with
        | v :: w :: r => if len = 1 ∧ sx_cat v = 1 ∧ sx_cat w = 1 then sx_go iv mem y full tl lv (v :: w :: v :: w :: r) cb sb K (pc + 1) else none
        | _ => none
def sx_f_getfield (idx : Nat) (kx : Nat) (zs : List mm_Zt) (iv : List (Nat × Nat)) (mem : List sx_C) (y : Nat) (full tl : List sx_I) (lv : List (Option sx_V)) (st : List sx_V) (cb sb : Nat) (K : List sx_F) (pc len kd a b : Nat) (z : Int) : sx_R := sx_get len kd a b st mem (fun st => sx_go iv mem y full tl lv st cb sb K (pc + 3))
def sx_f_putfield (idx : Nat) (kx : Nat) (zs : List mm_Zt) (iv : List (Nat × Nat)) (mem : List sx_C) (y : Nat) (full tl : List sx_I) (lv : List (Option sx_V)) (st : List sx_V) (cb sb : Nat) (K : List sx_F) (pc len kd a b : Nat) (z : Int) : sx_R := sx_put (sx_fi y).1 kx (sx_fi y).2.2.2 len kd a b st mem (fun mem st => sx_go iv mem y full tl lv st cb sb K (pc + 3))
def sx_f_arraylength  (kx : Nat) (zs : List mm_Zt) (iv : List (Nat × Nat)) (mem : List sx_C) (y : Nat) (full tl : List sx_I) (lv : List (Option sx_V)) (st : List sx_V) (cb sb : Nat) (K : List sx_F) (pc len kd a b : Nat) (z : Int) : sx_R := match st with
        | .inl (.ref q) :: r => match mem[q]? with
          | some (.inl (ty, n, df, up)) => if len = 1 then sx_iK (Int32.ofNat n) (fun x => sx_go iv mem y full tl lv (.inl (.int x) :: r) cb sb K (pc + 1)) else none
          | _ => none
        | _ => none
def sx_f_ldc (idx : Nat) (kx : Nat) (zs : List mm_Zt) (iv : List (Nat × Nat)) (mem : List sx_C) (y : Nat) (full tl : List sx_I) (lv : List (Option sx_V)) (st : List sx_V) (cb sb : Nat) (K : List sx_F) (pc len kd a b : Nat) (z : Int) : sx_R := if len = 2 ∧ kd = 6 then sx_iK (Int32.ofInt z) (fun x => sx_go iv mem y full tl lv (.inl (.int x) :: st) cb sb K (pc + 2)) else none
def sx_f_ldc_w (idx : Nat) (kx : Nat) (zs : List mm_Zt) (iv : List (Nat × Nat)) (mem : List sx_C) (y : Nat) (full tl : List sx_I) (lv : List (Option sx_V)) (st : List sx_V) (cb sb : Nat) (K : List sx_F) (pc len kd a b : Nat) (z : Int) : sx_R := if len = 3 ∧ kd = 6 then sx_iK (Int32.ofInt z) (fun x => sx_go iv mem y full tl lv (.inl (.int x) :: st) cb sb K (pc + 3)) else none
def sx_f_ldc2_w (idx : Nat) (kx : Nat) (zs : List mm_Zt) (iv : List (Nat × Nat)) (mem : List sx_C) (y : Nat) (full tl : List sx_I) (lv : List (Option sx_V)) (st : List sx_V) (cb sb : Nat) (K : List sx_F) (pc len kd a b : Nat) (z : Int) : sx_R := if len = 3 ∧ kd = 7 then sx_lK (Int64.ofInt z) (fun x => sx_go iv mem y full tl lv (.inl (.long x) :: st) cb sb K (pc + 3)) else none
def sx_f_getstatic (idx : Nat) (kx : Nat) (zs : List mm_Zt) (iv : List (Nat × Nat)) (mem : List sx_C) (y : Nat) (full tl : List sx_I) (lv : List (Option sx_V)) (st : List sx_V) (cb sb : Nat) (K : List sx_F) (pc len kd a b : Nat) (z : Int) : sx_R := match mm_sts[a]? with
        | some q => match zs.find? (fun t => decide (t.1 = q.1 ∧ t.2.1 = q.2.1 ∧ t.2.2.1 = q.2.2)) with
          | some t => if len = 3 ∧ (kd = 10 ∨ kd = 11) then sx_go iv mem y full tl lv (.inl t.2.2.2 :: st) cb sb K (pc + 3) else none
          | none => none
        | none => none
def sx_f_new (idx : Nat) (kx : Nat) (zs : List mm_Zt) (iv : List (Nat × Nat)) (mem : List sx_C) (y : Nat) (full tl : List sx_I) (lv : List (Option sx_V)) (st : List sx_V) (cb sb : Nat) (K : List sx_F) (pc len kd a b : Nat) (z : Int) : sx_R := match vwCl[a]? with
        | some q => if len = 3 ∧ kd = 4 ∧ 1 ≤ cb ∧ q.2.2 ≤ sb then sx_nK mem.length (fun n => sx_nK (cb - 1) (fun cb => sx_nK (sb - q.2.2) (fun sb => sx_appK mem (.inr (a, (List.range q.2.2).map (fun k => .inl (defaultValue (mm_ty a k))))) (fun mem => sx_go iv mem y full tl lv (.inl (.ref n) :: st) cb sb K (pc + 3))))) else none
        | none => none
def sx_f_newarray (at_ : ArrayType) (kx : Nat) (zs : List mm_Zt) (iv : List (Nat × Nat)) (mem : List sx_C) (y : Nat) (full tl : List sx_I) (lv : List (Option sx_V)) (st : List sx_V) (cb sb : Nat) (K : List sx_F) (pc len kd a b : Nat) (z : Int) : sx_R := match st with
        | .inl (.int n) :: r => if len = 2 ∧ (newarray.typeOf at_ = .int ∨ newarray.typeOf at_ = .long ∨ newarray.typeOf at_ = .byte ∨ newarray.typeOf at_ = .char ∨ newarray.typeOf at_ = .boolean) ∧ ¬ n < 0 ∧ n.toNatClampNeg ≤ 10000 ∧ 1 ≤ cb ∧ n.toNatClampNeg ≤ sb then sx_nK mem.length (fun q => sx_nK n.toNatClampNeg (fun n => sx_nK (cb - 1) (fun cb => sx_nK (sb - n) (fun sb => sx_appK mem (.inl (newarray.typeOf at_, n, .inl (defaultValue (newarray.typeOf at_)), [])) (fun mem => sx_go iv mem y full tl lv (.inl (.ref q) :: r) cb sb K (pc + 2)))))) else none
        | _ => none
def sx_f_anewarray (idx : Nat) (kx : Nat) (zs : List mm_Zt) (iv : List (Nat × Nat)) (mem : List sx_C) (y : Nat) (full tl : List sx_I) (lv : List (Option sx_V)) (st : List sx_V) (cb sb : Nat) (K : List sx_F) (pc len kd a b : Nat) (z : Int) : sx_R := match st with
        | .inl (.int n) :: r => match vwCl[a]? with
          | some q => if len = 3 ∧ kd = 4 ∧ (q.1 = "RaftTown$Raft" ∨ q.1 = "RaftTown$Person" ∨ q.1 = "RaftTown$Rope" ∨ q.1 = "RaftTown$Text" ∨ q.1 = "RaftTown$Sheet") ∧ ¬ n < 0 ∧ n.toNatClampNeg ≤ 10000 ∧ 1 ≤ cb ∧ n.toNatClampNeg ≤ sb then sx_nK mem.length (fun p => sx_nK n.toNatClampNeg (fun n => sx_nK (cb - 1) (fun cb => sx_nK (sb - n) (fun sb => sx_appK mem (.inl (.object q.1, n, .inl .null, [])) (fun mem => sx_go iv mem y full tl lv (.inl (.ref p) :: r) cb sb K (pc + 3)))))) else none
          | none => none
        | _ => none
def sx_f_invokevirtual (idx : Nat) (kx : Nat) (zs : List mm_Zt) (iv : List (Nat × Nat)) (mem : List sx_C) (y : Nat) (full tl : List sx_I) (lv : List (Option sx_V)) (st : List sx_V) (cb sb : Nat) (K : List sx_F) (pc len kd a b : Nat) (z : Int) : sx_R := sx_cal a (iv, mem, (y, full, (pc, (.invokevirtual idx), len, kd, a, b, z) :: tl, lv, st, cb, sb), K) kd len 1 pc tl
def sx_f_invokespecial (idx : Nat) (kx : Nat) (zs : List mm_Zt) (iv : List (Nat × Nat)) (mem : List sx_C) (y : Nat) (full tl : List sx_I) (lv : List (Option sx_V)) (st : List sx_V) (cb sb : Nat) (K : List sx_F) (pc len kd a b : Nat) (z : Int) : sx_R := if kd = 8 then (match st with
          | .inl (.ref _) :: r => if len = 3 ∧ sx_cats r ≤ 8 then sx_go iv mem y full tl lv r cb sb K (pc + 3) else none
          | _ => none) else sx_cal a (iv, mem, (y, full, (pc, (.invokespecial idx), len, kd, a, b, z) :: tl, lv, st, cb, sb), K) kd len 2 pc tl
def sx_f_invokestatic (idx : Nat) (kx : Nat) (zs : List mm_Zt) (iv : List (Nat × Nat)) (mem : List sx_C) (y : Nat) (full tl : List sx_I) (lv : List (Option sx_V)) (st : List sx_V) (cb sb : Nat) (K : List sx_F) (pc len kd a b : Nat) (z : Int) : sx_R := if kd = 13 then (match st with
          | .inl (.int v) :: .inl (.int u) :: r => if len = 3 ∧ sx_cats r ≤ 8 then sx_iK (if u < v then v else u) (fun x => sx_go iv mem y full tl lv (.inl (.int x) :: r) cb sb K (pc + 3)) else none
          | _ => none)
        else if kd = 14 then (match st with
          | .inl (.int v) :: .inl (.int u) :: r => if len = 3 ∧ sx_cats r ≤ 8 then sx_iK (if v < u then v else u) (fun x => sx_go iv mem y full tl lv (.inl (.int x) :: r) cb sb K (pc + 3)) else none
          | _ => none)
        else if kd = 9 then (match st with
          | .inl (.int n) :: .inl (.int dp) :: .inl (.ref d) :: .inl (.int sp) :: .inl (.ref s) :: r => match mem[s]?, mem[d]? with
            | some (.inl (ty, m, df, up)), some (.inl (ty', m', df', up')) => if len = 3 ∧ sx_cats r ≤ 8 ∧ Nat.ble kx s = true ∧ Nat.ble kx d = true ∧ ty = .int ∧ ty' = .int ∧ sp = 0 ∧ dp = 0 ∧ ¬ n < 0 ∧ n.toNatClampNeg = m ∧ m' = m ∧ sx_isI df = true ∧ up.all (fun e => sx_isI e.2) = true then sx_setK mem d (.inl (ty, m, df, up)) (fun mem => sx_go iv mem y full tl lv r cb sb K (pc + 3)) else none
            | _, _ => none
          | _ => none)
        else sx_cal a (iv, mem, (y, full, (pc, (.invokestatic idx), len, kd, a, b, z) :: tl, lv, st, cb, sb), K) kd len 0 pc tl
def sx_f_ireturn  (kx : Nat) (zs : List mm_Zt) (iv : List (Nat × Nat)) (mem : List sx_C) (y : Nat) (full tl : List sx_I) (lv : List (Option sx_V)) (st : List sx_V) (cb sb : Nat) (K : List sx_F) (pc len kd a b : Nat) (z : Int) : sx_R := sx_ret iv mem y (.ireturn) len st K
def sx_f_areturn  (kx : Nat) (zs : List mm_Zt) (iv : List (Nat × Nat)) (mem : List sx_C) (y : Nat) (full tl : List sx_I) (lv : List (Option sx_V)) (st : List sx_V) (cb sb : Nat) (K : List sx_F) (pc len kd a b : Nat) (z : Int) : sx_R := sx_ret iv mem y (.areturn) len st K
def sx_f_return_  (kx : Nat) (zs : List mm_Zt) (iv : List (Nat × Nat)) (mem : List sx_C) (y : Nat) (full tl : List sx_I) (lv : List (Option sx_V)) (st : List sx_V) (cb sb : Nat) (K : List sx_F) (pc len kd a b : Nat) (z : Int) : sx_R := sx_ret iv mem y (.return_) len st K
def sx_f_iaload  (kx : Nat) (zs : List mm_Zt) (iv : List (Nat × Nat)) (mem : List sx_C) (y : Nat) (full tl : List sx_I) (lv : List (Option sx_V)) (st : List sx_V) (cb sb : Nat) (K : List sx_F) (pc len kd a b : Nat) (z : Int) : sx_R := sx_ald (iv, mem, (y, full, (pc, (.iaload), len, kd, a, b, z) :: tl, lv, st, cb, sb), K) (.iaload) len st mem (fun st => sx_go iv mem y full tl lv st cb sb K (pc + 1))
def sx_f_caload  (kx : Nat) (zs : List mm_Zt) (iv : List (Nat × Nat)) (mem : List sx_C) (y : Nat) (full tl : List sx_I) (lv : List (Option sx_V)) (st : List sx_V) (cb sb : Nat) (K : List sx_F) (pc len kd a b : Nat) (z : Int) : sx_R := sx_ald (iv, mem, (y, full, (pc, (.caload), len, kd, a, b, z) :: tl, lv, st, cb, sb), K) (.caload) len st mem (fun st => sx_go iv mem y full tl lv st cb sb K (pc + 1))
def sx_f_baload  (kx : Nat) (zs : List mm_Zt) (iv : List (Nat × Nat)) (mem : List sx_C) (y : Nat) (full tl : List sx_I) (lv : List (Option sx_V)) (st : List sx_V) (cb sb : Nat) (K : List sx_F) (pc len kd a b : Nat) (z : Int) : sx_R := sx_ald (iv, mem, (y, full, (pc, (.baload), len, kd, a, b, z) :: tl, lv, st, cb, sb), K) (.baload) len st mem (fun st => sx_go iv mem y full tl lv st cb sb K (pc + 1))
def sx_f_aaload  (kx : Nat) (zs : List mm_Zt) (iv : List (Nat × Nat)) (mem : List sx_C) (y : Nat) (full tl : List sx_I) (lv : List (Option sx_V)) (st : List sx_V) (cb sb : Nat) (K : List sx_F) (pc len kd a b : Nat) (z : Int) : sx_R := sx_ald (iv, mem, (y, full, (pc, (.aaload), len, kd, a, b, z) :: tl, lv, st, cb, sb), K) (.aaload) len st mem (fun st => sx_go iv mem y full tl lv st cb sb K (pc + 1))
def sx_f_iastore  (kx : Nat) (zs : List mm_Zt) (iv : List (Nat × Nat)) (mem : List sx_C) (y : Nat) (full tl : List sx_I) (lv : List (Option sx_V)) (st : List sx_V) (cb sb : Nat) (K : List sx_F) (pc len kd a b : Nat) (z : Int) : sx_R := sx_ast (iv, mem, (y, full, (pc, (.iastore), len, kd, a, b, z) :: tl, lv, st, cb, sb), K) kx (.iastore) len st mem (fun mem st => sx_go iv mem y full tl lv st cb sb K (pc + 1))
def sx_f_castore  (kx : Nat) (zs : List mm_Zt) (iv : List (Nat × Nat)) (mem : List sx_C) (y : Nat) (full tl : List sx_I) (lv : List (Option sx_V)) (st : List sx_V) (cb sb : Nat) (K : List sx_F) (pc len kd a b : Nat) (z : Int) : sx_R := sx_ast (iv, mem, (y, full, (pc, (.castore), len, kd, a, b, z) :: tl, lv, st, cb, sb), K) kx (.castore) len st mem (fun mem st => sx_go iv mem y full tl lv st cb sb K (pc + 1))
def sx_f_bastore  (kx : Nat) (zs : List mm_Zt) (iv : List (Nat × Nat)) (mem : List sx_C) (y : Nat) (full tl : List sx_I) (lv : List (Option sx_V)) (st : List sx_V) (cb sb : Nat) (K : List sx_F) (pc len kd a b : Nat) (z : Int) : sx_R := sx_ast (iv, mem, (y, full, (pc, (.bastore), len, kd, a, b, z) :: tl, lv, st, cb, sb), K) kx (.bastore) len st mem (fun mem st => sx_go iv mem y full tl lv st cb sb K (pc + 1))
def sx_f_aastore  (kx : Nat) (zs : List mm_Zt) (iv : List (Nat × Nat)) (mem : List sx_C) (y : Nat) (full tl : List sx_I) (lv : List (Option sx_V)) (st : List sx_V) (cb sb : Nat) (K : List sx_F) (pc len kd a b : Nat) (z : Int) : sx_R := sx_asta (iv, mem, (y, full, (pc, (.aastore), len, kd, a, b, z) :: tl, lv, st, cb, sb), K) kx len st mem (fun mem st => sx_go iv mem y full tl lv st cb sb K (pc + 1))
def sx_f_isub (kx : Nat) (zs : List mm_Zt) (iv : List (Nat × Nat)) (mem : List sx_C) (y : Nat) (full tl : List sx_I) (lv : List (Option sx_V)) (st : List sx_V) (cb sb : Nat) (K : List sx_F) (pc len kd a b : Nat) (z : Int) : sx_R := if len = 1 then sx_b2 (fun x y => x - y) st (fun st => sx_go iv mem y full tl lv st cb sb K (pc + 1)) else none
def sx_f_ior (kx : Nat) (zs : List mm_Zt) (iv : List (Nat × Nat)) (mem : List sx_C) (y : Nat) (full tl : List sx_I) (lv : List (Option sx_V)) (st : List sx_V) (cb sb : Nat) (K : List sx_F) (pc len kd a b : Nat) (z : Int) : sx_R := if len = 1 then sx_b2 (fun x y => x ||| y) st (fun st => sx_go iv mem y full tl lv st cb sb K (pc + 1)) else none
def sx_f_ixor (kx : Nat) (zs : List mm_Zt) (iv : List (Nat × Nat)) (mem : List sx_C) (y : Nat) (full tl : List sx_I) (lv : List (Option sx_V)) (st : List sx_V) (cb sb : Nat) (K : List sx_F) (pc len kd a b : Nat) (z : Int) : sx_R := if len = 1 then sx_b2 (fun x y => x ^^^ y) st (fun st => sx_go iv mem y full tl lv st cb sb K (pc + 1)) else none
def sx_f_ishl (kx : Nat) (zs : List mm_Zt) (iv : List (Nat × Nat)) (mem : List sx_C) (y : Nat) (full tl : List sx_I) (lv : List (Option sx_V)) (st : List sx_V) (cb sb : Nat) (K : List sx_F) (pc len kd a b : Nat) (z : Int) : sx_R := if len = 1 then sx_b2 (fun x y => x <<< (y &&& 31)) st (fun st => sx_go iv mem y full tl lv st cb sb K (pc + 1)) else none
def sx_f_ishr (kx : Nat) (zs : List mm_Zt) (iv : List (Nat × Nat)) (mem : List sx_C) (y : Nat) (full tl : List sx_I) (lv : List (Option sx_V)) (st : List sx_V) (cb sb : Nat) (K : List sx_F) (pc len kd a b : Nat) (z : Int) : sx_R := if len = 1 then sx_b2 (fun x y => x >>> (y &&& 31)) st (fun st => sx_go iv mem y full tl lv st cb sb K (pc + 1)) else none
def sx_f_iushr (kx : Nat) (zs : List mm_Zt) (iv : List (Nat × Nat)) (mem : List sx_C) (y : Nat) (full tl : List sx_I) (lv : List (Option sx_V)) (st : List sx_V) (cb sb : Nat) (K : List sx_F) (pc len kd a b : Nat) (z : Int) : sx_R := if len = 1 then sx_b2 (fun x y => (x.toUInt32 >>> (y.toUInt32 &&& Int32.toUInt32 31)).toInt32) st (fun st => sx_go iv mem y full tl lv st cb sb K (pc + 1)) else none
abbrev sx_Ot : Type := Nat → List mm_Zt → List (Nat × Nat) → List sx_C → Nat → List sx_I → List sx_I → List (Option sx_V) → List sx_V → Nat → Nat → List sx_F → Nat → Nat → Nat → Nat → Nat → Int → sx_R
def sx_f_no : sx_Ot := fun _ _ _ _ _ _ _ _ _ _ _ _ _ _ _ _ _ _ => none
def sx_op (ins : Instr) : sx_Ot := match ins with
  | .iconst n => sx_f_iconst n
  | .bipush n => sx_f_bipush n
  | .sipush n => sx_f_sipush n
  | .lconst n => sx_f_lconst n
  | .iload_n i => sx_f_iload_n i
  | .iload i => sx_f_iload i
  | .lload_n i => sx_f_lload_n i
  | .lload i => sx_f_lload i
  | .aload_n i => sx_f_aload_n i
  | .aload i => sx_f_aload i
  | .istore_n i => sx_f_istore_n i
  | .istore i => sx_f_istore i
  | .astore_n i => sx_f_astore_n i
  | .astore i => sx_f_astore i
  | .iinc i n => sx_f_iinc i n
  | .iadd => sx_f_iadd 
  | .imul => sx_f_imul 
  | .iand => sx_f_iand 
  | .idiv => sx_f_idiv 
  | .irem => sx_f_irem 
  | .ineg => sx_f_ineg 
  | .i2b => sx_f_i2b 
  | .i2s => sx_f_i2s 
  | .land => sx_f_land 
  | .lor => sx_f_lor 
  | .lshl => sx_f_lshl 
  | .lshr => sx_f_lshr 
  | .i2l => sx_f_i2l 
  | .l2i => sx_f_l2i 
  | .goto off => sx_f_goto off
  | .ifCond cd off => sx_f_ifCond cd off
  | .if_icmp cd off => sx_f_if_icmp cd off
  | .tableswitch dflt lo hi offs => sx_f_tableswitch dflt lo hi offs
  | .dup => sx_f_dup 
  | .pop => sx_f_pop 
  | .dup2 => sx_f_dup2 
  | .getfield idx => sx_f_getfield idx
  | .putfield idx => sx_f_putfield idx
  | .arraylength => sx_f_arraylength 
  | .ldc idx => sx_f_ldc idx
  | .ldc_w idx => sx_f_ldc_w idx
  | .ldc2_w idx => sx_f_ldc2_w idx
  | .getstatic idx => sx_f_getstatic idx
  | .new idx => sx_f_new idx
  | .newarray at_ => sx_f_newarray at_
  | .anewarray idx => sx_f_anewarray idx
  | .invokevirtual idx => sx_f_invokevirtual idx
  | .invokespecial idx => sx_f_invokespecial idx
  | .invokestatic idx => sx_f_invokestatic idx
  | .ireturn => sx_f_ireturn 
  | .areturn => sx_f_areturn 
  | .return_ => sx_f_return_ 
  | .iaload => sx_f_iaload 
  | .caload => sx_f_caload 
  | .baload => sx_f_baload 
  | .aaload => sx_f_aaload 
  | .iastore => sx_f_iastore 
  | .castore => sx_f_castore 
  | .bastore => sx_f_bastore 
  | .aastore => sx_f_aastore 
  | .isub => sx_f_isub
  | .ior => sx_f_ior
  | .ixor => sx_f_ixor
  | .ishl => sx_f_ishl
  | .ishr => sx_f_ishr
  | .iushr => sx_f_iushr
  | _ => sx_f_no
def sx_stepF (kx : Nat) (zs : List mm_Zt) (S : sx_S) : sx_R := match S with
  | (iv, mem, (y, full, cs, lv, st, cb, sb), K) => match cs with
    | [] => none
    | (pc, ins, len, kd, a, b, z) :: tl => sx_op ins kx zs iv mem y full tl lv st cb sb K pc len kd a b z
set_option maxHeartbeats 4000000 in
theorem sx_stepF_eq (kx : Nat) (zs : List mm_Zt) (S : sx_S) : sx_stepF kx zs S = sx_step kx zs S := by
  obtain ⟨iv, mem, ⟨y, full, cs, lv, st, cb, sb⟩, K⟩ := S
  cases cs with
  | nil => rfl
  | cons e tl =>
    obtain ⟨pc, ins, len, kd, a, b, z⟩ := e
    cases ins <;> rfl
/-- 2^k steps over the ways that are left -/
def sx_itF (kx : Nat) (zs : List mm_Zt) : Nat → List sx_S → sx_R
  | 0, [] => some []
  | 0, S :: r => match sx_stepF kx zs S with
    | some l => some (l ++ r)
    | none => none
  | k + 1, w => match sx_itF kx zs k w with
    | some [] => some []
    | some (S :: r) => sx_itF kx zs k (S :: r)
    | none => none
theorem sx_itF_eq (kx : Nat) (zs : List mm_Zt) : ∀ (k : Nat) (w : List sx_S), sx_itF kx zs k w = sx_it kx zs k w := by
  intro k
  induction k with
  | zero =>
    intro w
    cases w with
    | nil => rfl
    | cons S r =>
      simp only [sx_itF, sx_it, sx_stepF_eq]
      cases sx_step kx zs S <;> rfl
  | succ k ih =>
    intro w
    simp only [sx_itF, sx_it, ih]
    cases sx_it kx zs k w with
    | none => rfl
    | some l => cases l <;> rfl
