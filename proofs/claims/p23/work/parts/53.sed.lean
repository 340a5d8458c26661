/-! ===== runs from cut to cut: memory, calls, the step ===== -/
/-- what may be changed: a type, from which slot, up to which -/
abbrev se_W : Type := List (Nat × Nat × Nat)
/-- where a node's unknown comes from: 0 a local, 1 a place of the memory, 2 an op, 3 one of the entry's -/
abbrev se_Sr : Type := Nat × se_V × se_V
abbrev se_T : Type := List (se_D × se_Sr)
/-- an exit: unknowns more, the answer, what is known of the memory, facts -/
abbrev se_E : Type := se_T × Option se_V × se_M × se_P
/-- unknowns, locals, memory, facts -/
abbrev se_N : Type := se_T × List (Option se_V) × se_M × se_P
/-- a contract: the method and its level; its start; its exits; what it may change -/
abbrev se_C : Type := (Nat × Nat) × se_N × List se_E × se_W
def se_find (M : se_M) (r i : se_V) : Option se_V := match M with
  | [] => none
  | e :: t => if se_eq e.1 r && se_eq e.2.1 i then some e.2.2 else se_find t r i
def se_flt {α β : Type} (p : α → Bool) (l : List α) (k : List α → β) : β := match l with
  | [] => k []
  | a :: t => match p a with
    | true => se_flt p t (fun t => k (a :: t))
    | false => se_flt p t k
/-- a value is of a kind -/
def se_is (ds : List se_D) (v : se_V) (κ : se_K) : Bool := match κ.1 with
  | 0 => Nat.beq (se_kd ds v) 0 && (match se_rg ds v with
    | (l, h) => se_le κ.2.1 l && se_le h κ.2.2)
  | k => Nat.beq (se_kd ds v) k && decide (v.1 = 1)
def se_isP (ds : List se_D) (P : se_P) (v : se_V) (κ : se_K) : Bool := se_is ds v κ || (Nat.beq κ.1 0 && (se_lub ds P (0, 0, κ.2.1) v 0 && se_lub ds P v (0, 0, κ.2.2) 0))
def se_jn (a b : se_K) : Option se_K := if Nat.beq a.1 0 && Nat.beq b.1 0 then some (0, se_min a.2.1 b.2.1, se_max a.2.2 b.2.2) else if Nat.beq a.1 b.1 then some a else none
def se_js (segs : List (Nat × Nat × List se_K)) (κ : se_K) : List Nat → Option se_K
  | [] => some κ
  | i :: t => match se_jn κ (se_seg segs i) with
    | some κ' => se_js segs κ' t
    | none => none
/-- all that an index can be -/
def se_ixs (ds : List se_D) (v : se_V) : Option (List Nat) := if v.1 = 0 then some [v.2.2.toNat] else match ds[v.2.1]? with
  | some d => if se_le (d.1.2.2 - d.1.2.1) 256 then some ((List.range (d.1.2.2 - d.1.2.1 + 1).toNat).map (fun j : Nat => (v.1 * (d.1.2.1 + (j : Int)) + v.2.2).toNat)) else none
  | none => none
def se_flat (n : Nat) (segs : List (Nat × Nat × List se_K)) : Option se_K := match segs with
  | [(0, b, [κ])] => if Nat.ble n b then some κ else none
  | _ => none
def se_nn (ds : List se_D) (i : se_V) : Bool := match se_rg ds i with
  | (l, _) => se_le 0 l
/-- an index is surely within -/
def se_ix (ds : List se_D) (P : se_P) (n : Nat) (i : se_V) : Bool := Nat.beq (se_kd ds i) 0 && ((match se_rg ds i with
  | (l, h) => se_le 0 l && decide (h < n)) || (se_lub ds P (0, 0, 0) i 0 && se_lub ds P i (0, 0, (n : Int) - 1) 0))
def se_lk (ds : List se_D) (n : Nat) (segs : List (Nat × Nat × List se_K)) (i : se_V) : Option se_K := match se_flat n segs with
  | some κ => some κ
  | none => match se_nn ds i, se_ixs ds i with
    | true, some (j :: js) => se_js segs (se_seg segs j) js
    | _, _ => if segs.all (fun e => e.2.2.all (fun κ => Nat.beq κ.1 0)) then some se_any else none
def se_sk (ds : List se_D) (P : se_P) (n : Nat) (segs : List (Nat × Nat × List se_K)) (i v : se_V) : Bool := match se_flat n segs with
  | some κ => se_isP ds P v κ
  | none => match se_nn ds i, se_ixs ds i with
    | true, some js => js.all (fun j => se_isP ds P v (se_seg segs j))
    | _, _ => false
/-- two places that are surely two -/
def se_apart (ds : List se_D) (r i : se_V) (e : se_V × se_V × se_V) : Bool := !(Nat.beq (se_kd ds r) (se_kd ds e.1)) || (match se_rg ds i, se_rg ds e.2.1 with
  | (l1, h1), (l2, h2) => decide (h1 < l2) || decide (h2 < l1))
def se_nar (ty : FieldType) (l h : Int) : Bool := match ty with
  | .int => true
  | .boolean => se_le 0 l && se_le h 1
  | .byte => se_le (-128) l && se_le h 127
  | .char => se_le 0 l && se_le h 65535
  | _ => false
/-- a slot is among what may be changed -/
def se_has (W : se_W) (ds : List se_D) (t n : Nat) (i : se_V) : Bool := W.any (fun u => Nat.beq u.1 t && ((Nat.beq u.2.1 0 && Nat.ble n u.2.2) || (match se_rg ds i with
  | (l, h) => se_le u.2.1 l && decide (h < u.2.2))))
/-- a slot is surely none of some -/
def se_out (Z : se_W) (ds : List se_D) (t : Nat) (i : se_V) : Bool := Z.all (fun u => !(Nat.beq u.1 t) || (match se_rg ds i with
  | (l, h) => decide (h < u.2.1) || se_le u.2.2 l))
/-! substitution: a node's value among a state's unknowns -/
def se_sb {β : Type} (σ : List se_V) (v : se_V) (z : β) (k : se_V → β) : β := if v.1 = 0 then k v else match σ[v.2.1]? with
  | some w => se_vK (v.1 * w.1) w.2.1 (v.1 * w.2.2 + v.2.2) k
  | none => z
def se_eqs (σ : List se_V) (v w : se_V) : Bool := se_sb σ v false (fun v => se_eq v w)
def se_lvq (σ : List se_V) : List (Option se_V) → List (Option se_V) → Bool
  | [], _ => true
  | none :: t, l => se_lvq σ t l.tail
  | some v :: t, some w :: l => se_eqs σ v w && se_lvq σ t l
  | some _ :: _, _ => false
def se_Mq (σ : List se_V) (M : se_M) : se_M → Bool
  | [] => true
  | e :: t => se_sb σ e.1 false (fun r => se_sb σ e.2.1 false (fun i => match se_find M r i with
    | some w => se_eqs σ e.2.2 w
    | none => false)) && se_Mq σ M t
def se_ent (ds : List se_D) (P : se_P) (c : Jvm.ClassFile.Cond) (x y : se_V) : Bool := match c with
  | .le => se_lub ds P x y 0
  | .lt => se_lub ds P x y 1
  | .ge => se_lub ds P y x 0
  | .gt => se_lub ds P y x 1
  | .eq => se_lub ds P x y 0 && se_lub ds P y x 0
  | .ne => se_lub ds P x y 1 || se_lub ds P y x 1
def se_Pq (ds : List se_D) (P : se_P) (σ : List se_V) : se_P → Bool
  | [] => true
  | e :: t => se_sb σ e.2.1 false (fun x => se_sb σ e.2.2 false (fun y => se_ent ds P e.1 x y)) && se_Pq ds P σ t
/-- a sum or a difference that another one is all but for a number: x + (y + c) by x + y, (x + y) + c - x by y -/
def se_fd2 (ds : List se_D) (o : Nat) (x y : se_V) : Option se_V := match o with
  | 1 => if y.1 = 1 then match se_fdd 1 x (1, y.2.1, 0) ds 0 with
    | some n => some (1, n, y.2.2)
    | none => none
    else none
  | 2 => if x.1 = 1 then match ds[x.2.1]? with
    | some (_, 1, a, b) => if se_eq a y then some (b.1, b.2.1, b.2.2 + x.2.2) else none
    | _ => none
    else none
  | _ => none
def se_cse (ds : List se_D) (o : Nat) (x y : se_V) (k : List se_D → se_V → se_R) : se_R := if Nat.beq (se_kd ds x) 0 && Nat.beq (se_kd ds y) 0 && (Nat.ble 1 o && Nat.ble o 17) then match se_fdd o x y ds 0 with
    | some n => sx_nK n (fun n => k ds (1, n, 0))
    | none => match se_fd2 ds o x y with
      | some v => se_vK v.1 v.2.1 v.2.2 (fun v => k ds v)
      | none => se_bin ds o x y k
  else none
section SED
variable (tt : Nat → se_Ty) (C : List se_C) (W Z : se_W) (tw : Nat)
def se_go (ds : List se_D) (M : se_M) (y : Nat) (full tl : List sx_I) (lv : List (Option se_V)) (st : List se_V) (K : List se_F) (P : se_P) (L : Option se_M) (pc : Nat) : se_R := sx_nK pc (fun pc => sx_nx tl full pc (fun cs => some [(ds, M, (y, full, cs, lv, st), K, P, L)]))
def se_ld (lv : List (Option se_V)) (i : Nat) : Option se_V := match lv[i]? with
  | some (some v) => some v
  | _ => none
def se_l1K {β : Type} (ds : List se_D) (lv : List (Option se_V)) (i : Nat) (v : se_V) (k : List (Option se_V) → β) : β := match i with
  | 0 => sx_setK lv 0 (some v) k
  | i + 1 => match lv[i]? with
    | some (some w) => if Nat.beq (se_kd ds w) 1 then sx_setK lv i none (fun lv => sx_setK lv (i + 1) (some v) k) else sx_setK lv (i + 1) (some v) k
    | _ => sx_setK lv (i + 1) (some v) k
def se_l2K {β : Type} (ds : List se_D) (lv : List (Option se_V)) (i : Nat) (v : se_V) (k : List (Option se_V) → β) : β := se_l1K ds lv i v (fun lv => sx_setK lv (i + 1) none k)
/-- a slot of a type read at a place -/
def se_load (ds : List se_D) (M : se_M) (P : se_P) (n : Nat) (segs : List (Nat × Nat × List se_K)) (r i : se_V) (k : List se_D → se_M → se_V → se_R) : se_R := if se_ix ds P n i then match se_find M r i with
    | some v => k ds M v
    | none => match se_lk ds n segs i with
      | some κ => se_new ds κ.1 κ.2.1 κ.2.2 0 (0, 0, 0) (0, 0, 0) (fun ds v => k ds ((r, i, v) :: M) v)
      | none => none
    else none
def se_store (ds : List se_D) (M : se_M) (P : se_P) (L : Option se_M) (n : Nat) (segs : List (Nat × Nat × List se_K)) (r i v : se_V) (k : se_M → Option se_M → se_R) : se_R := if se_ix ds P n i && (se_has W ds (se_kd ds r - 2) n i && (se_out Z ds (se_kd ds r - 2) i && (Nat.ble tw (se_kd ds r - 2) && se_sk ds P n segs i v))) then se_flt (se_apart ds r i) M (fun M => k ((r, i, v) :: M) (L.map (fun l => (r, i, v) :: l))) else none
def se_ald (ds : List se_D) (M : se_M) (P : se_P) (ins : Instr) (len : Nat) (st : List se_V) (k : List se_D → se_M → List se_V → se_R) : se_R := match st with
  | i :: r :: s => match se_kd ds r with
    | t + 2 => match tt t with
      | (none, ft, n, segs) => if len = 1 ∧ sx_tyI ins ft = true ∧ r.1 = 1 then se_load ds M P n segs r i (fun ds M v => k ds M (v :: s)) else none
      | _ => none
    | _ => none
  | _ => none
def se_ast (ds : List se_D) (M : se_M) (P : se_P) (L : Option se_M) (ins : Instr) (len : Nat) (st : List se_V) (k : se_M → Option se_M → List se_V → se_R) : se_R := match st with
  | v :: i :: r :: s => match se_kd ds r with
    | t + 2 => match tt t, se_rg ds v with
      | (none, ft, n, segs), (l, h) => if len = 1 ∧ sx_tyI ins ft = true ∧ r.1 = 1 ∧ se_kd ds v = 0 ∧ se_nar ft l h = true then se_store W Z tw ds M P L n segs r i v (fun M L => k M L s) else none
      | _, _ => none
    | _ => none
  | _ => none
def se_astl (ds : List se_D) (M : se_M) (P : se_P) (L : Option se_M) (len : Nat) (st : List se_V) (k : se_M → Option se_M → List se_V → se_R) : se_R := match st with
  | v :: i :: r :: s => match se_kd ds r with
    | t + 2 => match tt t with
      | (none, .long, n, segs) => if len = 1 ∧ r.1 = 1 ∧ se_kd ds v = 1 ∧ v.1 = 1 then se_store W Z tw ds M P L n segs r i v (fun M L => k M L s) else none
      | _ => none
    | _ => none
  | _ => none
def se_getf (ds : List se_D) (M : se_M) (P : se_P) (len kd ci k : Nat) (st : List se_V) (kk : List se_D → se_M → List se_V → se_R) : se_R := match st with
  | r :: s => match se_kd ds r with
    | t + 2 => match tt t with
      | (some ci', _, n, segs) => if len = 3 ∧ (kd = 0 ∨ kd = 1) ∧ ci' = ci ∧ r.1 = 1 then se_load ds M P n segs r (0, 0, (k : Int)) (fun ds M v => kk ds M (v :: s)) else none
      | _ => none
    | _ => none
  | _ => none
def se_putf (ds : List se_D) (M : se_M) (P : se_P) (L : Option se_M) (len kd ci k : Nat) (st : List se_V) (kk : se_M → Option se_M → List se_V → se_R) : se_R := match st with
  | v :: r :: s => match se_kd ds r with
    | t + 2 => match tt t, se_rg ds v, vwCl[ci]? with
      | (some ci', _, n, segs), (l, h), some q => if len = 3 ∧ (kd = 0 ∨ kd = 1) ∧ ci' = ci ∧ r.1 = 1 ∧ se_kd ds v = 0 ∧ se_nar (mm_ty ci k) l h = true ∧ (q.2.1 k).2.2.2 = false then se_store W Z tw ds M P L n segs r (0, 0, (k : Int)) v (fun M L => kk M L s) else none
      | _, _, _ => none
    | _ => none
  | _ => none
def se_cat (ds : List se_D) (v : se_V) : Nat := if Nat.beq (se_kd ds v) 1 then 2 else 1
def se_args (ds : List se_D) : List se_V → List (Option se_V)
  | [] => []
  | v :: vs => if Nat.beq (se_kd ds v) 1 then some v :: none :: se_args ds vs else some v :: se_args ds vs
def se_pad (n : Nat) (l : List (Option se_V)) : List (Option se_V) := l ++ List.replicate (n - l.length) none
def se_cats (ds : List se_D) (l : List se_V) : Nat := (l.map (se_cat ds)).sum
/-- a method's own slots are small enough, it makes nothing -/
def se_mok (t : mm_Mt) (y : Nat) (n : Nat) : Bool := Nat.ble n t.2.2.2.1 && (Nat.beq (mm_bud y).1 0 && Nat.beq (mm_bud y).2 0)
/-- a value said to be of a kind: narrower from there on, if only sums say so -/
def se_nrK (ds : List se_D) (P : se_P) (v : se_V) (κ : se_K) (k : List se_D → se_R) : se_R := if se_is ds v κ then k ds else if se_isP ds P v κ then se_cut ds v κ.2.1 κ.2.2 k else none
/-- a node's unknowns found in a state -/
def se_mt (lvs : List (Option se_V)) (P : se_P) : se_T → List se_D → se_M → List se_V → (List se_D → se_M → List se_V → se_R) → se_R
  | [], ds, M, σ, k => k ds M σ
  | (d, s) :: t, ds, M, σ, k => match s.1 with
    | 0 => match se_ld lvs s.2.1.2.1 with
      | some v => if Nat.beq d.2.1 0 then se_nrK ds P v d.1 (fun ds => sx_appK σ v (fun σ => se_mt lvs P t ds M σ k)) else none
      | none => none
    | 1 => if Nat.beq d.2.1 0 then se_sb σ s.2.1 none (fun r => se_sb σ s.2.2 none (fun i => match se_kd ds r with
      | u + 2 => if r.1 = 1 then (match tt u with
        | (_, _, n, segs) => se_load ds M P n segs r i (fun ds M v => se_nrK ds P v d.1 (fun ds => sx_appK σ v (fun σ => se_mt lvs P t ds M σ k)))) else none
      | _ => none)) else none
    | 2 => se_sb σ d.2.2.1 none (fun x => se_sb σ d.2.2.2 none (fun y => se_cse ds d.2.1 x y (fun ds v => se_nrK ds P v d.1 (fun ds => sx_appK σ v (fun σ => se_mt lvs P t ds M σ k)))))
    | _ => if Nat.beq d.2.1 0 && Nat.blt s.2.1.2.1 ds.length then sx_nK s.2.1.2.1 (fun n => se_nrK ds P (1, n, 0) d.1 (fun ds => sx_appK σ (1, n, 0) (fun σ => se_mt lvs P t ds M σ k))) else none
def se_match (lvs : List (Option se_V)) (P : se_P) (N : se_N) (ds : List se_D) (M : se_M) (k : List se_D → se_M → List se_V → se_R) : se_R := se_mt tt lvs P N.1 ds M [] (fun ds M σ => if se_lvq σ N.2.1 lvs && (se_Mq σ M N.2.2.1 && se_Pq ds P σ N.2.2.2) then k ds M σ else none)
def se_addM (σ : List se_V) (M : se_M) : se_M → (se_M → se_R) → se_R
  | [], k => k M
  | e :: t, k => se_addM σ M t (fun M => se_sb σ e.1 none (fun r => se_sb σ e.2.1 none (fun i => se_sb σ e.2.2 none (fun v => k ((r, i, v) :: M)))))
def se_addP (σ : List se_V) (P : se_P) : se_P → (se_P → se_R) → se_R
  | [], k => k P
  | e :: t, k => se_addP σ P t (fun P => se_sb σ e.2.1 none (fun x => se_sb σ e.2.2 none (fun y => k ((e.1, x, y) :: P))))
def se_exd : se_T → List se_D → List se_V → (List se_D → List se_V → se_R) → se_R
  | [], ds, σ, k => k ds σ
  | (d, _) :: t, ds, σ, k => if Nat.beq d.2.1 0 then se_new ds d.1.1 d.1.2.1 d.1.2.2 0 (0, 0, 0) (0, 0, 0) (fun ds v => sx_appK σ v (fun σ => se_exd t ds σ k))
    else se_sb σ d.2.2.1 none (fun x => se_sb σ d.2.2.2 none (fun y => se_new ds d.1.1 d.1.2.1 d.1.2.2 d.2.1 x y (fun ds v => sx_appK σ v (fun σ => se_exd t ds σ k))))
/-- the ways on which a contract comes back -/
def se_exs (ds : List se_D) (M : se_M) (P : se_P) (σ : List se_V) (kk : List se_D → se_M → se_P → Option se_V → se_R) : List se_E → se_R
  | [] => some []
  | e :: t => se_both (se_exd e.1 ds σ (fun ds σ => se_addM σ M e.2.2.1 (fun M => se_addP σ P e.2.2.2 (fun P => match e.2.1 with
    | some v => se_sb σ v none (fun v => kk ds M P (some v))
    | none => kk ds M P none)))) (se_exs ds M P σ kk t)
/-- an entry of the memory that what is changed leaves -/
def se_left (ds : List se_D) (W' : se_W) (e : se_V × se_V × se_V) : Bool := W'.all (fun u => !(Nat.beq (se_kd ds e.1) (u.1 + 2)) || (match se_rg ds e.2.1 with
  | (l, h) => decide (h < u.2.1) || se_le u.2.2 l))
def se_Win (W' : se_W) : Bool := W'.all (fun u => W.any (fun w => Nat.beq w.1 u.1 && (Nat.ble w.2.1 u.2.1 && Nat.ble u.2.2 w.2.2)))
def se_callC (ds : List se_D) (M : se_M) (P : se_P) (y : Nat) (lvs : List (Option se_V)) (kk : se_W → List se_D → se_M → se_P → Option se_V → se_R) : List se_C → se_R
  | [] => none
  | c :: t => if Nat.beq c.1.1 y then (match se_match tt lvs P c.2.1 ds M (fun ds M σ => if se_Win W c.2.2.2 then se_flt (se_left ds c.2.2.2) M (fun M => se_exs ds M P σ (kk c.2.2.2) c.2.2.1) else none) with
    | some r => some r
    | none => se_callC ds M P y lvs kk t) else se_callC ds M P y lvs kk t
/-- a call: by contract, or into its code -/
def se_call (ds : List se_D) (M : se_M) (F : se_F) (tl : List sx_I) (K : List se_F) (P : se_P) (L : Option se_M) (y pc : Nat) (t : mm_Mt) (As rest : List se_V) : se_R :=
  if Nat.ble (se_cats ds rest) 8 && se_mok t y (se_args ds As).length then (if C.any (fun c => Nat.beq c.1.1 y) then se_callC tt W ds M P y (se_args ds As) (fun W' ds M P v => match v with
      | some v => se_go ds M F.1 F.2.1 tl F.2.2.2.1 (v :: rest) K P (if W'.isEmpty then L else none) (pc + 3)
      | none => se_go ds M F.1 F.2.1 tl F.2.2.2.1 rest K P (if W'.isEmpty then L else none) (pc + 3)) C
    else match sx_cods[y]? with
      | some code => if Nat.blt K.length 12 then sx_nx tl F.2.1 (pc + 3) (fun cs => some [(ds, M, (y, code, code, se_pad t.2.2.2.1 (se_args ds As), []), (F.1, F.2.1, cs, F.2.2.2.1, rest) :: K, P, L)]) else none
      | none => none)
  else none
def se_cal (ds : List se_D) (M : se_M) (F : se_F) (tl : List sx_I) (K : List se_F) (P : se_P) (L : Option se_M) (y kd len pc want : Nat) : se_R := match mm_mths[y]? with
  | some t => if len = 3 ∧ (kd = 2 ∨ kd = 3) ∧ t.2.2.2.2.2.2.1 = want then
      (if want = 0 then (if t.2.2.2.2.2.1 ≤ F.2.2.2.2.length then se_call tt C W ds M F tl K P L y pc t (F.2.2.2.2.take t.2.2.2.2.2.1).reverse (F.2.2.2.2.drop t.2.2.2.2.2.1) else none)
      else if want = 1 then match F.2.2.2.2.drop t.2.2.2.2.2.1 with
        | r :: rest => match se_kd ds r with
          | u + 2 => match tt u with
            | (some ci, _, _, _) => if ci = t.1 ∧ r.1 = 1 then se_call tt C W ds M F tl K P L y pc t (r :: (F.2.2.2.2.take t.2.2.2.2.2.1).reverse) rest else none
            | _ => none
          | _ => none
        | _ => none
      else none)
    else none
  | none => none
def se_ret (ds : List se_D) (M : se_M) (y : Nat) (ins : Instr) (len : Nat) (st : List se_V) (K : List se_F) (P : se_P) (L : Option se_M) : se_R := match K with
  | [] => none
  | (y', full', cs', lv', st') :: K' => match mm_mths[y]? with
    | some t => match ins, t.2.2.2.2.1, st with
      | .ireturn, some ty, [v] => match se_rg ds v with
        | (l, h) => if len = 1 ∧ se_kd ds v = 0 ∧ se_nar ty l h = true then some [(ds, M, (y', full', cs', lv', v :: st'), K', P, L)] else none
      | .areturn, some (.object _), [v] => if len = 1 ∧ 2 ≤ se_kd ds v ∧ v.1 = 1 then some [(ds, M, (y', full', cs', lv', v :: st'), K', P, L)] else none
      | .lreturn, some .long, [v] => if len = 1 ∧ se_kd ds v = 1 ∧ v.1 = 1 then some [(ds, M, (y', full', cs', lv', v :: st'), K', P, L)] else none
      | .return_, none, [] => if len = 1 then some [(ds, M, (y', full', cs', lv', st'), K', P, L)] else none
      | _, _, _ => none
    | none => none
/-- the ways of a switch on an int -/
def se_sw (ds : List se_D) (P : se_P) (x : se_V) (dflt lo : Int) (n : Nat) (offs : Array Int) (kk : Int → List se_D → se_P → se_R) : se_R := match n with
  | 0 => kk dflt ds P
  | n + 1 => match offs[n]? with
    | some off => se_cmp ds P .eq x (0, 0, lo + (n : Int)) (fun ds P => kk off ds P) (fun ds P => se_sw ds P x dflt lo n offs kk)
    | none => none
/-- ways split at an index's number, where an array's places are not of one kind -/
def se_spl (ds : List se_D) (P : se_P) (x : se_V) (n : Nat) (kk : List se_D → se_P → se_R) : se_R := match n with
  | 0 => kk ds P
  | n + 1 => se_cmp ds P .eq x (0, 0, (n : Int)) (fun ds P => kk ds P) (fun ds P => se_spl ds P x n kk)
def se_mixn (ds : List se_D) (st : List se_V) : Nat := match st with
  | i :: r :: _ => match se_kd ds r with
    | t + 2 => match tt t with
      | (none, _, n, segs) => match se_flat n segs with
        | some _ => 0
        | none => match Nat.ble n 8 && !(decide (i.1 = 0)) with
          | true => n
          | false => 0
      | _ => 0
    | _ => 0
  | _ => 0
def se_top (st : List se_V) : se_V := match st with
  | i :: _ => i
  | [] => (0, 0, 0)
/-- a stretch of an array into another one's -/
def se_sum (ds : List se_D) (P : se_P) (p n : se_V) (N : Nat) : Bool := se_lub ds P (0, 0, 0) p 0 && (se_lub ds P (0, 0, 0) n 0 && ((match se_rg ds p, se_rg ds n with
  | (_, h1), (_, h2) => se_le (h1 + h2) N) || P.any (fun e => match e with
    | (.le, x, y) => se_eq x p && (decide (y.1 = 1) && (decide (y.2.2 = 0) && (match ds[y.2.1]? with
      | some (_, o, a, b) => Nat.beq o 2 && (se_eq b n && (match se_rg ds a, se_rg ds n with
        | (l, h), (l2, h2) => se_le 0 l && (se_le h N && (se_le 0 l2 && se_le h2 2147483647))))
      | none => false)))
    | _ => false)))
def se_acp (ds : List se_D) (M : se_M) (P : se_P) (len : Nat) (st : List se_V) (kk : se_M → List se_V → se_R) : se_R := match st with
  | n :: dp :: d :: sp :: s :: r => match se_kd ds s, se_kd ds d with
    | u + 2, w + 2 => match tt u, tt w with
      | (none, .int, N1, g1), (none, .int, N2, g2) => match se_flat N1 g1, se_flat N2 g2 with
        | some κ1, some κ2 => if len = 3 ∧ s.1 = 1 ∧ d.1 = 1 ∧ Nat.beq κ1.1 0 ∧ κ1 = κ2 ∧ Nat.ble tw u = true ∧ Nat.ble tw w = true ∧ Nat.ble (se_cats ds r) 8 = true ∧ se_sum ds P sp n N1 = true ∧ se_sum ds P dp n N2 = true ∧ W.any (fun v => Nat.beq v.1 w && (Nat.beq v.2.1 0 && Nat.ble N2 v.2.2)) = true ∧ Z.all (fun v => !(Nat.beq v.1 w)) = true then se_flt (fun e => !(Nat.beq (se_kd ds e.1) (w + 2))) M (fun M => kk M r) else none
        | _, _ => none
      | _, _ => none
    | _, _ => none
  | _ => none
end SED
