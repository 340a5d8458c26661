/-! ===== printed by wip/gen_start.py: the law's start ===== -/
def mm_zs (v : Value) : List mm_Zt := [("RaftTown", "KIND_ABOVE", "[I", .ref 1), ("RaftTown", "AREA", "[I", .ref 2), ("RaftTown", "BESIDE_X", "[I", .ref 3), ("RaftTown", "BESIDE_Y", "[I", .ref 4), ("java/lang/String", "COMPACT_STRINGS", "Z", .int 1), ("jdk/internal/util/Preconditions", "SIOOBE_FORMATTER", "Ljava/util/function/BiFunction;", v)]
/-- the bytes of the String constants -/
def mm_sb : List (List Int32) := [[119, 97, 118, 101, 115], [108, 111, 97, 100], [115, 116, 114, 101, 110, 103, 116, 104], [97, 103, 101], [107, 105, 110], [104, 101, 97, 100, 115], [119, 97, 116, 101, 114], [100, 97, 121], [98, 111, 114, 110], [116, 105, 101], [99, 117, 116], [115, 112, 101, 97, 107], [111, 114], [97, 110, 100], [110, 111, 116], []]
def mm_za1 : List Value := [.int (-1), .int 0, .int 1, .int 1, .int 0, .int 1]
def mm_za2 : List Value := [.int 1, .int 2, .int 3, .int 2, .int 1, .int 0]
def mm_za3 : List Value := [.int (-1), .int 1, .int 0, .int 0]
def mm_za4 : List Value := [.int 0, .int 0, .int (-1), .int 1]
def mm_scr (L : Nat) (xs : Nat → Int32) : List Value := (List.range L).map (fun j => .int (xs j))
def mm_m0 (L : Nat) (xs : Nat → Int32) : List mm_C := [.inl (.int, mm_scr L xs), .inl (.int, mm_za1), .inl (.int, mm_za2), .inl (.int, mm_za3), .inl (.int, mm_za4), .inr (15, [.ref 21, .int 0]), .inr (15, [.ref 22, .int 0]), .inr (15, [.ref 23, .int 0]), .inr (15, [.ref 24, .int 0]), .inr (15, [.ref 25, .int 0]), .inr (15, [.ref 26, .int 0]), .inr (15, [.ref 27, .int 0]), .inr (15, [.ref 28, .int 0]), .inr (15, [.ref 29, .int 0]), .inr (15, [.ref 30, .int 0]), .inr (15, [.ref 31, .int 0]), .inr (15, [.ref 32, .int 0]), .inr (15, [.ref 33, .int 0]), .inr (15, [.ref 34, .int 0]), .inr (15, [.ref 35, .int 0]), .inr (15, [.ref 36, .int 0]), .inl (.byte, [.int 119, .int 97, .int 118, .int 101, .int 115]), .inl (.byte, [.int 108, .int 111, .int 97, .int 100]), .inl (.byte, [.int 115, .int 116, .int 114, .int 101, .int 110, .int 103, .int 116, .int 104]), .inl (.byte, [.int 97, .int 103, .int 101]), .inl (.byte, [.int 107, .int 105, .int 110]), .inl (.byte, [.int 104, .int 101, .int 97, .int 100, .int 115]), .inl (.byte, [.int 119, .int 97, .int 116, .int 101, .int 114]), .inl (.byte, [.int 100, .int 97, .int 121]), .inl (.byte, [.int 98, .int 111, .int 114, .int 110]), .inl (.byte, [.int 116, .int 105, .int 101]), .inl (.byte, [.int 99, .int 117, .int 116]), .inl (.byte, [.int 115, .int 112, .int 101, .int 97, .int 107]), .inl (.byte, [.int 111, .int 114]), .inl (.byte, [.int 97, .int 110, .int 100]), .inl (.byte, [.int 110, .int 111, .int 116]), .inl (.byte, []), .inr (16, [])]
def mm_f0 (b t1 t2 t3 t4 : Nat) (aK aV : Nat → Nat) (q bs i : Nat) : Nat := if i = 0 then b else if i = 1 then t1 else if i = 2 then t2 else if i = 3 then t3 else if i = 4 then t4 else if i < 21 then aK (i - 5) else if i < 37 then aV (i - 21) else if i = 37 then q else bs + (i - 38)
/-- what the start says of a String constant -/
def mm_kw (i : Nat) : List Cond := [.exactly (.string "RaftTown$Tape" (122 + 2 * i)) "java/lang/String", .eq (.field (.string "RaftTown$Tape" (122 + 2 * i)) "java/lang/String" "coder" "B") (.int 0), .arrayOf (.field (.string "RaftTown$Tape" (122 + 2 * i)) "java/lang/String" "value" "[B") .byte, .eq (.length (.field (.string "RaftTown$Tape" (122 + 2 * i)) "java/lang/String" "value" "[B")) (.int (Int32.ofNat (mm_sb.getD i []).length))] ++ (List.range (mm_sb.getD i []).length).map (fun j => .eq (.elem (.field (.string "RaftTown$Tape" (122 + 2 * i)) "java/lang/String" "value" "[B") (.int (Int32.ofNat j))) (.int ((mm_sb.getD i []).getD j 0)))
set_option maxRecDepth 100000 in
theorem mm_kw_in : ∀ i, i < 16 → ∀ w ∈ mm_kw i, w ∈ flatC (Jvm.Cond.and given_1 narrow_1) := by decide +kernel
theorem mm_sb_len : ∀ i, i < 16 → (mm_sb.getD i []).length < 20 := by decide +kernel
def mm_txt (i : Nat) : String := ["waves", "load", "strength", "age", "kin", "heads", "water", "day", "born", "tie", "cut", "speak", "or", "and", "not", ""].getD i ""
def mm_txp (i : Nat) : Nat := [5007, 5008, 5009, 5010, 5011, 5012, 5013, 5014, 5015, 5016, 5017, 5018, 5019, 5020, 5021, 5022].getD i 0
theorem mm_txc : (List.range 16).all (fun i => mm_wd (mm_txp i) (.stringRef "RaftTown$Tape" (122 + 2 * i) (mm_txt i))) = true := by decide +kernel
theorem mm_tx (j : Nat) (hj : j < 16) : ∃ tx : String, Cond.stringRef "RaftTown$Tape" (122 + 2 * j) tx ∈ lw_tbl := ⟨mm_txt j, mm_wd_in (List.all_eq_true.mp mm_txc j (List.mem_range.mpr hj))⟩
theorem mm_strK {args : Array Value} {s : State} (hs : ∀ w ∈ flatC (Jvm.Cond.and given_1 narrow_1), w.before args s = true) {i : Nat} (hi : i < 16) : ∃ q : Nat × Nat, (Term.string "RaftTown$Tape" (122 + 2 * i)).eval args s none [] s = some (.ref q.1) ∧ va_O "java/lang/String" q.1 (fun _ => False) s s.heap ∧ va_OF "java/lang/String" "value" "[B" (.ref q.2) q.1 (fun _ => False) s s.heap ∧ va_OF "java/lang/String" "coder" "B" (.int 0) q.1 (fun _ => False) s s.heap ∧ va_T .byte q.2 (mm_sb.getD i []).length (fun j => .int ((mm_sb.getD i []).getD j 0)) (fun _ => False) s s.heap := by
  have hw := fun w h => hs w (mm_kw_in i hi w h)
  have hl := mm_sb_len i hi
  obtain ⟨aK, aV, h1, h2⟩ := vk_Sof (args := args) (s := s) (N := 1) (tm := fun _ => .string "RaftTown$Tape" (122 + 2 * i)) (len := [(mm_sb.getD i []).length]) (byt := [mm_sb.getD i []]) (A := fun _ => False) (fun j hj => by
      have : j = 0 := by omega
      subst this
      show (mm_sb.getD i []).length < 2 ^ 31
      omega) (fun j hj => hw _ (by simp [mm_kw])) (fun j hj => hw _ (by simp [mm_kw])) (fun j hj => hw _ (by simp [mm_kw])) (fun j hj => by
      have : j = 0 := by omega
      subst this
      exact hw _ (by simp [mm_kw])) (fun j hj k hk => by
      have : j = 0 := by omega
      subst this
      refine hw _ (List.mem_append.mpr (Or.inr (List.mem_map.mpr ⟨k, List.mem_range.mpr hk, rfl⟩)))) (fun j k hj hk hjk => absurd (show j = k by omega) hjk) (fun a _ h => h)
  obtain ⟨g1, g2, g3, g4⟩ := h1.1 0 (by decide)
  exact ⟨(aK 0, aV 0), h2 0 (by decide), g1, g3, g2, g4⟩
theorem mm_T_atb {φ : Nat → Nat} {kx i t : Nat} {D : va_G} {U : State} {H : Heap} {bs : List Int32} {A : Nat → Prop} (hi : φ i = t) (hk : i < kx) (hT : va_T .byte t bs.length (fun j => .int (bs.getD j 0)) A U H) : mm_at φ kx D vwCl U H i (.inl (.byte, bs.map .int)) := by
  obtain ⟨cell, h1, h2, h3, h4, h5, h6, -⟩ := hT
  refine ⟨cell, by rw [hi]; exact h1, ⟨by rw [List.length_map]; exact h4, by rw [List.length_map]; exact h5, fun j v hv => ?_⟩, h3, h2, fun q => absurd q (Nat.not_le.mpr hk)⟩
  simp only [List.getElem?_map, Option.map_eq_some_iff] at hv
  obtain ⟨x, hx, rfl⟩ := hv
  obtain ⟨hlt, he⟩ := List.getElem?_eq_some_iff.mp hx
  rw [h6 j hlt]
  simp [mm_sh, hx]
theorem mm_sc_of {φ : Nat → Nat} {kx i a : Nat} {D : va_G} {U : State} {H : Heap} {v w : Nat} (hi : φ i = a) (hv : φ v = w) (h1 : va_O "java/lang/String" a (fun _ => False) U H) (h2 : va_OF "java/lang/String" "value" "[B" (.ref w) a (fun _ => False) U H) (h3 : va_OF "java/lang/String" "coder" "B" (.int 0) a (fun _ => False) U H) : mm_at φ kx D vwCl U H i (.inr (15, [.ref v, .int 0])) := by
  subst hi
  subst hv
  obtain ⟨cell, g1, g2⟩ := id h1
  exact Or.inr ⟨show (13 : Nat) ≤ 15 by decide, cell, g1, fun _ => ⟨v, rfl, h1, h2, h3⟩⟩
set_option maxRecDepth 100000 in
theorem mm_zt1 {args : Array Value} {s : State} (hs : ∀ w ∈ flatC (Jvm.Cond.and given_1 narrow_1), w.before args s = true) : ∃ t : Nat, (Term.static "RaftTown" "KIND_ABOVE" "[I").eval args s none [] s = some (.ref t) ∧ va_T .int t 6 (fun j => mm_za1.getD j .null) (mm_B s.heap.size) s s.heap := by
  refine va_Tof (Nat.le_of_ble_eq_true rfl) (hs _ (by decide +kernel)) (va_eqt (z := 6) (hs _ (by decide +kernel))) (fun j hj => ?_) (fun a ha h => Nat.not_le.mpr ha h)
  match j, hj with
  | 0, _ => exact va_eqt (t := .elem (.static "RaftTown" "KIND_ABOVE" "[I") (.int 0)) (z := (-1)) (hs _ (by decide +kernel))
  | 1, _ => exact va_eqt (t := .elem (.static "RaftTown" "KIND_ABOVE" "[I") (.int 1)) (z := 0) (hs _ (by decide +kernel))
  | 2, _ => exact va_eqt (t := .elem (.static "RaftTown" "KIND_ABOVE" "[I") (.int 2)) (z := 1) (hs _ (by decide +kernel))
  | 3, _ => exact va_eqt (t := .elem (.static "RaftTown" "KIND_ABOVE" "[I") (.int 3)) (z := 1) (hs _ (by decide +kernel))
  | 4, _ => exact va_eqt (t := .elem (.static "RaftTown" "KIND_ABOVE" "[I") (.int 4)) (z := 0) (hs _ (by decide +kernel))
  | 5, _ => exact va_eqt (t := .elem (.static "RaftTown" "KIND_ABOVE" "[I") (.int 5)) (z := 1) (hs _ (by decide +kernel))
  | j + 6, hj => exact absurd hj (by omega)
set_option maxRecDepth 100000 in
theorem mm_zt2 {args : Array Value} {s : State} (hs : ∀ w ∈ flatC (Jvm.Cond.and given_1 narrow_1), w.before args s = true) : ∃ t : Nat, (Term.static "RaftTown" "AREA" "[I").eval args s none [] s = some (.ref t) ∧ va_T .int t 6 (fun j => mm_za2.getD j .null) (mm_B s.heap.size) s s.heap := by
  refine va_Tof (Nat.le_of_ble_eq_true rfl) (hs _ (by decide +kernel)) (va_eqt (z := 6) (hs _ (by decide +kernel))) (fun j hj => ?_) (fun a ha h => Nat.not_le.mpr ha h)
  match j, hj with
  | 0, _ => exact va_eqt (t := .elem (.static "RaftTown" "AREA" "[I") (.int 0)) (z := 1) (hs _ (by decide +kernel))
  | 1, _ => exact va_eqt (t := .elem (.static "RaftTown" "AREA" "[I") (.int 1)) (z := 2) (hs _ (by decide +kernel))
  | 2, _ => exact va_eqt (t := .elem (.static "RaftTown" "AREA" "[I") (.int 2)) (z := 3) (hs _ (by decide +kernel))
  | 3, _ => exact va_eqt (t := .elem (.static "RaftTown" "AREA" "[I") (.int 3)) (z := 2) (hs _ (by decide +kernel))
  | 4, _ => exact va_eqt (t := .elem (.static "RaftTown" "AREA" "[I") (.int 4)) (z := 1) (hs _ (by decide +kernel))
  | 5, _ => exact va_eqt (t := .elem (.static "RaftTown" "AREA" "[I") (.int 5)) (z := 0) (hs _ (by decide +kernel))
  | j + 6, hj => exact absurd hj (by omega)
set_option maxRecDepth 100000 in
theorem mm_zt3 {args : Array Value} {s : State} (hs : ∀ w ∈ flatC (Jvm.Cond.and given_1 narrow_1), w.before args s = true) : ∃ t : Nat, (Term.static "RaftTown" "BESIDE_X" "[I").eval args s none [] s = some (.ref t) ∧ va_T .int t 4 (fun j => mm_za3.getD j .null) (mm_B s.heap.size) s s.heap := by
  refine va_Tof (Nat.le_of_ble_eq_true rfl) (hs _ (by decide +kernel)) (va_eqt (z := 4) (hs _ (by decide +kernel))) (fun j hj => ?_) (fun a ha h => Nat.not_le.mpr ha h)
  match j, hj with
  | 0, _ => exact va_eqt (t := .elem (.static "RaftTown" "BESIDE_X" "[I") (.int 0)) (z := (-1)) (hs _ (by decide +kernel))
  | 1, _ => exact va_eqt (t := .elem (.static "RaftTown" "BESIDE_X" "[I") (.int 1)) (z := 1) (hs _ (by decide +kernel))
  | 2, _ => exact va_eqt (t := .elem (.static "RaftTown" "BESIDE_X" "[I") (.int 2)) (z := 0) (hs _ (by decide +kernel))
  | 3, _ => exact va_eqt (t := .elem (.static "RaftTown" "BESIDE_X" "[I") (.int 3)) (z := 0) (hs _ (by decide +kernel))
  | j + 4, hj => exact absurd hj (by omega)
set_option maxRecDepth 100000 in
theorem mm_zt4 {args : Array Value} {s : State} (hs : ∀ w ∈ flatC (Jvm.Cond.and given_1 narrow_1), w.before args s = true) : ∃ t : Nat, (Term.static "RaftTown" "BESIDE_Y" "[I").eval args s none [] s = some (.ref t) ∧ va_T .int t 4 (fun j => mm_za4.getD j .null) (mm_B s.heap.size) s s.heap := by
  refine va_Tof (Nat.le_of_ble_eq_true rfl) (hs _ (by decide +kernel)) (va_eqt (z := 4) (hs _ (by decide +kernel))) (fun j hj => ?_) (fun a ha h => Nat.not_le.mpr ha h)
  match j, hj with
  | 0, _ => exact va_eqt (t := .elem (.static "RaftTown" "BESIDE_Y" "[I") (.int 0)) (z := 0) (hs _ (by decide +kernel))
  | 1, _ => exact va_eqt (t := .elem (.static "RaftTown" "BESIDE_Y" "[I") (.int 1)) (z := 0) (hs _ (by decide +kernel))
  | 2, _ => exact va_eqt (t := .elem (.static "RaftTown" "BESIDE_Y" "[I") (.int 2)) (z := (-1)) (hs _ (by decide +kernel))
  | 3, _ => exact va_eqt (t := .elem (.static "RaftTown" "BESIDE_Y" "[I") (.int 3)) (z := 1) (hs _ (by decide +kernel))
  | j + 4, hj => exact absurd hj (by omega)
theorem mm_T_at {φ : Nat → Nat} {kx i t : Nat} {D : va_G} {U : State} {H : Heap} {xs : List Value} {A : Nat → Prop} (hi : φ i = t) (hk : i < kx) (hx : ∀ v ∈ xs, mm_sh φ v = v) (hT : va_T .int t xs.length (fun j => xs.getD j .null) A U H) : mm_at φ kx D vwCl U H i (.inl (.int, xs)) := by
  obtain ⟨cell, h1, h2, h3, h4, h5, h6, -⟩ := hT
  refine ⟨cell, by rw [hi]; exact h1, ⟨h4, h5, fun j v hv => ?_⟩, h3, h2, fun q => absurd q (Nat.not_le.mpr hk)⟩
  obtain ⟨hlt, he⟩ := List.getElem?_eq_some_iff.mp hv
  rw [h6 j hlt, hx v (List.mem_of_getElem? hv)]
  simp [hv]
theorem mm_ints_sh (φ : Nat → Nat) (xs : List Int32) : ∀ v ∈ xs.map Value.int, mm_sh φ v = v := by
  intro v hv
  obtain ⟨x, -, rfl⟩ := List.mem_map.mp hv
  rfl
/-- the law's start, as the small machine has it -/
theorem mm_start {p : Program} {s : State} {m : MethodId} {meth : Method} {c : Code} {b L : Nat} {xs : Nat → Int32} (hL : L ≤ 3072) (C0 : lw_At p s m meth c b L xs) : ∃ (φ : Nat → Nat) (D : va_G) (v : Value), v.category = 1 ∧ mm_ph φ 38 s.heap.size ∧ φ 0 = b ∧ mm_Fx p s m #[Value.ref b] meth c φ 38 s.heap.size D 13 "RaftTownLaw" 4 false code ∧ mm_R φ 38 s.heap.size D vwCl (mm_zs v) s (mm_m0 L xs) s.heap := by
  obtain ⟨hx, hb, hr, hml, hown, hts, hX, hbl, hlocks, hgv⟩ := id C0
  have hs := flat_of_before _ hgv
  obtain ⟨t1, e1, T1⟩ := mm_zt1 hs
  obtain ⟨t2, e2, T2⟩ := mm_zt2 hs
  obtain ⟨t3, e3, T3⟩ := mm_zt3 hs
  obtain ⟨t4, e4, T4⟩ := mm_zt4 hs
  have htg : ∀ w ∈ mm_gw, w.before #[Value.ref b] s = true := fun w hw => hts w (List.mem_filter.mp hw).1
  obtain ⟨c0, iS0, hKn0⟩ := u_known (C := RX0) (T := TX0) (N := 3) (n := 3) htg mm_fw_0 (htg (.instantiable RX0 3) (mm_wg_in (pl := 2131) (by decide +kernel)))
  obtain ⟨c1, iS1, hKn1⟩ := u_known (C := RX1) (T := TX1) (N := 9) (n := 9) htg mm_fw_1 (htg (.instantiable RX1 9) (mm_wg_in (pl := 1061) (by decide +kernel)))
  obtain ⟨c2, iS2, hKn2⟩ := u_known (C := RX2) (T := TX2) (N := 6) (n := 6) htg mm_fw_2 (htg (.instantiable RX2 6) (mm_wg_in (pl := 2103) (by decide +kernel)))
  obtain ⟨c3, iS3, hKn3⟩ := u_known (C := RX3) (T := TX3) (N := 7) (n := 7) htg mm_fw_3 (htg (.instantiable RX3 7) (mm_wg_in (pl := 1139) (by decide +kernel)))
  obtain ⟨c4, iS4, hKn4⟩ := u_known (C := RX4) (T := TX4) (N := 7) (n := 7) htg mm_fw_4 (htg (.instantiable RX4 7) (mm_wg_in (pl := 1098) (by decide +kernel)))
  obtain ⟨c5, iS5, hKn5⟩ := u_known (C := RX5) (T := TX5) (N := 8) (n := 8) htg mm_fw_5 (htg (.instantiable RX5 8) (mm_wg_in (pl := 1180) (by decide +kernel)))
  obtain ⟨c6, iS6, hKn6⟩ := u_known (C := RX6) (T := TX6) (N := 3) (n := 3) htg mm_fw_6 (htg (.instantiable RX6 3) (mm_wg_in (pl := 1037) (by decide +kernel)))
  obtain ⟨c7, iS7, hKn7⟩ := u_known (C := RX7) (T := TX7) (N := 3) (n := 3) htg mm_fw_7 (htg (.instantiable RX7 3) (mm_wg_in (pl := 2053) (by decide +kernel)))
  obtain ⟨c8, iS8, hKn8⟩ := u_known (C := RX8) (T := TX8) (N := 7) (n := 7) htg mm_fw_8 (htg (.instantiable RX8 7) (mm_wg_in (pl := 2072) (by decide +kernel)))
  obtain ⟨c9, iS9, hKn9⟩ := u_known (C := RX9) (T := TX9) (N := 4) (n := 4) htg mm_fw_9 (htg (.instantiable RX9 4) (mm_wg_in (pl := 1226) (by decide +kernel)))
  obtain ⟨c10, iS10, hKn10⟩ := u_known (C := RX10) (T := TX10) (N := 12) (n := 12) htg mm_fw_10 (htg (.instantiable RX10 12) (mm_wg_in (pl := 1031) (by decide +kernel)))
  obtain ⟨c11, iS11, hKn11⟩ := u_known (C := RX11) (T := TX11) (N := 8) (n := 8) htg mm_fw_11 (htg (.instantiable RX11 8) (mm_wg_in (pl := 1023) (by decide +kernel)))
  obtain ⟨c12, iS12, hKn12⟩ := u_known (C := RX12) (T := TX12) (N := 26) (n := 26) htg mm_fw_12 (htg (.instantiable RX12 26) (mm_wg_in (pl := 6138) (by decide +kernel)))
  obtain ⟨D, hKc⟩ : ∃ D : va_G, ∀ (k : Nat) (q : vw_C), vwCl[k]? = some q → u_Kn s q.1 q.2.1 q.2.2 (D.1 k) (D.2 k) := by
    refine ⟨(fun k => if k = 0 then c0 else if k = 1 then c1 else if k = 2 then c2 else if k = 3 then c3 else if k = 4 then c4 else if k = 5 then c5 else if k = 6 then c6 else if k = 7 then c7 else if k = 8 then c8 else if k = 9 then c9 else if k = 10 then c10 else if k = 11 then c11 else c12, fun k => if k = 0 then iS0 else if k = 1 then iS1 else if k = 2 then iS2 else if k = 3 then iS3 else if k = 4 then iS4 else if k = 5 then iS5 else if k = 6 then iS6 else if k = 7 then iS7 else if k = 8 then iS8 else if k = 9 then iS9 else if k = 10 then iS10 else if k = 11 then iS11 else iS12), ?_⟩
    intro k q hq
    match k, hq with
    | 0, hq => cases hq; exact hKn0
    | 1, hq => cases hq; exact hKn1
    | 2, hq => cases hq; exact hKn2
    | 3, hq => cases hq; exact hKn3
    | 4, hq => cases hq; exact hKn4
    | 5, hq => cases hq; exact hKn5
    | 6, hq => cases hq; exact hKn6
    | 7, hq => cases hq; exact hKn7
    | 8, hq => cases hq; exact hKn8
    | 9, hq => cases hq; exact hKn9
    | 10, hq => cases hq; exact hKn10
    | 11, hq => cases hq; exact hKn11
    | 12, hq => cases hq; exact hKn12
    | k + 13, hq => simp [vwCl] at hq
  have hA : ∀ a : Nat, a < s.heap.size → ¬ mm_B s.heap.size a := fun a ha h => Nat.not_le.mpr ha h
  have hnst : ∀ w ∈ lw_tbl, mm_nest w = true → va_Nw w s := by
    intro w hw hn
    refine va_Nw.of ?_ (hts w hw)
    unfold mm_nest at hn
    split at hn
    · rfl
    · rfl
    · cases hn
  have l1 : t1 < s.heap.size := by obtain ⟨cell, h1, -⟩ := T1; exact (Array.getElem?_eq_some_iff.mp h1).1
  have l2 : t2 < s.heap.size := by obtain ⟨cell, h1, -⟩ := T2; exact (Array.getElem?_eq_some_iff.mp h1).1
  have l3 : t3 < s.heap.size := by obtain ⟨cell, h1, -⟩ := T3; exact (Array.getElem?_eq_some_iff.mp h1).1
  have l4 : t4 < s.heap.size := by obtain ⟨cell, h1, -⟩ := T4; exact (Array.getElem?_eq_some_iff.mp h1).1
  obtain ⟨q, v, hq0, hcat, hv0⟩ : ∃ (q : Nat) (v : Value), q < s.heap.size ∧ v.category = 1 ∧ ∀ φ : Nat → Nat, φ 37 = q → (∀ i, 38 ≤ i → φ i = s.heap.size + (i - 38)) → va_Z "jdk/internal/util/Preconditions" "SIOOBE_FORMATTER" "Ljava/util/function/BiFunction;" (mm_sh φ v) (mm_B s.heap.size) s s.heap := by
    rcases va_Zqof (C := "jdk/internal/util/Preconditions") (n := "SIOOBE_FORMATTER") (d := "Ljava/util/function/BiFunction;") (hts _ (mm_wd_in (pl := 5052) (by decide +kernel))) (htg _ (mm_wg_in (pl := 1018) (by decide +kernel))) (hs _ (by decide +kernel)) hA with h | ⟨t, h⟩
    · exact ⟨b, .null, hbl, rfl, fun φ _ _ => h⟩
    · by_cases ht : t < s.heap.size
      · exact ⟨t, .ref 37, ht, rfl, fun φ h1 _ => by show va_Z _ _ _ (.ref (φ 37)) _ _ _; rw [h1]; exact h⟩
      · exact ⟨b, .ref (38 + (t - s.heap.size)), hbl, rfl, fun φ _ h2 => by show va_Z _ _ _ (.ref (φ (38 + (t - s.heap.size)))) _ _ _; rw [h2 _ (by omega), show s.heap.size + (38 + (t - s.heap.size) - 38) = t by omega]; exact h⟩
  have hK : ∀ i : Nat, ∃ q : Nat × Nat, i < 16 → (Term.string "RaftTown$Tape" (122 + 2 * i)).eval #[Value.ref b] s none [] s = some (.ref q.1) ∧ va_O "java/lang/String" q.1 (fun _ => False) s s.heap ∧ va_OF "java/lang/String" "value" "[B" (.ref q.2) q.1 (fun _ => False) s s.heap ∧ va_OF "java/lang/String" "coder" "B" (.int 0) q.1 (fun _ => False) s s.heap ∧ va_T .byte q.2 (mm_sb.getD i []).length (fun j => .int ((mm_sb.getD i []).getD j 0)) (fun _ => False) s s.heap := by
    intro i
    by_cases hi : i < 16
    · obtain ⟨q, h⟩ := mm_strK hs hi
      exact ⟨q, fun _ => h⟩
    · exact ⟨(0, 0), fun h => absurd h hi⟩
  obtain ⟨ad, had⟩ := Classical.axiomOfChoice hK
  have hph : mm_ph (mm_f0 b t1 t2 t3 t4 (fun i => (ad i).1) (fun i => (ad i).2) q s.heap.size) 38 s.heap.size := by
    refine ⟨fun i hi => ?_, fun i hi => ?_⟩
    · unfold mm_f0
      split
      · exact hbl
      · split
        · exact l1
        · split
          · exact l2
          · split
            · exact l3
            · split
              · exact l4
              · split
                · obtain ⟨-, ⟨cell, h1, -⟩, -⟩ := had (i - 5) (by omega)
                  exact (Array.getElem?_eq_some_iff.mp h1).1
                · split
                  · obtain ⟨-, -, -, -, cell, h1, -⟩ := had (i - 21) (by omega)
                    exact (Array.getElem?_eq_some_iff.mp h1).1
                  · rw [if_pos (by omega)]
                    exact hq0
    · unfold mm_f0
      rw [if_neg (by omega), if_neg (by omega), if_neg (by omega), if_neg (by omega), if_neg (by omega), if_neg (by omega), if_neg (by omega), if_neg (by omega)]
  have fK : ∀ j, j < 16 → mm_f0 b t1 t2 t3 t4 (fun i => (ad i).1) (fun i => (ad i).2) q s.heap.size (5 + j) = (ad j).1 := by
    intro j hj
    unfold mm_f0
    rw [if_neg (by omega), if_neg (by omega), if_neg (by omega), if_neg (by omega), if_neg (by omega), if_pos (by omega), show 5 + j - 5 = j by omega]
  have fV : ∀ j, j < 16 → mm_f0 b t1 t2 t3 t4 (fun i => (ad i).1) (fun i => (ad i).2) q s.heap.size (21 + j) = (ad j).2 := by
    intro j hj
    unfold mm_f0
    rw [if_neg (by omega), if_neg (by omega), if_neg (by omega), if_neg (by omega), if_neg (by omega), if_neg (by omega), if_pos (by omega), show 21 + j - 21 = j by omega]
  have hctx : mm_Ctx (mm_f0 b t1 t2 t3 t4 (fun i => (ad i).1) (fun i => (ad i).2) q s.heap.size) D s := ⟨⟨hKc, fun k q h => by simp at h⟩, hnst, fun C hC => va_AO.of (hts _ hC), fun j hj => by
    obtain ⟨tx, ht⟩ := mm_tx j hj
    exact ⟨tx, vk_R.of (hts _ ht) (by rw [fK j hj]; exact (had j hj).1)⟩⟩
  have ini : Cond.initialized "RaftTown" ∈ mm_gw := mm_wg_in (pl := 1001) (by decide +kernel)
  refine ⟨mm_f0 b t1 t2 t3 t4 (fun i => (ad i).1) (fun i => (ad i).2) q s.heap.size, D, v, hcat, hph, rfl, ⟨hx, hb, hml, hown, rfl, htg, hctx, hph, Nat.le_refl _, fun h => by cases h⟩, (Nat.le_refl 38 : 38 ≤ (mm_m0 L xs).length), rfl, fun i q' hq => ?_, fun z hz => ?_⟩
  · match i, hq with
    | 0, hq =>
      cases hq
      obtain ⟨scr, h1, h2, h3, h4, h5⟩ := hX
      refine ⟨scr, h1, ⟨by simp [mm_scr, h4], by rw [h4]; simp [mm_scr], fun j v hv => ?_⟩, h3, h2, fun q => absurd q (by decide)⟩
      simp only [mm_scr, List.getElem?_map, Option.map_eq_some_iff] at hv
      obtain ⟨j', hj', rfl⟩ := hv
      obtain ⟨hlt, he⟩ := List.getElem?_eq_some_iff.mp hj'
      simp at hlt he
      subst he
      exact h5 j hlt
    | 1, hq => cases hq; exact mm_T_at rfl (by decide) (by intro v hv; simp only [mm_za1, List.mem_cons, List.not_mem_nil, or_false] at hv; rcases hv with rfl | rfl | rfl | rfl | rfl | rfl <;> rfl) T1
    | 2, hq => cases hq; exact mm_T_at rfl (by decide) (by intro v hv; simp only [mm_za2, List.mem_cons, List.not_mem_nil, or_false] at hv; rcases hv with rfl | rfl | rfl | rfl | rfl | rfl <;> rfl) T2
    | 3, hq => cases hq; exact mm_T_at rfl (by decide) (by intro v hv; simp only [mm_za3, List.mem_cons, List.not_mem_nil, or_false] at hv; rcases hv with rfl | rfl | rfl | rfl <;> rfl) T3
    | 4, hq => cases hq; exact mm_T_at rfl (by decide) (by intro v hv; simp only [mm_za4, List.mem_cons, List.not_mem_nil, or_false] at hv; rcases hv with rfl | rfl | rfl | rfl <;> rfl) T4
    | 5, hq => cases hq; exact mm_sc_of (fK 0 (by decide)) (fV 0 (by decide)) (had 0 (by decide)).2.1 (had 0 (by decide)).2.2.1 (had 0 (by decide)).2.2.2.1
    | 6, hq => cases hq; exact mm_sc_of (fK 1 (by decide)) (fV 1 (by decide)) (had 1 (by decide)).2.1 (had 1 (by decide)).2.2.1 (had 1 (by decide)).2.2.2.1
    | 7, hq => cases hq; exact mm_sc_of (fK 2 (by decide)) (fV 2 (by decide)) (had 2 (by decide)).2.1 (had 2 (by decide)).2.2.1 (had 2 (by decide)).2.2.2.1
    | 8, hq => cases hq; exact mm_sc_of (fK 3 (by decide)) (fV 3 (by decide)) (had 3 (by decide)).2.1 (had 3 (by decide)).2.2.1 (had 3 (by decide)).2.2.2.1
    | 9, hq => cases hq; exact mm_sc_of (fK 4 (by decide)) (fV 4 (by decide)) (had 4 (by decide)).2.1 (had 4 (by decide)).2.2.1 (had 4 (by decide)).2.2.2.1
    | 10, hq => cases hq; exact mm_sc_of (fK 5 (by decide)) (fV 5 (by decide)) (had 5 (by decide)).2.1 (had 5 (by decide)).2.2.1 (had 5 (by decide)).2.2.2.1
    | 11, hq => cases hq; exact mm_sc_of (fK 6 (by decide)) (fV 6 (by decide)) (had 6 (by decide)).2.1 (had 6 (by decide)).2.2.1 (had 6 (by decide)).2.2.2.1
    | 12, hq => cases hq; exact mm_sc_of (fK 7 (by decide)) (fV 7 (by decide)) (had 7 (by decide)).2.1 (had 7 (by decide)).2.2.1 (had 7 (by decide)).2.2.2.1
    | 13, hq => cases hq; exact mm_sc_of (fK 8 (by decide)) (fV 8 (by decide)) (had 8 (by decide)).2.1 (had 8 (by decide)).2.2.1 (had 8 (by decide)).2.2.2.1
    | 14, hq => cases hq; exact mm_sc_of (fK 9 (by decide)) (fV 9 (by decide)) (had 9 (by decide)).2.1 (had 9 (by decide)).2.2.1 (had 9 (by decide)).2.2.2.1
    | 15, hq => cases hq; exact mm_sc_of (fK 10 (by decide)) (fV 10 (by decide)) (had 10 (by decide)).2.1 (had 10 (by decide)).2.2.1 (had 10 (by decide)).2.2.2.1
    | 16, hq => cases hq; exact mm_sc_of (fK 11 (by decide)) (fV 11 (by decide)) (had 11 (by decide)).2.1 (had 11 (by decide)).2.2.1 (had 11 (by decide)).2.2.2.1
    | 17, hq => cases hq; exact mm_sc_of (fK 12 (by decide)) (fV 12 (by decide)) (had 12 (by decide)).2.1 (had 12 (by decide)).2.2.1 (had 12 (by decide)).2.2.2.1
    | 18, hq => cases hq; exact mm_sc_of (fK 13 (by decide)) (fV 13 (by decide)) (had 13 (by decide)).2.1 (had 13 (by decide)).2.2.1 (had 13 (by decide)).2.2.2.1
    | 19, hq => cases hq; exact mm_sc_of (fK 14 (by decide)) (fV 14 (by decide)) (had 14 (by decide)).2.1 (had 14 (by decide)).2.2.1 (had 14 (by decide)).2.2.2.1
    | 20, hq => cases hq; exact mm_sc_of (fK 15 (by decide)) (fV 15 (by decide)) (had 15 (by decide)).2.1 (had 15 (by decide)).2.2.1 (had 15 (by decide)).2.2.2.1
    | 21, hq => cases hq; exact mm_T_atb (bs := mm_sb.getD 0 []) (fV 0 (by decide)) (by decide) (had 0 (by decide)).2.2.2.2
    | 22, hq => cases hq; exact mm_T_atb (bs := mm_sb.getD 1 []) (fV 1 (by decide)) (by decide) (had 1 (by decide)).2.2.2.2
    | 23, hq => cases hq; exact mm_T_atb (bs := mm_sb.getD 2 []) (fV 2 (by decide)) (by decide) (had 2 (by decide)).2.2.2.2
    | 24, hq => cases hq; exact mm_T_atb (bs := mm_sb.getD 3 []) (fV 3 (by decide)) (by decide) (had 3 (by decide)).2.2.2.2
    | 25, hq => cases hq; exact mm_T_atb (bs := mm_sb.getD 4 []) (fV 4 (by decide)) (by decide) (had 4 (by decide)).2.2.2.2
    | 26, hq => cases hq; exact mm_T_atb (bs := mm_sb.getD 5 []) (fV 5 (by decide)) (by decide) (had 5 (by decide)).2.2.2.2
    | 27, hq => cases hq; exact mm_T_atb (bs := mm_sb.getD 6 []) (fV 6 (by decide)) (by decide) (had 6 (by decide)).2.2.2.2
    | 28, hq => cases hq; exact mm_T_atb (bs := mm_sb.getD 7 []) (fV 7 (by decide)) (by decide) (had 7 (by decide)).2.2.2.2
    | 29, hq => cases hq; exact mm_T_atb (bs := mm_sb.getD 8 []) (fV 8 (by decide)) (by decide) (had 8 (by decide)).2.2.2.2
    | 30, hq => cases hq; exact mm_T_atb (bs := mm_sb.getD 9 []) (fV 9 (by decide)) (by decide) (had 9 (by decide)).2.2.2.2
    | 31, hq => cases hq; exact mm_T_atb (bs := mm_sb.getD 10 []) (fV 10 (by decide)) (by decide) (had 10 (by decide)).2.2.2.2
    | 32, hq => cases hq; exact mm_T_atb (bs := mm_sb.getD 11 []) (fV 11 (by decide)) (by decide) (had 11 (by decide)).2.2.2.2
    | 33, hq => cases hq; exact mm_T_atb (bs := mm_sb.getD 12 []) (fV 12 (by decide)) (by decide) (had 12 (by decide)).2.2.2.2
    | 34, hq => cases hq; exact mm_T_atb (bs := mm_sb.getD 13 []) (fV 13 (by decide)) (by decide) (had 13 (by decide)).2.2.2.2
    | 35, hq => cases hq; exact mm_T_atb (bs := mm_sb.getD 14 []) (fV 14 (by decide)) (by decide) (had 14 (by decide)).2.2.2.2
    | 36, hq => cases hq; exact mm_T_atb (bs := mm_sb.getD 15 []) (fV 15 (by decide)) (by decide) (had 15 (by decide)).2.2.2.2
    | 37, hq =>
      cases hq
      exact Or.inr ⟨show (13 : Nat) ≤ 16 by decide, _, Array.getElem?_eq_getElem hq0, fun h => absurd h (show ¬ (16 : Nat) = 15 by decide)⟩
    | k + 38, hq => simp [mm_m0] at hq
  · simp only [mm_zs, List.mem_cons, List.not_mem_nil, or_false] at hz
    rcases hz with rfl | rfl | rfl | rfl | rfl | rfl
    · exact va_Zref (hts _ (mm_wd_in (pl := 2228) (by decide +kernel))) (htg _ ini) e1 hA
    · exact va_Zref (hts _ (mm_wd_in (pl := 3012) (by decide +kernel))) (htg _ ini) e2 hA
    · exact va_Zref (hts _ (mm_wd_in (pl := 6032) (by decide +kernel))) (htg _ ini) e3 hA
    · exact va_Zref (hts _ (mm_wd_in (pl := 6034) (by decide +kernel))) (htg _ ini) e4 hA
    · exact va_Zof (hts _ (mm_wd_in (pl := 5036) (by decide +kernel))) (htg _ (mm_wg_in (pl := 1016) (by decide +kernel))) (va_eqt (z := 1) (hs _ (by decide +kernel))) hA
    · exact hv0 _ rfl hph.2
set_option maxRecDepth 100000 in
/-- THE LAW, from its entry, by a run of the small machine -/
theorem mm_whole {p : Program} {e : Env} {s : State} {m : MethodId} {below : List Frame} {meth : Method} {c : Code} (l : Launch) {b L : Nat} {xs : Nat → Int32} (hL : L ≤ 3072) (C0 : lw_At p s m meth c b L xs) (hrun : ∀ v : Value, v.category = 1 → ∃ (n d : Nat) (τ : mm_S), d ≤ 1000 ∧ mm_run 38 (mm_zs v) n d (13, code, 4, false) (0, [(0, .ref 0)], [], mm_m0 L xs, 600000, 7302250) = some τ ∧ τ.2.2.1 = [.int 1] ∧ decode code τ.1 = .ok (.ireturn, 1)) : W p l e room_1 s m #[Value.ref b] below meth c s.heap [] 0 0 (lw_Z below #[Value.ref b] s) (entryFrame m ([Value.ref b] : List Value).toArray 4) := by
  obtain ⟨φ, D, vz, hcat, hph, h0, F, hR⟩ := mm_start hL C0
  obtain ⟨hx, hb, hr, hml, hown, hts, hX, hbl, hlocks, hgv⟩ := C0
  obtain ⟨n, d, τ, hd, hrun, hst, hdec⟩ := hrun vz hcat
  have hend : mm_Go p l e room_1 s m #[Value.ref b] below meth c φ 38 s.heap.size D (mm_zs vz) 4 (lw_Z below #[Value.ref b] s) τ := by
    obtain ⟨pc, lv, st, mem, cb, sb⟩ := τ
    dsimp only at hst hdec
    subst hst
    intro H locs ls cells slots hR hS hl hc hs
    refine va_forget hS.2.2 (W.widen (k := 600000) (n := 7302250) ?_ ?_ (lw_ret hx hb hr hlocks hdec))
    · have : cells + cb = 600000 := hc
      omega
    · have : slots + sb = 7302250 := hs
      omega
  have hgo := mm_run_ok l φ 38 s.heap.size D (mm_zs vz) hph n d (13, code, 4, false) _ τ hrun F (R := room_1) ⟨by show d + 1 ≤ 2048; omega, by show 64 * (d + 1) ≤ 84000; omega⟩ hend
  have hl := lv_entry ([.ref b]) (n := 4) (Nat.le_of_ble_eq_true rfl)
  rw [lg_entry_eq]
  exact hgo s.heap [] _ 0 0 hR va_S.rf (by show lv_has _ _ [(0, .ref (φ 0))]; rw [h0]; exact hl) (Nat.zero_add _) (Nat.zero_add _)
