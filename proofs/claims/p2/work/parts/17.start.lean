/-! ===== printed by wip/gen_start.py: the law's start ===== -/
def mm_zs : List mm_Zt := [("RaftTown", "KIND_ABOVE", "[I", .ref 1), ("RaftTown", "AREA", "[I", .ref 2), ("RaftTown", "BESIDE_X", "[I", .ref 3), ("RaftTown", "BESIDE_Y", "[I", .ref 4)]
def mm_za1 : List Value := [.int (-1), .int 0, .int 1, .int 1, .int 0, .int 1]
def mm_za2 : List Value := [.int 1, .int 2, .int 3, .int 2, .int 1, .int 0]
def mm_za3 : List Value := [.int (-1), .int 1, .int 0, .int 0]
def mm_za4 : List Value := [.int 0, .int 0, .int (-1), .int 1]
def mm_scr (L : Nat) (xs : Nat → Int32) : List Value := (List.range L).map (fun j => .int (xs j))
def mm_m0 (L : Nat) (xs : Nat → Int32) : List mm_C := [.inl (.int, mm_scr L xs), .inl (.int, mm_za1), .inl (.int, mm_za2), .inl (.int, mm_za3), .inl (.int, mm_za4)]
def mm_f0 (b t1 t2 t3 t4 bs i : Nat) : Nat := match i with
  | 0 => b
  | 1 => t1
  | 2 => t2
  | 3 => t3
  | 4 => t4
  | k + 5 => bs + k
set_option maxRecDepth 100000 in
theorem mm_zt1 {args : Array Value} {s : State} (hs : ∀ w ∈ flatC (Jvm.Cond.and given_1 narrow_1), w.before args s = true) : ∃ t : Nat, (Term.static "RaftTown" "KIND_ABOVE" "[I").eval args s none [] s = some (.ref t) ∧ va_T .int t 6 (fun j => mm_za1.getD j .null) (mm_B s.heap.size) s s.heap := by
  refine va_Tof (Nat.le_of_ble_eq_true rfl) (hs _ (by decide +kernel)) (va_eqt (z := 6) (hs _ (by decide +kernel))) (fun j hj => ?_) (fun a ha h => Nat.not_le.mpr ha h)
  match j, hj with
  | 0, _ => exact va_eqt (t := .elem (.static "RaftTown" "KIND_ABOVE" "[I") (.int 0)) (z := (-1)) (hs _ (by decide +kernel))
  | 1, _ => exact va_eqt (t := .elem (.static "RaftTown" "KIND_ABOVE" "[I") (.int 1)) (z := 0) (hs _ (by decide +kernel))
  | 2, _ => exact va_eqt (t := .elem (.static "RaftTown" "KIND_ABOVE" "[I") (.int 2)) (z := 1) (hs _ (by decide +kernel))
  | 3, _ => exact va_eqt (t := .elem (.static "RaftTown" "KIND_ABOVE" "[I") (.int 3)) (z := 1) (hs _ (by decide +kernel))
  | 4, _ => exact va_eqt (t := .elem (.static "RaftTown" "KIND_ABOVE" "[I") (.int 4)) (z := 0) (hs _ (by decide +kernel))
  | 5, _ => exact va_eqt (t := .elem (.static "RaftTown" "KIND_ABOVE" "[I") (.int 5)) (z := 1) (hs _ (by decide +kernel))
  | j + 6, hj => exact absurd hj (by omega)
set_option maxRecDepth 100000 in
theorem mm_zt2 {args : Array Value} {s : State} (hs : ∀ w ∈ flatC (Jvm.Cond.and given_1 narrow_1), w.before args s = true) : ∃ t : Nat, (Term.static "RaftTown" "AREA" "[I").eval args s none [] s = some (.ref t) ∧ va_T .int t 6 (fun j => mm_za2.getD j .null) (mm_B s.heap.size) s s.heap := by
  refine va_Tof (Nat.le_of_ble_eq_true rfl) (hs _ (by decide +kernel)) (va_eqt (z := 6) (hs _ (by decide +kernel))) (fun j hj => ?_) (fun a ha h => Nat.not_le.mpr ha h)
  match j, hj with
  | 0, _ => exact va_eqt (t := .elem (.static "RaftTown" "AREA" "[I") (.int 0)) (z := 1) (hs _ (by decide +kernel))
  | 1, _ => exact va_eqt (t := .elem (.static "RaftTown" "AREA" "[I") (.int 1)) (z := 2) (hs _ (by decide +kernel))
  | 2, _ => exact va_eqt (t := .elem (.static "RaftTown" "AREA" "[I") (.int 2)) (z := 3) (hs _ (by decide +kernel))
  | 3, _ => exact va_eqt (t := .elem (.static "RaftTown" "AREA" "[I") (.int 3)) (z := 2) (hs _ (by decide +kernel))
  | 4, _ => exact va_eqt (t := .elem (.static "RaftTown" "AREA" "[I") (.int 4)) (z := 1) (hs _ (by decide +kernel))
  | 5, _ => exact va_eqt (t := .elem (.static "RaftTown" "AREA" "[I") (.int 5)) (z := 0) (hs _ (by decide +kernel))
  | j + 6, hj => exact absurd hj (by omega)
set_option maxRecDepth 100000 in
theorem mm_zt3 {args : Array Value} {s : State} (hs : ∀ w ∈ flatC (Jvm.Cond.and given_1 narrow_1), w.before args s = true) : ∃ t : Nat, (Term.static "RaftTown" "BESIDE_X" "[I").eval args s none [] s = some (.ref t) ∧ va_T .int t 4 (fun j => mm_za3.getD j .null) (mm_B s.heap.size) s s.heap := by
  refine va_Tof (Nat.le_of_ble_eq_true rfl) (hs _ (by decide +kernel)) (va_eqt (z := 4) (hs _ (by decide +kernel))) (fun j hj => ?_) (fun a ha h => Nat.not_le.mpr ha h)
  match j, hj with
  | 0, _ => exact va_eqt (t := .elem (.static "RaftTown" "BESIDE_X" "[I") (.int 0)) (z := (-1)) (hs _ (by decide +kernel))
  | 1, _ => exact va_eqt (t := .elem (.static "RaftTown" "BESIDE_X" "[I") (.int 1)) (z := 1) (hs _ (by decide +kernel))
  | 2, _ => exact va_eqt (t := .elem (.static "RaftTown" "BESIDE_X" "[I") (.int 2)) (z := 0) (hs _ (by decide +kernel))
  | 3, _ => exact va_eqt (t := .elem (.static "RaftTown" "BESIDE_X" "[I") (.int 3)) (z := 0) (hs _ (by decide +kernel))
  | j + 4, hj => exact absurd hj (by omega)
set_option maxRecDepth 100000 in
theorem mm_zt4 {args : Array Value} {s : State} (hs : ∀ w ∈ flatC (Jvm.Cond.and given_1 narrow_1), w.before args s = true) : ∃ t : Nat, (Term.static "RaftTown" "BESIDE_Y" "[I").eval args s none [] s = some (.ref t) ∧ va_T .int t 4 (fun j => mm_za4.getD j .null) (mm_B s.heap.size) s s.heap := by
  refine va_Tof (Nat.le_of_ble_eq_true rfl) (hs _ (by decide +kernel)) (va_eqt (z := 4) (hs _ (by decide +kernel))) (fun j hj => ?_) (fun a ha h => Nat.not_le.mpr ha h)
  match j, hj with
  | 0, _ => exact va_eqt (t := .elem (.static "RaftTown" "BESIDE_Y" "[I") (.int 0)) (z := 0) (hs _ (by decide +kernel))
  | 1, _ => exact va_eqt (t := .elem (.static "RaftTown" "BESIDE_Y" "[I") (.int 1)) (z := 0) (hs _ (by decide +kernel))
  | 2, _ => exact va_eqt (t := .elem (.static "RaftTown" "BESIDE_Y" "[I") (.int 2)) (z := (-1)) (hs _ (by decide +kernel))
  | 3, _ => exact va_eqt (t := .elem (.static "RaftTown" "BESIDE_Y" "[I") (.int 3)) (z := 1) (hs _ (by decide +kernel))
  | j + 4, hj => exact absurd hj (by omega)
theorem mm_T_at {φ : Nat → Nat} {kx i t : Nat} {D : va_G} {U : State} {H : Heap} {xs : List Value} {A : Nat → Prop} (hi : φ i = t) (hk : i < kx) (hx : ∀ v ∈ xs, mm_sh φ v = v) (hT : va_T .int t xs.length (fun j => xs.getD j .null) A U H) : mm_at φ kx D vwCl U H i (.inl (.int, xs)) := by
  obtain ⟨cell, h1, h2, h3, h4, h5, h6, -⟩ := hT
  refine ⟨cell, by rw [hi]; exact h1, ⟨h4, h5, fun j v hv => ?_⟩, h3, h2, fun q => absurd q (Nat.not_le.mpr hk)⟩
  obtain ⟨hlt, he⟩ := List.getElem?_eq_some_iff.mp hv
  rw [h6 j hlt, hx v (List.mem_of_getElem? hv)]
  simp [hv]
theorem mm_ints_sh (φ : Nat → Nat) (xs : List Int32) : ∀ v ∈ xs.map Value.int, mm_sh φ v = v := by
  intro v hv
  obtain ⟨x, -, rfl⟩ := List.mem_map.mp hv
  rfl
/-- the law's start, as the small machine has it -/
theorem mm_start {p : Program} {s : State} {m : MethodId} {meth : Method} {c : Code} {b L : Nat} {xs : Nat → Int32} (hL : L ≤ 3072) (C0 : lw_At p s m meth c b L xs) : ∃ (φ : Nat → Nat) (D : va_G), mm_ph φ 5 s.heap.size ∧ φ 0 = b ∧ mm_Fx p s m #[Value.ref b] meth c φ 5 s.heap.size D 13 "RaftTownLaw" 4 false code ∧ mm_R φ 5 s.heap.size D vwCl mm_zs s (mm_m0 L xs) s.heap := by
  obtain ⟨hx, hb, hr, hml, hown, hts, hX, hbl, hlocks, hgv⟩ := id C0
  have hs := flat_of_before _ hgv
  obtain ⟨t1, e1, T1⟩ := mm_zt1 hs
  obtain ⟨t2, e2, T2⟩ := mm_zt2 hs
  obtain ⟨t3, e3, T3⟩ := mm_zt3 hs
  obtain ⟨t4, e4, T4⟩ := mm_zt4 hs
  have htg : ∀ w ∈ mm_gw, w.before #[Value.ref b] s = true := fun w hw => hts w (List.mem_filter.mp hw).1
  obtain ⟨c0, iS0, hKn0⟩ := u_known (C := RX0) (T := TX0) (N := 3) (n := 3) htg mm_fw_0 (htg (.instantiable RX0 3) (mm_wg_in (pl := 2131) (by decide +kernel)))
  obtain ⟨c1, iS1, hKn1⟩ := u_known (C := RX1) (T := TX1) (N := 9) (n := 9) htg mm_fw_1 (htg (.instantiable RX1 9) (mm_wg_in (pl := 1061) (by decide +kernel)))
  obtain ⟨c2, iS2, hKn2⟩ := u_known (C := RX2) (T := TX2) (N := 6) (n := 6) htg mm_fw_2 (htg (.instantiable RX2 6) (mm_wg_in (pl := 2103) (by decide +kernel)))
  obtain ⟨c3, iS3, hKn3⟩ := u_known (C := RX3) (T := TX3) (N := 7) (n := 7) htg mm_fw_3 (htg (.instantiable RX3 7) (mm_wg_in (pl := 1139) (by decide +kernel)))
  obtain ⟨c4, iS4, hKn4⟩ := u_known (C := RX4) (T := TX4) (N := 7) (n := 7) htg mm_fw_4 (htg (.instantiable RX4 7) (mm_wg_in (pl := 1098) (by decide +kernel)))
  obtain ⟨c5, iS5, hKn5⟩ := u_known (C := RX5) (T := TX5) (N := 8) (n := 8) htg mm_fw_5 (htg (.instantiable RX5 8) (mm_wg_in (pl := 1180) (by decide +kernel)))
  obtain ⟨c6, iS6, hKn6⟩ := u_known (C := RX6) (T := TX6) (N := 3) (n := 3) htg mm_fw_6 (htg (.instantiable RX6 3) (mm_wg_in (pl := 1037) (by decide +kernel)))
  obtain ⟨c7, iS7, hKn7⟩ := u_known (C := RX7) (T := TX7) (N := 3) (n := 3) htg mm_fw_7 (htg (.instantiable RX7 3) (mm_wg_in (pl := 2053) (by decide +kernel)))
  obtain ⟨c8, iS8, hKn8⟩ := u_known (C := RX8) (T := TX8) (N := 7) (n := 7) htg mm_fw_8 (htg (.instantiable RX8 7) (mm_wg_in (pl := 2072) (by decide +kernel)))
  obtain ⟨c9, iS9, hKn9⟩ := u_known (C := RX9) (T := TX9) (N := 4) (n := 4) htg mm_fw_9 (htg (.instantiable RX9 4) (mm_wg_in (pl := 1226) (by decide +kernel)))
  obtain ⟨c10, iS10, hKn10⟩ := u_known (C := RX10) (T := TX10) (N := 12) (n := 12) htg mm_fw_10 (htg (.instantiable RX10 12) (mm_wg_in (pl := 1031) (by decide +kernel)))
  obtain ⟨c11, iS11, hKn11⟩ := u_known (C := RX11) (T := TX11) (N := 8) (n := 8) htg mm_fw_11 (htg (.instantiable RX11 8) (mm_wg_in (pl := 1023) (by decide +kernel)))
  obtain ⟨c12, iS12, hKn12⟩ := u_known (C := RX12) (T := TX12) (N := 26) (n := 26) htg mm_fw_12 (htg (.instantiable RX12 26) (mm_wg_in (pl := 6138) (by decide +kernel)))
  obtain ⟨D, hKc⟩ : ∃ D : va_G, ∀ (k : Nat) (q : vw_C), vwCl[k]? = some q → u_Kn s q.1 q.2.1 q.2.2 (D.1 k) (D.2 k) := by
    refine ⟨(fun k => if k = 0 then c0 else if k = 1 then c1 else if k = 2 then c2 else if k = 3 then c3 else if k = 4 then c4 else if k = 5 then c5 else if k = 6 then c6 else if k = 7 then c7 else if k = 8 then c8 else if k = 9 then c9 else if k = 10 then c10 else if k = 11 then c11 else c12, fun k => if k = 0 then iS0 else if k = 1 then iS1 else if k = 2 then iS2 else if k = 3 then iS3 else if k = 4 then iS4 else if k = 5 then iS5 else if k = 6 then iS6 else if k = 7 then iS7 else if k = 8 then iS8 else if k = 9 then iS9 else if k = 10 then iS10 else if k = 11 then iS11 else iS12), ?_⟩
    intro k q hq
    match k, hq with
    | 0, hq => cases hq; exact hKn0
    | 1, hq => cases hq; exact hKn1
    | 2, hq => cases hq; exact hKn2
    | 3, hq => cases hq; exact hKn3
    | 4, hq => cases hq; exact hKn4
    | 5, hq => cases hq; exact hKn5
    | 6, hq => cases hq; exact hKn6
    | 7, hq => cases hq; exact hKn7
    | 8, hq => cases hq; exact hKn8
    | 9, hq => cases hq; exact hKn9
    | 10, hq => cases hq; exact hKn10
    | 11, hq => cases hq; exact hKn11
    | 12, hq => cases hq; exact hKn12
    | k + 13, hq => simp [vwCl] at hq
  have hA : ∀ a : Nat, a < s.heap.size → ¬ mm_B s.heap.size a := fun a ha h => Nat.not_le.mpr ha h
  have hnst : ∀ w ∈ lw_tbl, mm_nest w = true → va_Nw w s := by
    intro w hw hn
    refine va_Nw.of ?_ (hts w hw)
    unfold mm_nest at hn
    split at hn
    · rfl
    · rfl
    · cases hn
  have hctx : mm_Ctx D s := ⟨⟨hKc, fun k q h => by simp at h⟩, hnst, fun C hC => va_AO.of (hts _ hC)⟩
  have l1 : t1 < s.heap.size := by obtain ⟨cell, h1, -⟩ := T1; exact (Array.getElem?_eq_some_iff.mp h1).1
  have l2 : t2 < s.heap.size := by obtain ⟨cell, h1, -⟩ := T2; exact (Array.getElem?_eq_some_iff.mp h1).1
  have l3 : t3 < s.heap.size := by obtain ⟨cell, h1, -⟩ := T3; exact (Array.getElem?_eq_some_iff.mp h1).1
  have l4 : t4 < s.heap.size := by obtain ⟨cell, h1, -⟩ := T4; exact (Array.getElem?_eq_some_iff.mp h1).1
  have hph : mm_ph (mm_f0 b t1 t2 t3 t4 s.heap.size) 5 s.heap.size := by
    refine ⟨fun i hi => ?_, fun i hi => ?_⟩
    · match i, hi with
      | 0, _ => exact hbl
      | 1, _ => exact l1
      | 2, _ => exact l2
      | 3, _ => exact l3
      | 4, _ => exact l4
      | k + 5, hi => exact absurd hi (by omega)
    · obtain ⟨k, rfl⟩ : ∃ k, i = k + 5 := ⟨i - 5, by omega⟩
      show s.heap.size + k = _
      omega
  have ini : Cond.initialized "RaftTown" ∈ mm_gw := mm_wg_in (pl := 1001) (by decide +kernel)
  refine ⟨mm_f0 b t1 t2 t3 t4 s.heap.size, D, hph, rfl, ⟨hx, hb, hml, hown, rfl, htg, hctx, hph, Nat.le_refl _, fun h => by cases h⟩, Nat.le_refl 5, rfl, fun i q hq => ?_, fun z hz => ?_⟩
  · match i, hq with
    | 0, hq =>
      cases hq
      obtain ⟨scr, h1, h2, h3, h4, h5⟩ := hX
      refine ⟨scr, h1, ⟨by simp [mm_scr, h4], by rw [h4]; simp [mm_scr], fun j v hv => ?_⟩, h3, h2, fun q => absurd q (by decide)⟩
      simp only [mm_scr, List.getElem?_map, Option.map_eq_some_iff] at hv
      obtain ⟨j', hj', rfl⟩ := hv
      obtain ⟨hlt, he⟩ := List.getElem?_eq_some_iff.mp hj'
      simp at hlt he
      subst he
      exact h5 j hlt
    | 1, hq => cases hq; exact mm_T_at rfl (by decide) (by intro v hv; simp only [mm_za1, List.mem_cons, List.not_mem_nil, or_false] at hv; rcases hv with rfl | rfl | rfl | rfl | rfl | rfl <;> rfl) T1
    | 2, hq => cases hq; exact mm_T_at rfl (by decide) (by intro v hv; simp only [mm_za2, List.mem_cons, List.not_mem_nil, or_false] at hv; rcases hv with rfl | rfl | rfl | rfl | rfl | rfl <;> rfl) T2
    | 3, hq => cases hq; exact mm_T_at rfl (by decide) (by intro v hv; simp only [mm_za3, List.mem_cons, List.not_mem_nil, or_false] at hv; rcases hv with rfl | rfl | rfl | rfl <;> rfl) T3
    | 4, hq => cases hq; exact mm_T_at rfl (by decide) (by intro v hv; simp only [mm_za4, List.mem_cons, List.not_mem_nil, or_false] at hv; rcases hv with rfl | rfl | rfl | rfl <;> rfl) T4
    | k + 5, hq => simp [mm_m0] at hq
  · simp only [mm_zs, List.mem_cons, List.not_mem_nil, or_false] at hz
    rcases hz with rfl | rfl | rfl | rfl
    · exact va_Zref (hts _ (mm_wd_in (pl := 2228) (by decide +kernel))) (htg _ ini) e1 hA
    · exact va_Zref (hts _ (mm_wd_in (pl := 3012) (by decide +kernel))) (htg _ ini) e2 hA
    · exact va_Zref (hts _ (mm_wd_in (pl := 6032) (by decide +kernel))) (htg _ ini) e3 hA
    · exact va_Zref (hts _ (mm_wd_in (pl := 6034) (by decide +kernel))) (htg _ ini) e4 hA
set_option maxRecDepth 100000 in
/-- THE LAW, from its entry, by a run of the small machine -/
theorem mm_whole {p : Program} {e : Env} {s : State} {m : MethodId} {below : List Frame} {meth : Method} {c : Code} (l : Launch) {b L : Nat} {xs : Nat → Int32} (hL : L ≤ 3072) (C0 : lw_At p s m meth c b L xs) (hrun : ∃ (n d : Nat) (τ : mm_S), d ≤ 1000 ∧ mm_run 5 mm_zs n d (13, code, 4, false) (0, [(0, .ref 0)], [], mm_m0 L xs, 600000, 7302250) = some τ ∧ τ.2.2.1 = [.int 1] ∧ decode code τ.1 = .ok (.ireturn, 1)) : W p l e room_1 s m #[Value.ref b] below meth c s.heap [] 0 0 (lw_Z below #[Value.ref b] s) (entryFrame m ([Value.ref b] : List Value).toArray 4) := by
  obtain ⟨φ, D, hph, h0, F, hR⟩ := mm_start hL C0
  obtain ⟨hx, hb, hr, hml, hown, hts, hX, hbl, hlocks, hgv⟩ := C0
  obtain ⟨n, d, τ, hd, hrun, hst, hdec⟩ := hrun
  have hend : mm_Go p l e room_1 s m #[Value.ref b] below meth c φ 5 s.heap.size D mm_zs 4 (lw_Z below #[Value.ref b] s) τ := by
    obtain ⟨pc, lv, st, mem, cb, sb⟩ := τ
    dsimp only at hst hdec
    subst hst
    intro H locs ls cells slots hR hS hl hc hs
    refine va_forget hS.2.2 (W.widen (k := 600000) (n := 7302250) ?_ ?_ (lw_ret hx hb hr hlocks hdec))
    · have : cells + cb = 600000 := hc
      omega
    · have : slots + sb = 7302250 := hs
      omega
  have hgo := mm_run_ok l φ 5 s.heap.size D mm_zs hph n d (13, code, 4, false) _ τ hrun F (R := room_1) ⟨by show d + 1 ≤ 2048; omega, by show 64 * (d + 1) ≤ 84000; omega⟩ hend
  have hl := lv_entry ([.ref b]) (n := 4) (Nat.le_of_ble_eq_true rfl)
  rw [lg_entry_eq]
  exact hgo s.heap [] _ 0 0 hR va_S.rf (by show lv_has _ _ [(0, .ref (φ 0))]; rw [h0]; exact hl) (Nat.zero_add _) (Nat.zero_add _)
