/-! ===== the small machine's context, and its rows on cells ===== -/
def mm_nest : Cond → Bool
  | .fieldLinkNest _ _ _ _ _ _ => true
  | .methodLinkNest _ _ _ _ => true
  | _ => false
def mm_Ctx (φ : Nat → Nat) (D : va_G) (U : State) : Prop := va_K D vwCl [] U ∧ (∀ w ∈ lw_tbl, mm_nest w = true → va_Nw w U) ∧ (∀ C : String, Cond.arrayOver (.object C) ∈ lw_tbl → va_AO C U) ∧ ∀ j, j < 16 → ∃ tx : String, vk_R "RaftTown$Tape" (122 + 2 * j) tx (φ (5 + j)) U
theorem mm_ci {ci : Nat} {r : vw_C} (h : vwCl[ci]? = some r) : ci < 13 := (List.getElem?_eq_some_iff.mp h).1
theorem mm_Ctx_warm {φ : Nat → Nat} {D : va_G} {s U : State} (hW : s.WarmedH U.vm) (h : mm_Ctx φ D s) : mm_Ctx φ D U := by
  refine ⟨va_K.moved hW.alike h.1, fun w hw hn => ?_, fun C hC => (h.2.2.1 C hC).moved hW.alike, fun j hj => ?_⟩
  case refine_2 =>
    obtain ⟨tx, ht⟩ := h.2.2.2 j hj
    exact ⟨tx, vk_R.warm hW ht⟩
  have h1 := h.2.1 w hw hn
  unfold mm_nest at hn
  split at hn
  · exact h1.warmF hW
  · exact h1.warmM hW
  · cases hn
def mm_Fx (p : Program) (s : State) (m : MethodId) (args : Array Value) (meth : Method) (c : Code) (φ : Nat → Nat) (kx bs : Nat) (D : va_G) (o : Nat) (own : String) (nL : Nat) (ini : Bool) (cc : ByteArray) : Prop :=
  p.tables.exec = Jvm.exec ∧ c.code = cc ∧ c.maxLocals = nL ∧ s.vm.findClass own = some m.cls ∧ mm_cns[o]? = some own ∧ (∀ w ∈ mm_gw, w.before args s = true) ∧ mm_Ctx φ D s ∧ mm_ph φ kx bs ∧ bs ≤ s.heap.size ∧ (ini = true → meth.name = "<init>")
abbrev mm_S : Type := Nat × List (Nat × Value) × List Value × List mm_C × Nat × Nat
def mm_Go (p : Program) (l : Launch) (e : Env) (R : Room) (s : State) (m : MethodId) (args : Array Value) (below : List Frame) (meth : Method) (c : Code) (φ : Nat → Nat) (kx bs : Nat) (D : va_G) (zs : List mm_Zt) (nL : Nat) (Q : State → Prop) (σ : mm_S) : Prop :=
  ∀ (H : Heap) (locs : List Loc) (ls : Array Slot) (cells slots : Nat), mm_R φ kx bs D vwCl zs s σ.2.2.2.1 H → va_S (mm_B bs) s.heap H locs → lv_has ls nL (mm_sl φ σ.2.1) → cells + σ.2.2.2.2.1 = R.cells → slots + σ.2.2.2.2.2 = R.slots →
    W p l e R s m args below meth c H locs cells slots Q (F0 m σ.1 ls (σ.2.2.1.map (mm_sh φ)))
def mm_look (o idx : Nat) : Option mm_Pe := (mm_pool o).find? (fun e => e.1 == idx)
theorem mm_look_ok {o idx : Nat} {e : mm_Pe} (h : mm_look o idx = some e) : e.1 = idx ∧ mm_pchk o e = true := by
  refine ⟨?_, mm_pool_ok o e (List.mem_of_find?_eq_some h)⟩
  have := List.find?_some h
  simpa using this
theorem mm_ph_ge {φ : Nat → Nat} {kx bs i : Nat} (h : mm_ph φ kx bs) (hi : kx ≤ i) : mm_B bs (φ i) := by
  show bs ≤ φ i
  rw [h.2 i hi]
  exact Nat.le_add_right _ _
theorem mm_pchk_own {o : Nat} {own : String} {e : mm_Pe} (ho : mm_cns[o]? = some own) (h : mm_pchk o e = true) : (match e.2.1 with
    | 0 => match vwCl[e.2.2.1]? with
      | some r => decide (e.2.2.2.1 < r.2.2) && mm_wg e.2.2.2.2.2 (.fieldLink own e.1 (r.2.1 e.2.2.2.1).1 (r.2.1 e.2.2.2.1).2.1 (r.2.1 e.2.2.2.1).2.2.1)
      | none => decide (e.2.2.1 = 15) && decide (e.2.2.2.1 < 2) && mm_wg e.2.2.2.2.2 (.fieldLink own e.1 "java/lang/String" (mm_sn e.2.2.2.1).1 (mm_sn e.2.2.2.1).2)
    | 1 => match vwCl[e.2.2.1]? with
      | some r => decide (e.2.2.2.1 < r.2.2) && mm_wd e.2.2.2.2.2 (.fieldLinkNest own e.1 (r.2.1 e.2.2.2.1).1 (r.2.1 e.2.2.2.1).2.1 (r.2.1 e.2.2.2.1).2.2.1 "RaftTown")
      | none => false
    | 2 => match mm_mths[e.2.2.1]? with
      | some t => mm_wg e.2.2.2.2.2 (.methodLink own e.1 t.2.1)
      | none => false
    | 3 => match mm_mths[e.2.2.1]? with
      | some t => mm_wd e.2.2.2.2.2 (.methodLinkNest own e.1 t.2.1 "RaftTown")
      | none => false
    | 4 => match vwCl[e.2.2.1]? with
      | some r => mm_wg e.2.2.2.2.2 (.classLink own e.1 r.1) && mm_wg e.2.2.2.1 (.instantiable r.1 r.2.2) && mm_wg e.2.2.2.2.1.toNat (.initialized r.1)
      | none => false
    | 6 => mm_wg e.2.2.2.2.2 (.constant own e.1 (Int32.ofInt e.2.2.2.2.1))
    | 7 => mm_wg e.2.2.2.2.2 (.constantLong own e.1 (Int64.ofInt e.2.2.2.2.1))
    | 12 => true
    | 8 => mm_wg e.2.2.2.2.2 (.methodLink own e.1 Lib.objectInit)
    | 9 => mm_wg e.2.2.2.2.2 (.methodLink own e.1 arraycopyName)
    | 13 => mm_wg e.2.2.2.2.2 (.methodLink own e.1 Lib.Math.max.name)
    | 14 => mm_wg e.2.2.2.2.2 (.methodLink own e.1 Lib.Math.min.name)
    | 10 => match mm_sts[e.2.2.1]? with
      | some z => mm_wg e.2.2.2.2.2 (.fieldLink own e.1 z.1 z.2.1 z.2.2)
      | none => false
    | 11 => match mm_sts[e.2.2.1]? with
      | some z => mm_wd e.2.2.2.2.2 (.fieldLinkNest own e.1 z.1 z.2.1 z.2.2 "RaftTown")
      | none => false
    | _ => false) = true := by
  unfold mm_pchk at h
  rw [ho] at h
  exact h
theorem mm_p0 {o idx a b pl : Nat} {z : Int} {own : String} (ho : mm_cns[o]? = some own) (h : mm_look o idx = some (idx, 0, a, b, z, pl)) : (∃ r, vwCl[a]? = some r ∧ b < r.2.2 ∧ Cond.fieldLink own idx (r.2.1 b).1 (r.2.1 b).2.1 (r.2.1 b).2.2.1 ∈ mm_gw) ∨ (a = 15 ∧ b < 2 ∧ Cond.fieldLink own idx "java/lang/String" (mm_sn b).1 (mm_sn b).2 ∈ mm_gw) := by
  have h1 : (match vwCl[a]? with
      | some r => decide (b < r.2.2) && mm_wg pl (.fieldLink own idx (r.2.1 b).1 (r.2.1 b).2.1 (r.2.1 b).2.2.1)
      | none => decide (a = 15) && decide (b < 2) && mm_wg pl (.fieldLink own idx "java/lang/String" (mm_sn b).1 (mm_sn b).2)) = true := mm_pchk_own ho (mm_look_ok h).2
  split at h1
  · next r hr =>
    simp only [Bool.and_eq_true, decide_eq_true_eq] at h1
    exact Or.inl ⟨r, hr, h1.1, mm_wg_in h1.2⟩
  · simp only [Bool.and_eq_true, decide_eq_true_eq] at h1
    exact Or.inr ⟨h1.1.1, h1.1.2, mm_wg_in h1.2⟩
theorem mm_p0v {o idx a b pl : Nat} {z : Int} {own : String} {q : vw_C} (ho : mm_cns[o]? = some own) (h : mm_look o idx = some (idx, 0, a, b, z, pl)) (hq : vwCl[a]? = some q) : ∃ r, vwCl[a]? = some r ∧ b < r.2.2 ∧ Cond.fieldLink own idx (r.2.1 b).1 (r.2.1 b).2.1 (r.2.1 b).2.2.1 ∈ mm_gw := by
  rcases mm_p0 ho h with h | ⟨rfl, -⟩
  · exact h
  · exact absurd (mm_ci hq) (by decide)
theorem mm_p1 {o idx a b pl : Nat} {z : Int} {own : String} (ho : mm_cns[o]? = some own) (h : mm_look o idx = some (idx, 1, a, b, z, pl)) : ∃ r, vwCl[a]? = some r ∧ b < r.2.2 ∧ Cond.fieldLinkNest own idx (r.2.1 b).1 (r.2.1 b).2.1 (r.2.1 b).2.2.1 "RaftTown" ∈ lw_tbl := by
  have h1 : (match vwCl[a]? with
      | some r => decide (b < r.2.2) && mm_wd pl (.fieldLinkNest own idx (r.2.1 b).1 (r.2.1 b).2.1 (r.2.1 b).2.2.1 "RaftTown")
      | none => false) = true := mm_pchk_own ho (mm_look_ok h).2
  split at h1
  · next r hr =>
    simp only [Bool.and_eq_true, decide_eq_true_eq] at h1
    exact ⟨r, hr, h1.1, mm_wd_in h1.2⟩
  · cases h1
theorem mm_p4 {o idx a b pl : Nat} {z : Int} {own : String} (ho : mm_cns[o]? = some own) (h : mm_look o idx = some (idx, 4, a, b, z, pl)) : ∃ r, vwCl[a]? = some r ∧ Cond.classLink own idx r.1 ∈ mm_gw ∧ Cond.instantiable r.1 r.2.2 ∈ mm_gw ∧ Cond.initialized r.1 ∈ mm_gw := by
  have h1 : (match vwCl[a]? with
      | some r => mm_wg pl (.classLink own idx r.1) && mm_wg b (.instantiable r.1 r.2.2) && mm_wg z.toNat (.initialized r.1)
      | none => false) = true := mm_pchk_own ho (mm_look_ok h).2
  split at h1
  · next r hr =>
    simp only [Bool.and_eq_true] at h1
    exact ⟨r, hr, mm_wg_in h1.1.1, mm_wg_in h1.1.2, mm_wg_in h1.2⟩
  · cases h1
theorem mm_p10 {o idx a b pl : Nat} {z : Int} {own : String} (ho : mm_cns[o]? = some own) (h : mm_look o idx = some (idx, 10, a, b, z, pl)) : ∃ r, mm_sts[a]? = some r ∧ Cond.fieldLink own idx r.1 r.2.1 r.2.2 ∈ mm_gw := by
  have h1 : (match mm_sts[a]? with
      | some z => mm_wg pl (.fieldLink own idx z.1 z.2.1 z.2.2)
      | none => false) = true := mm_pchk_own ho (mm_look_ok h).2
  split at h1
  · next r hr => exact ⟨r, hr, mm_wg_in h1⟩
  · cases h1
theorem mm_p11 {o idx a b pl : Nat} {z : Int} {own : String} (ho : mm_cns[o]? = some own) (h : mm_look o idx = some (idx, 11, a, b, z, pl)) : ∃ r, mm_sts[a]? = some r ∧ Cond.fieldLinkNest own idx r.1 r.2.1 r.2.2 "RaftTown" ∈ lw_tbl := by
  have h1 : (match mm_sts[a]? with
      | some z => mm_wd pl (.fieldLinkNest own idx z.1 z.2.1 z.2.2 "RaftTown")
      | none => false) = true := mm_pchk_own ho (mm_look_ok h).2
  split at h1
  · next r hr => exact ⟨r, hr, mm_wd_in h1⟩
  · cases h1
theorem mm_p2 {o idx a b pl : Nat} {z : Int} {own : String} (ho : mm_cns[o]? = some own) (h : mm_look o idx = some (idx, 2, a, b, z, pl)) : ∃ t, mm_mths[a]? = some t ∧ Cond.methodLink own idx t.2.1 ∈ mm_gw := by
  have h1 : (match mm_mths[a]? with
      | some t => mm_wg pl (.methodLink own idx t.2.1)
      | none => false) = true := mm_pchk_own ho (mm_look_ok h).2
  split at h1
  · next r hr => exact ⟨r, hr, mm_wg_in h1⟩
  · cases h1
theorem mm_p3 {o idx a b pl : Nat} {z : Int} {own : String} (ho : mm_cns[o]? = some own) (h : mm_look o idx = some (idx, 3, a, b, z, pl)) : ∃ t, mm_mths[a]? = some t ∧ Cond.methodLinkNest own idx t.2.1 "RaftTown" ∈ lw_tbl := by
  have h1 : (match mm_mths[a]? with
      | some t => mm_wd pl (.methodLinkNest own idx t.2.1 "RaftTown")
      | none => false) = true := mm_pchk_own ho (mm_look_ok h).2
  split at h1
  · next r hr => exact ⟨r, hr, mm_wd_in h1⟩
  · cases h1
theorem mm_p6 {o idx a b pl : Nat} {z : Int} {own : String} (ho : mm_cns[o]? = some own) (h : mm_look o idx = some (idx, 6, a, b, z, pl)) : Cond.constant own idx (Int32.ofInt z) ∈ mm_gw := mm_wg_in (mm_pchk_own ho (mm_look_ok h).2)
theorem mm_p7 {o idx a b pl : Nat} {z : Int} {own : String} (ho : mm_cns[o]? = some own) (h : mm_look o idx = some (idx, 7, a, b, z, pl)) : Cond.constantLong own idx (Int64.ofInt z) ∈ mm_gw := mm_wg_in (mm_pchk_own ho (mm_look_ok h).2)
theorem mm_p8 {o idx a b pl : Nat} {z : Int} {own : String} (ho : mm_cns[o]? = some own) (h : mm_look o idx = some (idx, 8, a, b, z, pl)) : Cond.methodLink own idx Lib.objectInit ∈ mm_gw := mm_wg_in (mm_pchk_own ho (mm_look_ok h).2)
theorem mm_p9 {o idx a b pl : Nat} {z : Int} {own : String} (ho : mm_cns[o]? = some own) (h : mm_look o idx = some (idx, 9, a, b, z, pl)) : Cond.methodLink own idx arraycopyName ∈ mm_gw := mm_wg_in (mm_pchk_own ho (mm_look_ok h).2)
theorem mm_p13 {o idx a b pl : Nat} {z : Int} {own : String} (ho : mm_cns[o]? = some own) (h : mm_look o idx = some (idx, 13, a, b, z, pl)) : Cond.methodLink own idx Lib.Math.max.name ∈ mm_gw := mm_wg_in (mm_pchk_own ho (mm_look_ok h).2)
theorem mm_p14 {o idx a b pl : Nat} {z : Int} {own : String} (ho : mm_cns[o]? = some own) (h : mm_look o idx = some (idx, 14, a, b, z, pl)) : Cond.methodLink own idx Lib.Math.min.name ∈ mm_gw := mm_wg_in (mm_pchk_own ho (mm_look_ok h).2)
