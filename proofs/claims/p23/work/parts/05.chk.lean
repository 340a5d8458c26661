/-! ===== what pools and methods say, checked against the tables' words ===== -/
def mm_gw : List Cond := lw_tbl.filter goodWord
def mm_wd (pl : Nat) (w : Cond) : Bool := decide ((mm_tab (pl / 1000))[pl % 1000]? = some w)
def mm_wg (pl : Nat) (w : Cond) : Bool := mm_wd pl w && goodWord w
theorem mm_tab_in {t : Nat} {w : Cond} (h : w ∈ mm_tab t) : w ∈ lw_tbl := by
  unfold mm_tab at h
  unfold lw_tbl tables_1
  simp only [List.mem_append]
  split at h <;> first | (simp [h]; done) | exact absurd h List.not_mem_nil
theorem mm_wd_in {pl : Nat} {w : Cond} (h : mm_wd pl w = true) : w ∈ lw_tbl := mm_tab_in (List.mem_of_getElem? (of_decide_eq_true h))
theorem mm_wg_in {pl : Nat} {w : Cond} (h : mm_wg pl w = true) : w ∈ mm_gw := by
  unfold mm_wg at h
  simp only [Bool.and_eq_true] at h
  exact List.mem_filter.mpr ⟨mm_wd_in h.1, h.2⟩
/-- the two fields of a String that are read -/
def mm_sn (k : Nat) : String × String := if k = 0 then ("value", "[B") else ("coder", "B")
def mm_pchk (o : Nat) (e : mm_Pe) : Bool := match mm_cns[o]? with
  | none => false
  | some own => match e.2.1 with
    | 0 => match vwCl[e.2.2.1]? with
      | some r => decide (e.2.2.2.1 < r.2.2) && mm_wg e.2.2.2.2.2 (.fieldLink own e.1 (r.2.1 e.2.2.2.1).1 (r.2.1 e.2.2.2.1).2.1 (r.2.1 e.2.2.2.1).2.2.1)
      | none => decide (e.2.2.1 = 15) && decide (e.2.2.2.1 < 2) && mm_wg e.2.2.2.2.2 (.fieldLink own e.1 "java/lang/String" (mm_sn e.2.2.2.1).1 (mm_sn e.2.2.2.1).2)
    | 1 => match vwCl[e.2.2.1]? with
      | some r => decide (e.2.2.2.1 < r.2.2) && mm_wd e.2.2.2.2.2 (.fieldLinkNest own e.1 (r.2.1 e.2.2.2.1).1 (r.2.1 e.2.2.2.1).2.1 (r.2.1 e.2.2.2.1).2.2.1 "RaftTown")
      | none => false
    | 2 => match mm_mths[e.2.2.1]? with
      | some t => mm_wg e.2.2.2.2.2 (.methodLink own e.1 t.2.1)
      | none => false
    | 3 => match mm_mths[e.2.2.1]? with
      | some t => mm_wd e.2.2.2.2.2 (.methodLinkNest own e.1 t.2.1 "RaftTown")
      | none => false
    | 4 => match vwCl[e.2.2.1]? with
      | some r => mm_wg e.2.2.2.2.2 (.classLink own e.1 r.1) && mm_wg e.2.2.2.1 (.instantiable r.1 r.2.2) && mm_wg e.2.2.2.2.1.toNat (.initialized r.1)
      | none => false
    | 6 => mm_wg e.2.2.2.2.2 (.constant own e.1 (Int32.ofInt e.2.2.2.2.1))
    | 7 => mm_wg e.2.2.2.2.2 (.constantLong own e.1 (Int64.ofInt e.2.2.2.2.1))
    | 12 => true
    | 8 => mm_wg e.2.2.2.2.2 (.methodLink own e.1 Lib.objectInit)
    | 9 => mm_wg e.2.2.2.2.2 (.methodLink own e.1 arraycopyName)
    | 13 => mm_wg e.2.2.2.2.2 (.methodLink own e.1 Lib.Math.max.name)
    | 14 => mm_wg e.2.2.2.2.2 (.methodLink own e.1 Lib.Math.min.name)
    | 10 => match mm_sts[e.2.2.1]? with
      | some z => mm_wg e.2.2.2.2.2 (.fieldLink own e.1 z.1 z.2.1 z.2.2)
      | none => false
    | 11 => match mm_sts[e.2.2.1]? with
      | some z => mm_wd e.2.2.2.2.2 (.fieldLinkNest own e.1 z.1 z.2.1 z.2.2 "RaftTown")
      | none => false
    | _ => false
def mm_mchk (t : mm_Mt) : Bool := plainName t.2.1.cls && decide (mm_cns[t.1]? = some t.2.1.cls)
  && mm_wg (t.2.2.2.2.2.2.2.getD 3 0) (.initialized t.2.1.cls) && decide (t.2.1.cls ≠ "java/lang/invoke/MethodHandle") && decide (t.2.1.cls ≠ "java/lang/invoke/VarHandle") && decide ((parseMethodDescriptor t.2.1.desc).map (fun d => d.parameters.length) = some t.2.2.2.2.2.1) && decide (t.2.2.2.1 ≤ 45)
  && match t.2.2.2.2.2.2.1 with
    | 0 => mm_wg (t.2.2.2.2.2.2.2.getD 1 0) (.static t.2.1)
    | 1 => mm_wg (t.2.2.2.2.2.2.2.getD 1 0) (.instanceMethod t.2.1) && mm_wg (t.2.2.2.2.2.2.2.getD 2 0) (.selects t.2.1.cls t.2.1 t.2.1)
    | _ => mm_wg (t.2.2.2.2.2.2.2.getD 1 0) (.instanceMethod t.2.1) && decide (t.2.1.name = "<init>")
