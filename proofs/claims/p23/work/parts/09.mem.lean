/-! ===== the small machine's steps on cells ===== -/
section MM
variable {p : Program} {l : Launch} {e : Env} {R : Room} {s : State} {m : MethodId} {args : Array Value} {below : List Frame} {meth : Method} {c : Code} {Q : State → Prop} {H : Heap} {locs : List Loc} {cells slots : Nat}
variable {φ : Nat → Nat} {kx bs : Nat} {D : va_G} {zs : List mm_Zt} {cc : ByteArray} {o nL : Nat} {own : String} {ini : Bool} {mem : List mm_C} {pc : Nat} {ls : Array Slot} {rest : List Value}
theorem mm_P1c {i ci : Nat} {fs : List Value} (hR : mm_R φ kx bs D vwCl zs s mem H) (hi : mem[i]? = some (.inr (ci, fs))) (hc : ci < 13) : va_P D vwCl [(φ i, .inr (ci, fs.map (mm_sh φ)))] H := by
  intro k q hq
  have hz : k < 1 := (List.getElem?_eq_some_iff.mp hq).1
  rw [show k = 0 by omega] at hq
  cases hq
  obtain ⟨r, h1, -, h3⟩ := mm_at_ob (hR.2.2.1 i _ hi) hc
  exact ⟨r, h1, h3⟩
theorem mm_getf (F : mm_Fx p s m args meth c φ kx bs D o own nL ini cc) (hR : mm_R φ kx bs D vwCl zs s mem H) {i ci k idx : Nat} {fs : List Value} {v : Value} {r : vw_C} (hi : mem[i]? = some (.inr (ci, fs))) (hr : vwCl[ci]? = some r) (hk : k < r.2.2) (hv : fs[k]? = some v) (hl : Cond.fieldLink own idx (r.2.1 k).1 (r.2.1 k).2.1 (r.2.1 k).2.2.1 ∈ mm_gw) (hdg : decode cc pc = .ok (.getfield idx, 3))
    (kk : W p l e R s m args below meth c H locs cells slots Q (F0 m (pc + 3) ls (mm_sh φ v :: rest))) : W p l e R s m args below meth c H locs cells slots Q (F0 m pc ls (.ref (φ i) :: rest)) := by
  obtain ⟨hx, hb, -, hown, -, hts, hctx, -⟩ := F
  exact va_get hx hb hts (mm_cls ci r hr).1 hown hctx.1 (mm_P1c hR hi (mm_ci hr)) 0 rfl hr k hk (hts _ hl) (fun _ h => h) (by rw [List.getElem?_map, hv]; rfl) hdg kk
theorem mm_getN (F : mm_Fx p s m args meth c φ kx bs D o own nL ini cc) (hR : mm_R φ kx bs D vwCl zs s mem H) {i ci k idx : Nat} {fs : List Value} {v : Value} {r : vw_C} (hi : mem[i]? = some (.inr (ci, fs))) (hr : vwCl[ci]? = some r) (hk : k < r.2.2) (hv : fs[k]? = some v) (hl : Cond.fieldLinkNest own idx (r.2.1 k).1 (r.2.1 k).2.1 (r.2.1 k).2.2.1 "RaftTown" ∈ lw_tbl) (hdg : decode cc pc = .ok (.getfield idx, 3))
    (kk : W p l e R s m args below meth c H locs cells slots Q (F0 m (pc + 3) ls (mm_sh φ v :: rest))) : W p l e R s m args below meth c H locs cells slots Q (F0 m pc ls (.ref (φ i) :: rest)) := by
  obtain ⟨hx, hb, -, hown, -, hts, hctx, -⟩ := F
  exact va_getN hx hb hts (mm_cls ci r hr).1 hown hctx.1 (mm_P1c hR hi (mm_ci hr)) 0 rfl hr k hk (va_Nw.use rfl (hctx.2.1 _ hl rfl)) (fun _ h => h) (by rw [List.getElem?_map, hv]; rfl) hdg kk
/-- a field of a String constant -/
theorem mm_getK (F : mm_Fx p s m args meth c φ kx bs D o own nL ini cc) (hR : mm_R φ kx bs D vwCl zs s mem H) {i k idx : Nat} {fs : List Value} {v : Value} (hi : mem[i]? = some (.inr (15, fs))) (hk : k < 2) (hv : fs[k]? = some v) (hl : Cond.fieldLink own idx "java/lang/String" (mm_sn k).1 (mm_sn k).2 ∈ mm_gw) (hdg : decode cc pc = .ok (.getfield idx, 3))
    (kk : W p l e R s m args below meth c H locs cells slots Q (F0 m (pc + 3) ls (mm_sh φ v :: rest))) : W p l e R s m args below meth c H locs cells slots Q (F0 m pc ls (.ref (φ i) :: rest)) := by
  obtain ⟨hx, hb, -, hown, -, hts, hctx, -⟩ := F
  have h15 : (13 : Nat) ≤ 15 ∧ mm_sc φ s H i (15, fs) := by
    rcases hR.2.2.1 i _ hi with ⟨h, -⟩ | h
    · exact absurd h (show ¬ (15 : Nat) < 13 by decide)
    · exact h
  obtain ⟨-, c0, -, h2⟩ := h15
  obtain ⟨w, rfl, -, g1, g2⟩ := h2 rfl
  match k, hk with
  | 0, _ =>
    cases hv
    obtain ⟨cf, k, fi, f, cell, h1, h2, h3, h4, h5, -⟩ := g1
    exact W.getf hx hb hown (hts _ hl) h1 h2 h3 h4 (v := .ref (φ w)) h5 rfl rfl hdg kk
  | 1, _ =>
    cases hv
    obtain ⟨cf, k, fi, f, cell, h1, h2, h3, h4, h5, -⟩ := g2
    exact W.getf hx hb hown (hts _ hl) h1 h2 h3 h4 (v := .int 0) h5 rfl rfl hdg kk
/-- a field of a cell of ours is another now -/
theorem mm_put_end (F : mm_Fx p s m args meth c φ kx bs D o own nL ini cc) (hR : mm_R φ kx bs D vwCl zs s mem H) (hS : va_S (mm_B bs) s.heap H locs) {i ci k : Nat} {fs : List Value} {v : Value} {r : vw_C} (hki : kx ≤ i) (hi : mem[i]? = some (.inr (ci, fs))) (hr : vwCl[ci]? = some r) (hk : k < r.2.2) {cell : Cell} (q2 : cell.cls = D.1 ci) (q3 : cell.vm = .none) (q4 : ∀ k, k < r.2.2 → cell.slots[D.2 ci k]? = some (vp_V (fs.map (mm_sh φ)) k)) {H' : Heap}
    (e1 : H'[φ i]? = some (cell.setSlot (D.2 ci k) (mm_sh φ v))) (e2 : H'.size = H.size) (e3 : ∀ q : Nat, q ≠ φ i → H'[q]? = H[q]?) (j : Nat) : mm_R φ kx bs D vwCl zs s (mem.set i (.inr (ci, fs.set k v))) H' ∧ va_S (mm_B bs) s.heap H' (locs ++ [⟨φ i, j⟩]) := by
  obtain ⟨hx, hb, -, hown, -, hts, hctx, hph, -⟩ := F
  obtain ⟨r', h1, hlen, -⟩ := mm_at_ob (hR.2.2.1 i _ hi) (mm_ci hr)
  have hrr : r' = r := Option.some.inj (h1.symm.trans hr)
  subst hrr
  have hap := va_apart (own := own) hts (mm_cls ci r' hr).1 (mm_ty ci) (mm_cls ci r' hr).2.1 (mm_cls ci r' hr).2.2 hctx.1 hr
  refine ⟨mm_R_set hph hR hki (Or.inl ⟨mm_ci hr, r', hr, by simpa using hlen, ?_⟩) e2 e3, hS.put e2 e3 (mm_ph_ge hph hki)⟩
  refine t_OB.to (V := updV (vp_V (fs.map (mm_sh φ))) k (mm_sh φ v)) ⟨_, e1, q2, q3, t_set q4 hap hk _⟩ (fun j _ => ?_)
  rw [vp_updV_set (by rw [List.length_map]; show k < fs.length; rw [show fs.length = r'.2.2 from hlen]; exact hk) _ j, List.map_set]
theorem mm_putf (F : mm_Fx p s m args meth c φ kx bs D o own nL ini cc) (hR : mm_R φ kx bs D vwCl zs s mem H) (hS : va_S (mm_B bs) s.heap H locs) {i ci k idx : Nat} {fs : List Value} {v : Value} {r : vw_C} (hki : kx ≤ i) (hi : mem[i]? = some (.inr (ci, fs))) (hr : vwCl[ci]? = some r) (hk : k < r.2.2) (hfin : (r.2.1 k).2.2.2 = false) (hn : narrow (mm_ty ci k) (mm_sh φ v) = mm_sh φ v) (hfit : fits (mm_ty ci k) (mm_sh φ v) = true) (hl : Cond.fieldLink own idx (r.2.1 k).1 (r.2.1 k).2.1 (r.2.1 k).2.2.1 ∈ mm_gw) (hdg : decode cc pc = .ok (.putfield idx, 3))
    (kk : ∀ (H1 : Heap) (locs1 : List Loc), mm_R φ kx bs D vwCl zs s (mem.set i (.inr (ci, fs.set k v))) H1 → va_S (mm_B bs) s.heap H1 locs1 → W p l e R s m args below meth c H1 locs1 cells slots Q (F0 m (pc + 3) ls rest)) : W p l e R s m args below meth c H locs cells slots Q (F0 m pc ls (mm_sh φ v :: .ref (φ i) :: rest)) := by
  obtain ⟨hx, hb, -, hown, -, hts, hctx, hph, -⟩ := id F
  obtain ⟨r', h1, hlen, cell, q1, q2, q3, q4⟩ := mm_at_ob (hR.2.2.1 i _ hi) (mm_ci hr)
  have hrr : r' = r := Option.some.inj (h1.symm.trans hr)
  subst hrr
  obtain ⟨hSl, hfc, kC, hkC, hkind⟩ := hctx.1.1 ci _ hr
  obtain ⟨cf, kf, fi, f, hif, hsl⟩ := hSl k hk
  have hin := (mm_cls ci r' hr).1
  have hlay := hts _ (hin _ (u_in_lay hk))
  unfold u_lay at hlay
  rw [if_neg (by rw [hfin]; decide)] at hlay
  have hst := (u_facts hfc hkC (u_lays hts hin hk) hif).1
  have h6 := u_store hfc hkC hkind hlay hif ((mm_cls ci r' hr).2.1 k hk) hn hfit
  refine W.putK hx hb (f := f) ⟨hown, hts _ hl, ⟨_, _, _, hif⟩, hst⟩ (by rw [q2]; exact h6) q1 q3 (by rw [hsl]; exact k2_hasslot (q4 k hk)) rfl rfl hdg fun H' e1 e2 e3 => ?_
  rw [hsl] at e1
  obtain ⟨a1, a2⟩ := mm_put_end F hR hS hki hi hr hk q2 q3 q4 e1 e2 e3 f.slot
  exact kk H' _ a1 a2
theorem mm_putN (F : mm_Fx p s m args meth c φ kx bs D o own nL ini cc) (hR : mm_R φ kx bs D vwCl zs s mem H) (hS : va_S (mm_B bs) s.heap H locs) {i ci k idx : Nat} {fs : List Value} {v : Value} {r : vw_C} (hki : kx ≤ i) (hi : mem[i]? = some (.inr (ci, fs))) (hr : vwCl[ci]? = some r) (hk : k < r.2.2) (hfin : (r.2.1 k).2.2.2 = false) (hn : narrow (mm_ty ci k) (mm_sh φ v) = mm_sh φ v) (hfit : fits (mm_ty ci k) (mm_sh φ v) = true) (hl : Cond.fieldLinkNest own idx (r.2.1 k).1 (r.2.1 k).2.1 (r.2.1 k).2.2.1 "RaftTown" ∈ lw_tbl) (hdg : decode cc pc = .ok (.putfield idx, 3))
    (kk : ∀ (H1 : Heap) (locs1 : List Loc), mm_R φ kx bs D vwCl zs s (mem.set i (.inr (ci, fs.set k v))) H1 → va_S (mm_B bs) s.heap H1 locs1 → W p l e R s m args below meth c H1 locs1 cells slots Q (F0 m (pc + 3) ls rest)) : W p l e R s m args below meth c H locs cells slots Q (F0 m pc ls (mm_sh φ v :: .ref (φ i) :: rest)) := by
  obtain ⟨hx, hb, -, hown, -, hts, hctx, hph, -⟩ := id F
  obtain ⟨r', h1, hlen, cell, q1, q2, q3, q4⟩ := mm_at_ob (hR.2.2.1 i _ hi) (mm_ci hr)
  have hrr : r' = r := Option.some.inj (h1.symm.trans hr)
  subst hrr
  obtain ⟨hSl, hfc, kC, hkC, hkind⟩ := hctx.1.1 ci _ hr
  obtain ⟨cf, kf, fi, f, hif, hsl⟩ := hSl k hk
  have hin := (mm_cls ci r' hr).1
  have hlay := hts _ (hin _ (u_in_lay hk))
  unfold u_lay at hlay
  rw [if_neg (by rw [hfin]; decide)] at hlay
  have hst := (u_facts hfc hkC (u_lays hts hin hk) hif).1
  have h6 := u_store hfc hkC hkind hlay hif ((mm_cls ci r' hr).2.1 k hk) hn hfit
  refine va_WputK hx hb (f := f) hown (va_Nw.use rfl (hctx.2.1 _ hl rfl)) hif hst (by rw [q2]; exact h6) q1 q3 (by rw [hsl]; exact k2_hasslot (q4 k hk)) rfl rfl hdg fun H' e1 e2 e3 => ?_
  rw [hsl] at e1
  obtain ⟨a1, a2⟩ := mm_put_end F hR hS hki hi hr hk q2 q3 q4 e1 e2 e3 f.slot
  exact kk H' _ a1 a2
theorem mm_putF (F : mm_Fx p s m args meth c φ kx bs D o own nL true cc) (hR : mm_R φ kx bs D vwCl zs s mem H) (hS : va_S (mm_B bs) s.heap H locs) {i ci k idx : Nat} {fs : List Value} {v : Value} {r : vw_C} (hki : kx ≤ i) (hi : mem[i]? = some (.inr (ci, fs))) (hr : vwCl[ci]? = some r) (hk : k < r.2.2) (hfin : (r.2.1 k).2.2.2 = true) (hdecl : (r.2.1 k).1 = own) (hn : narrow (mm_ty ci k) (mm_sh φ v) = mm_sh φ v) (hfit : fits (mm_ty ci k) (mm_sh φ v) = true) (hl : Cond.fieldLink own idx (r.2.1 k).1 (r.2.1 k).2.1 (r.2.1 k).2.2.1 ∈ mm_gw) (hdg : decode cc pc = .ok (.putfield idx, 3))
    (kk : ∀ (H1 : Heap) (locs1 : List Loc), mm_R φ kx bs D vwCl zs s (mem.set i (.inr (ci, fs.set k v))) H1 → va_S (mm_B bs) s.heap H1 locs1 → W p l e R s m args below meth c H1 locs1 cells slots Q (F0 m (pc + 3) ls rest)) : W p l e R s m args below meth c H locs cells slots Q (F0 m pc ls (mm_sh φ v :: .ref (φ i) :: rest)) := by
  obtain ⟨hx, hb, -, hown, -, hts, hctx, hph, -, hini⟩ := id F
  obtain ⟨r', h1, hlen, cell, q1, q2, q3, q4⟩ := mm_at_ob (hR.2.2.1 i _ hi) (mm_ci hr)
  have hrr : r' = r := Option.some.inj (h1.symm.trans hr)
  subst hrr
  obtain ⟨hSl, hfc, kC, hkC, hkind⟩ := hctx.1.1 ci _ hr
  obtain ⟨cf, kf, fi, f, hif, hsl⟩ := hSl k hk
  have hin := (mm_cls ci r' hr).1
  have hlay := hts _ (hin _ (u_in_lay hk))
  unfold u_lay at hlay
  rw [if_pos hfin] at hlay
  have hst := (u_facts hfc hkC (u_lays hts hin hk) hif).1
  have hcf : m.cls = cf := by
    obtain ⟨_, _, c', _, _, _, -, -, hf', -, -, -, hown2, -⟩ := Cond.laysFinal_spec hlay
    have e1 : c' = cf := by have := hif.symm.trans hf'; simp at this; exact this.1.symm
    rw [hdecl] at hown2
    rw [← e1]; exact Option.some.inj (hown.symm.trans hown2)
  have h6 := u_fits hfc hkC hkind (Or.inr hlay) hif ((mm_cls ci r' hr).2.1 k hk) hn hfit
  refine W.putFinK hx hb hown (hts _ hl) hif hst hcf (hini rfl) (by rw [q2]; exact h6) q1 q3 (by rw [hsl]; exact k2_hasslot (q4 k hk)) rfl rfl hdg fun H' e1 e2 e3 => ?_
  rw [hsl] at e1
  obtain ⟨a1, a2⟩ := mm_put_end F hR hS hki hi hr hk q2 q3 q4 e1 e2 e3 f.slot
  exact kk H' _ a1 a2
/-- what an array's cell is -/
theorem mm_arr {i : Nat} {ty : FieldType} {xs : List Value} (hR : mm_R φ kx bs D vwCl zs s mem H) (hi : mem[i]? = some (.inl (ty, xs))) : ∃ cell : Cell, H[φ i]? = some cell ∧ mm_wk φ cell xs ∧ cell.vm ≠ .unknown ∧ s.isArrayOf cell ty ∧ (kx ≤ i → (mm_pl cell ∧ cell.slots = (xs.map (mm_sh φ)).toArray) ∧ va_RA s cell.cls ty) := hR.2.2.1 i _ hi
theorem mm_arr_sz {xs : List Value} {cell : Cell} (h : cell.slots = (xs.map (mm_sh φ)).toArray) : cell.slots.size = xs.length := by rw [h]; simp
theorem mm_arr_rd {xs : List Value} {cell : Cell} (h : mm_wk φ cell xs) {k : Nat} {v : Value} (hv : xs[k]? = some v) : cell.slots[k]? = some (mm_sh φ v) := h.2.2 k v hv
theorem mm_ast_end (hph : mm_ph φ kx bs) (hR : mm_R φ kx bs D vwCl zs s mem H) (hS : va_S (mm_B bs) s.heap H locs) {i k : Nat} {ty : FieldType} {xs : List Value} {v : Value} (hki : kx ≤ i) {cell : Cell} (_h2 : mm_wk φ cell xs) (h3 : cell.vm ≠ .unknown) (h4 : s.isArrayOf cell ty) (h5 : kx ≤ i → (mm_pl cell ∧ cell.slots = (xs.map (mm_sh φ)).toArray) ∧ va_RA s cell.cls ty) {H' : Heap} (e1 : H'[φ i]? = some (cell.setSlot k (mm_sh φ v))) (e2 : H'.size = H.size) (e3 : ∀ q : Nat, q ≠ φ i → H'[q]? = H[q]?) : mm_R φ kx bs D vwCl zs s (mem.set i (.inl (ty, xs.set k v))) H' ∧ va_S (mm_B bs) s.heap H' (locs ++ [⟨φ i, k⟩]) := by
  have hs : (cell.setSlot k (mm_sh φ v)).slots = ((xs.set k v).map (mm_sh φ)).toArray := by
    show cell.slots.setIfInBounds k (mm_sh φ v) = ((xs.set k v).map (mm_sh φ)).toArray
    rw [(h5 hki).1.2, List.map_set]
    simp
  exact ⟨mm_R_set hph hR hki ⟨_, e1, mm_wk_of hs, h3, h4, fun q => ⟨⟨mm_pl_set (h5 q).1.1 _ _, hs⟩, (h5 q).2⟩⟩ e2 e3, hS.put e2 e3 (mm_ph_ge hph hki)⟩
end MM
