/-! ===== the run is the machine's ===== -/
theorem mm_good {L : List Cond} (h : ∀ w ∈ L, w ∈ mm_gw) : GoodIn mm_gw L := fun w hw => ⟨h w hw, good_of_word (List.mem_filter.mp (h w hw)).2⟩
theorem mm_args_sl (φ : Nat → Nat) (As : List Value) : ∀ i, mm_sl φ (lv_args i As) = lv_args i (As.map (mm_sh φ)) := by
  induction As with
  | nil => intro i; rfl
  | cons v vs ih =>
    intro i
    have := ih (if v.category = 2 then i + 2 else i + 1)
    simp only [mm_sl] at this
    simp only [lv_args, mm_sl, List.map_cons, mm_sh_cat, this]
theorem mm_sl_len (φ : Nat → Nat) (As : List Value) : (lg_sl (As.map (mm_sh φ))).length = (lg_sl As).length := by
  induction As with
  | nil => rfl
  | cons v vs ih =>
    simp only [lg_sl, List.map_cons, List.flatMap_cons, List.length_append, mm_sh_cat] at ih ⊢
    rw [ih]
    split <;> rfl
theorem mm_mth {y : Nat} {t : mm_Mt} (h : mm_mths[y]? = some t) : plainName t.2.1.cls = true ∧ mm_cns[t.1]? = some t.2.1.cls ∧ Cond.code t.2.1 t.2.2.1 t.2.2.2.1 t.2.2.2.2.1 ∈ mm_gw ∧ Cond.initialized t.2.1.cls ∈ mm_gw ∧ (t.2.1.cls ≠ "java/lang/invoke/MethodHandle" ∧ t.2.1.cls ≠ "java/lang/invoke/VarHandle" ∧ (parseMethodDescriptor t.2.1.desc).map (fun d => d.parameters.length) = some t.2.2.2.2.2.1) ∧ t.2.2.2.1 ≤ 45 := by
  have hm := List.mem_of_getElem? h
  have h1 := mm_mths_ok t hm
  have h2 := mm_cws t hm
  unfold mm_mchk at h1
  simp only [Bool.and_eq_true, decide_eq_true_eq] at h1
  obtain ⟨⟨⟨⟨⟨⟨⟨g1, g2⟩, g3⟩, g4⟩, g5⟩, g6⟩, g7⟩, -⟩ := h1
  exact ⟨g1, g2, List.mem_filter.mpr ⟨mm_tab_in (List.mem_of_getElem? h2), rfl⟩, mm_wg_in g3, ⟨g4, g5, g6⟩, g7⟩
theorem mm_mth_k {y : Nat} {t : mm_Mt} (h : mm_mths[y]? = some t) : (match t.2.2.2.2.2.2.1 with
    | 0 => mm_wg (t.2.2.2.2.2.2.2.getD 1 0) (.static t.2.1)
    | 1 => mm_wg (t.2.2.2.2.2.2.2.getD 1 0) (.instanceMethod t.2.1) && mm_wg (t.2.2.2.2.2.2.2.getD 2 0) (.selects t.2.1.cls t.2.1 t.2.1)
    | _ => mm_wg (t.2.2.2.2.2.2.2.getD 1 0) (.instanceMethod t.2.1) && decide (t.2.1.name = "<init>")) = true := by
  have h1 := mm_mths_ok t (List.mem_of_getElem? h)
  unfold mm_mchk at h1
  rw [Bool.and_eq_true] at h1
  exact h1.2
theorem mm_mth0 {y : Nat} {t : mm_Mt} (h : mm_mths[y]? = some t) (hk : t.2.2.2.2.2.2.1 = 0) : Cond.static t.2.1 ∈ mm_gw := by
  have h1 := mm_mth_k h
  rw [hk] at h1
  exact mm_wg_in h1
theorem mm_mth1 {y : Nat} {t : mm_Mt} (h : mm_mths[y]? = some t) (hk : t.2.2.2.2.2.2.1 = 1) : Cond.instanceMethod t.2.1 ∈ mm_gw ∧ Cond.selects t.2.1.cls t.2.1 t.2.1 ∈ mm_gw := by
  have h1 := mm_mth_k h
  rw [hk] at h1
  replace h1 : (mm_wg (t.2.2.2.2.2.2.2.getD 1 0) (.instanceMethod t.2.1) && mm_wg (t.2.2.2.2.2.2.2.getD 2 0) (.selects t.2.1.cls t.2.1 t.2.1)) = true := h1
  rw [Bool.and_eq_true] at h1
  exact ⟨mm_wg_in h1.1, mm_wg_in h1.2⟩
set_option maxRecDepth 100000 in
theorem mm_mth15a : mm_mths.all (fun t => !(Nat.beq t.2.2.2.2.2.2.1 1) || (Nat.blt t.1 13 || Nat.beq t.1 15)) = true := by decide +kernel
theorem mm_mth15 {y : Nat} {t : mm_Mt} (h : mm_mths[y]? = some t) (hk : t.2.2.2.2.2.2.1 = 1) (h13 : 13 ≤ t.1) : t.1 = 15 := by
  have h1 := List.all_eq_true.mp mm_mth15a t (List.mem_of_getElem? h)
  rw [hk, Bool.or_eq_true, Bool.or_eq_true] at h1
  rcases h1 with h1 | h1 | h1
  · cases h1
  · have : t.1 < 13 := Nat.le_of_ble_eq_true h1
    omega
  · exact Nat.eq_of_beq_eq_true h1
theorem mm_mth2 {y : Nat} {t : mm_Mt} (h : mm_mths[y]? = some t) (hk : t.2.2.2.2.2.2.1 = 2) : Cond.instanceMethod t.2.1 ∈ mm_gw ∧ t.2.1.name = "<init>" := by
  have h1 := mm_mth_k h
  rw [hk] at h1
  replace h1 : (mm_wg (t.2.2.2.2.2.2.2.getD 1 0) (.instanceMethod t.2.1) && decide (t.2.1.name = "<init>")) = true := h1
  rw [Bool.and_eq_true] at h1
  exact ⟨mm_wg_in h1.1, of_decide_eq_true h1.2⟩
def mm_Pc (φ : Nat → Nat) (kx bs : Nat) (D : va_G) (zs : List mm_Zt) (As : List Value) (mem : List mm_C) : Array Value → State → Prop := fun a U => a = (As.map (mm_sh φ)).toArray ∧ mm_R φ kx bs D vwCl zs U mem U.heap ∧ mm_Ctx φ D U ∧ bs ≤ U.heap.size
def mm_Qc (φ : Nat → Nat) (kx bs : Nat) (D : va_G) (zs : List mm_Zt) (v : Option Value) (mem : List mm_C) : Array Value → State → Outcome → State → Prop := fun _ st oc t => oc = .returned (v.map (mm_sh φ)) ∧ mm_R φ kx bs D vwCl zs t mem t.heap ∧ va_F (mm_B bs) st t
theorem mm_Ctx_calling {φ : Nat → Nat} {D : va_G} {U : State} (g : JFrame) (mk : MethodId) (a : Array Value) (h3 : mm_Ctx φ D U) : mm_Ctx φ D (U.calling g mk a) := by
  refine ⟨va_K.moved (u := U) (U := U.calling g mk a) (Vm.Alike.refl U.vm) h3.1, fun w hw hn => ?_, fun C hC => va_AO.moved (u := U) (U := U.calling g mk a) (Vm.Alike.refl U.vm) (h3.2.2.1 C hC), fun j hj => ?_⟩
  case refine_2 =>
    obtain ⟨tx, ht⟩ := h3.2.2.2 j hj
    exact ⟨tx, vk_R.same (u := U) rfl ht⟩
  have h5 := h3.2.1 w hw hn
  have hon : w.onTables = true := by
    unfold mm_nest at hn
    split at hn
    · rfl
    · rfl
    · cases hn
  exact va_Nw.same (u := U) (U := U.calling g mk a) hon rfl h5
theorem mm_Pc_blind {φ : Nat → Nat} {kx bs : Nat} {D : va_G} {zs : List mm_Zt} {As : List Value} {mem : List mm_C} : FrameBlind (mm_Pc φ kx bs D zs As mem) := by
  intro a U g mk q
  obtain ⟨h1, h2, h3, h4⟩ := q
  exact ⟨h1, mm_R_moved (u := U) (U := U.calling g mk a) (Vm.Alike.refl U.vm) h2, mm_Ctx_calling g mk a h3, h4⟩
def mm_rm (d y : Nat) : Room := { frames := d + 1, cells := (mm_bud y).1, slots := (mm_bud y).2, locals := 64 * (d + 1) }
section MMX
variable {p : Program} {l : Launch} {e : Env} {R : Room} {s : State} {m : MethodId} {args : Array Value} {below : List Frame} {meth : Method} {c : Code} {Q : State → Prop}
variable {φ : Nat → Nat} {kx bs : Nat} {D : va_G} {zs : List mm_Zt} {cc : ByteArray} {o nL len : Nat} {own : String} {ini : Bool}
theorem mm_after {H : Heap} {locs : List Loc} {cells slots mc ms pc : Nat} {ls : Array Slot} {st0 rest : List Value} {a : Array Value} {v : Option Value} {mem : List mm_C} (hr : va_Run p l e R s m args below meth c H locs cells slots mc ms (F0 m pc ls st0) rest (mm_Qc φ kx bs D zs v mem a) (mm_B bs)) (hS : va_S (mm_B bs) s.heap H locs)
    (kk : ∀ (H1 : Heap) (locs1 : List Loc), mm_R φ kx bs D vwCl zs s mem H1 → va_S (mm_B bs) s.heap H1 locs1 → W p l e R s m args below meth c H1 locs1 (cells + mc) (slots + ms) Q (F0 m (pc + 3) ls ((v.map (mm_sh φ)).toList ++ rest))) : W p l e R s m args below meth c H locs cells slots Q (F0 m pc ls st0) := by
  intro T hT X
  obtain ⟨v', st₀, t, T', L, h0, X', hL, e1, e2, ⟨hv, hRt, hz, hk⟩, st⟩ := hr T hT X
  cases hv
  rw [h0] at hz hk
  obtain ⟨t2, a1, b1⟩ := kk T'.heap (locs ++ L) (by rw [e1]; exact mm_R_moved (by rw [← e2]; exact X'.warmed.alike.symm) hRt)
    ⟨Nat.le_trans hS.1 (by rw [e1]; exact hz), fun q h1 h2 => by rw [e1, hk q (Nat.lt_of_lt_of_le h1 hS.1) h2]; exact hS.2.1 q h1 h2, fun q hq => by
      rcases List.mem_append.mp hq with h | h
      · exact hS.2.2 q h
      · exact hL q h⟩ T' rfl X'
  exact ⟨t2, st t2 a1, b1⟩
theorem mm_call_ok {d y : Nat} {t : mm_Mt} {ins : Instr} {pc cb sb : Nat} {lv : List (Nat × Value)} {st As rest : List Value} {mem mem' : List mm_C} {v : Option Value} (F : mm_Fx p s m args meth c φ kx bs D o own nL ini cc) (hRm : d + 2 ≤ R.frames ∧ 64 * (d + 2) ≤ R.locals) (hd : decode cc pc = .ok (ins, len)) (hcal : mm_cal o ins len st mem = some (y, As, rest)) (ht : mm_mths[y]? = some t) (hcb : (mm_bud y).1 ≤ cb) (hsb : (mm_bud y).2 ≤ sb)
    (hM : Met l t.2.1 (Cond.code t.2.1 t.2.2.1 t.2.2.2.1 t.2.2.2.2.1 :: mm_gw) (mm_rm d y) (mm_Pc φ kx bs D zs As mem) (mm_Qc φ kx bs D zs v mem') (mm_bud y).1 (mm_bud y).2 (mm_B bs))
    (kk : mm_Go p l e R s m args below meth c φ kx bs D zs nL Q (pc + 3, lv, v.toList ++ rest, mem', cb - (mm_bud y).1, sb - (mm_bud y).2)) : mm_Go p l e R s m args below meth c φ kx bs D zs nL Q (pc, lv, st, mem, cb, sb) := by
  intro H locs ls cells slots hR hS hl hc hs
  dsimp only at hR hl hc hs
  obtain ⟨hx, hb, hml, hown, ho, hts, hctx, hph, hbs, -⟩ := id F
  obtain ⟨-, hcn, hcode, hini, hdesc, hmx⟩ := mm_mth ht
  have hpre : ∀ U : State, U.heap = H → s.WarmedH U.vm → mm_Pc φ kx bs D zs As mem (As.map (mm_sh φ)).toArray U := fun U hU hW => ⟨rfl, by rw [hU]; exact mm_R_moved hW.alike hR, mm_Ctx_warm hW hctx, by rw [hU]; exact Nat.le_trans hbs hS.1⟩
  have hws : ∀ w ∈ (Cond.code t.2.1 t.2.2.1 t.2.2.2.1 t.2.2.2.2.1 :: mm_gw), w ∈ mm_gw := fun w hw => by
    rcases List.mem_cons.mp hw with rfl | h
    · exact hcode
    · exact h
  have hroom : (mm_rm d y).frames + 1 ≤ R.frames ∧ 8 + (t.2.2.2.1 + 11) + (mm_rm d y).locals ≤ R.locals := ⟨hRm.1, by show 8 + (t.2.2.2.1 + 11) + 64 * (d + 1) ≤ R.locals; omega⟩
  have hgo : ∀ (H1 : Heap) (locs1 : List Loc), mm_R φ kx bs D vwCl zs s mem' H1 → va_S (mm_B bs) s.heap H1 locs1 → W p l e R s m args below meth c H1 locs1 (cells + (mm_bud y).1) (slots + (mm_bud y).2) Q (F0 m (pc + 3) ls ((v.map (mm_sh φ)).toList ++ rest.map (mm_sh φ))) := by
    intro H1 locs1 hR1 hS1
    have := kk H1 locs1 ls (cells + (mm_bud y).1) (slots + (mm_bud y).2) hR1 hS1 hl (by dsimp only; omega) (by dsimp only; omega)
    dsimp only at this
    rw [List.map_append] at this
    cases v with
    | none => exact this
    | some v => exact this
  unfold mm_cal at hcal
  split at hcal
  · next idx =>
    split at hcal
    · next idx' kd y' b z pl e1 =>
      split at hcal
      · next t' ht' =>
        split at hcal
        · next a r hst =>
          split at hcal
          · next ci fs hci =>
            split at hcal
            · next e2 =>
              obtain ⟨rfl, rfl, hkd, hk1, rfl, hsum⟩ := e2
              cases hcal
              cases ht'.symm.trans ht
              obtain ⟨k1, k2⟩ := mm_mth1 ht hk1
              have hlen : ((st.take t.2.2.2.2.2.1).reverse.map (mm_sh φ)).length = t.2.2.2.2.2.1 := by
                have h1 : t.2.2.2.2.2.1 < st.length := by
                  have := congrArg List.length hst
                  simp at this
                  omega
                simp
                omega
              have hstk : (F0 m pc ls (st.map (mm_sh φ))).stack = ((st.take t.2.2.2.2.2.1).reverse.map (mm_sh φ)).reverse ++ .ref (φ a) :: rest.map (mm_sh φ) := by
                show st.map (mm_sh φ) = _
                conv => lhs; rw [← List.take_append_drop t.2.2.2.2.2.1 st, hst]
                simp [mm_sh]
              have hsum' : 2 * (F0 m pc ls (st.map (mm_sh φ))).monitorRoom + ((rest.map (mm_sh φ)).map fun v => v.category).sum ≤ 8 := by
                rw [mm_cats]
                show 2 * 0 + _ ≤ 8
                omega
              have hrecv : ∃ cellB : Cell, H[φ a]? = some cellB ∧ cellB.vm.isStatics = false ∧ s.vm.findClass t.2.1.cls = some cellB.cls := by
                rcases hR.2.2.1 a _ hci with ⟨hlt, q', u1, u2, cellV, w1, w2, w3, -⟩ | ⟨h13, c0, c1, hstr⟩
                · have hq1 : q'.1 = t.2.1.cls := by
                    have : ∀ k, k < 13 → (vwCl[k]?).map (fun r => r.1) = mm_cns[k]? := by decide +kernel
                    have h2 := this t.1 hlt
                    rw [show vwCl[t.1]? = some q' from u1, hcn] at h2
                    exact Option.some.inj h2
                  exact ⟨cellV, w1, by rw [w3]; rfl, by rw [w2, ← hq1]; exact (hctx.1.1 t.1 q' u1).2.1⟩
                · have h15 : t.1 = 15 := mm_mth15 ht hk1 h13
                  obtain ⟨w, -, ⟨cellS, s1, s2, s3, -⟩, -⟩ := hstr h15
                  have hcs : t.2.1.cls = "java/lang/String" := by
                    rw [h15] at hcn
                    have hcn : some "java/lang/String" = some t.2.1.cls := hcn
                    exact (Option.some.inj hcn).symm
                  exact ⟨cellS, s1, s2, by rw [hcs]; exact s3⟩
              have hpv : PreV s H t.2.1.cls (φ a) (mm_Pc φ kx bs D zs (.ref a :: (st.take t.2.2.2.2.2.1).reverse) mem) ((st.take t.2.2.2.2.2.1).reverse.map (mm_sh φ)) := ⟨mm_Pc_blind, hrecv, hpre⟩
              rcases hkd with rfl | rfl
              · obtain ⟨t2, v1, v2⟩ := mm_p2 ho e1
                cases v1.symm.trans ht
                have hG : GoodIn mm_gw (wsV own idx' t.2.1.cls t.2.1 (Cond.code t.2.1 t.2.2.1 t.2.2.2.1 t.2.2.2.2.1 :: mm_gw)) := mm_good (fun w hw => by
                  unfold wsV at hw
                  rcases List.mem_append.mp hw with h | h
                  · simp only [List.mem_cons, List.not_mem_nil, or_false] at h
                    rcases h with rfl | rfl | rfl | rfl
                    · exact v2
                    · exact k1
                    · exact k2
                    · exact hini
                  · exact hws w h)
                exact mm_after (va_runV (rest := rest.map (mm_sh φ)) ⟨hx, hb, hml, hown, hts⟩ hM (cwV t.2.2.2.2.2.1 hts hG rfl rfl rfl ⟨rfl, hdesc⟩ hroom) hpv rfl hlen hl.1 hstk hsum' hd ⟨by omega, by omega⟩) hS hgo
              · obtain ⟨t2, v1, v2⟩ := mm_p3 ho e1
                cases v1.symm.trans ht
                exact mm_after (va_runVN (rest := rest.map (mm_sh φ)) ⟨hx, hb, hml, hown, hts⟩ hM ⟨va_cnB t.2.2.2.2.2.1 hts (mm_good hws) rfl rfl rfl (hctx.2.1 _ v2 rfl) (hts _ hini) hdesc hroom, hts _ k1, hts _ k2⟩ hpv rfl hlen hl.1 hstk hsum' hd ⟨by omega, by omega⟩) hS hgo
            · cases hcal
          · cases hcal
        · cases hcal
      · cases hcal
    · cases hcal
  · next idx =>
    split at hcal
    · next idx' kd y' b z pl e1 =>
      split at hcal
      · next t' ht' =>
        split at hcal
        · next e2 =>
          obtain ⟨rfl, rfl, hkd, hk1, hlen0, hsum⟩ := e2
          cases hcal
          cases ht'.symm.trans ht
          have k1 := mm_mth0 ht hk1
          have hlen : ((st.take t.2.2.2.2.2.1).reverse.map (mm_sh φ)).length = t.2.2.2.2.2.1 := by
            simp
            omega
          have hstk : (F0 m pc ls (st.map (mm_sh φ))).stack = ((st.take t.2.2.2.2.2.1).reverse.map (mm_sh φ)).reverse ++ (st.drop t.2.2.2.2.2.1).map (mm_sh φ) := by
            show st.map (mm_sh φ) = _
            rw [← List.map_reverse, List.reverse_reverse, ← List.map_append, List.take_append_drop]
          have hsum' : 2 * (F0 m pc ls (st.map (mm_sh φ))).monitorRoom + (((st.drop t.2.2.2.2.2.1).map (mm_sh φ)).map fun v => v.category).sum ≤ 8 := by
            rw [mm_cats]
            show 2 * 0 + _ ≤ 8
            omega
          have hpv : PreS s H (mm_Pc φ kx bs D zs (st.take t.2.2.2.2.2.1).reverse mem) ((st.take t.2.2.2.2.2.1).reverse.map (mm_sh φ)) := ⟨mm_Pc_blind, hpre⟩
          rcases hkd with rfl | rfl
          · obtain ⟨t2, v1, v2⟩ := mm_p2 ho e1
            cases v1.symm.trans ht
            have hG : GoodIn mm_gw (va_wsS own idx' t.2.1 (Cond.code t.2.1 t.2.2.1 t.2.2.2.1 t.2.2.2.2.1 :: mm_gw)) := mm_good (fun w hw => by
              unfold va_wsS at hw
              rcases List.mem_append.mp hw with h | h
              · simp only [List.mem_cons, List.not_mem_nil, or_false] at h
                rcases h with rfl | rfl | rfl
                · exact v2
                · exact k1
                · exact hini
              · exact hws w h)
            exact mm_after (va_runS ⟨hx, hb, hml, hown, hts⟩ hM (va_cwS t.2.2.2.2.2.1 hts hG rfl rfl rfl hdesc hroom) hpv rfl hlen hl.1 hstk hsum' hd ⟨by omega, by omega⟩) hS hgo
          · obtain ⟨t2, v1, v2⟩ := mm_p3 ho e1
            cases v1.symm.trans ht
            exact mm_after (va_runSN ⟨hx, hb, hml, hown, hts⟩ hM ⟨va_cnB t.2.2.2.2.2.1 hts (mm_good hws) rfl rfl rfl (hctx.2.1 _ v2 rfl) (hts _ hini) hdesc hroom, hts _ k1, trivial⟩ hpv rfl hlen hl.1 hstk hsum' hd ⟨by omega, by omega⟩) hS hgo
        · cases hcal
      · cases hcal
    · cases hcal
  · next idx =>
    split at hcal
    · next idx' kd y' b z pl e1 =>
      split at hcal
      · next t' ht' =>
        split at hcal
        · next a r hst =>
          split at hcal
          · next e2 =>
            obtain ⟨rfl, rfl, hkd, hk1, hret, hsum⟩ := e2
            cases hcal
            cases ht'.symm.trans ht
            obtain ⟨k1, k2⟩ := mm_mth2 ht hk1
            rw [hret] at hM hcode hws
            have hlen : ((st.take t.2.2.2.2.2.1).reverse.map (mm_sh φ)).length = t.2.2.2.2.2.1 := by
              have h1 : t.2.2.2.2.2.1 < st.length := by
                have := congrArg List.length hst
                simp at this
                omega
              simp
              omega
            have hstk : (F0 m pc ls (st.map (mm_sh φ))).stack = ((st.take t.2.2.2.2.2.1).reverse.map (mm_sh φ)).reverse ++ .ref (φ a) :: rest.map (mm_sh φ) := by
              show st.map (mm_sh φ) = _
              conv => lhs; rw [← List.take_append_drop t.2.2.2.2.2.1 st, hst]
              simp [mm_sh]
            have hsum' : 2 * (F0 m pc ls (st.map (mm_sh φ))).monitorRoom + ((rest.map (mm_sh φ)).map fun v => v.category).sum ≤ 8 := by
              rw [mm_cats]
              show 2 * 0 + _ ≤ 8
              omega
            have hpv : PreS s H (mm_Pc φ kx bs D zs (.ref a :: (st.take t.2.2.2.2.2.1).reverse) mem) (.ref (φ a) :: (st.take t.2.2.2.2.2.1).reverse.map (mm_sh φ)) := ⟨mm_Pc_blind, hpre⟩
            rcases hkd with rfl | rfl
            · obtain ⟨t2, v1, v2⟩ := mm_p2 ho e1
              cases v1.symm.trans ht
              exact mm_after (va_runI (rest := rest.map (mm_sh φ)) ⟨hx, hb, hml, hown, hts⟩ hM (cwI t.2.2.2.2.2.1 hts (mm_good hws) rfl rfl rfl (hts _ hini) (hts _ v2) (hts _ k1) k2 hdesc hroom) hpv rfl hlen hl.1 hstk hsum' hd ⟨by omega, by omega⟩) hS hgo
            · obtain ⟨t2, v1, v2⟩ := mm_p3 ho e1
              cases v1.symm.trans ht
              exact mm_after (va_runIN (rest := rest.map (mm_sh φ)) ⟨hx, hb, hml, hown, hts⟩ hM ⟨va_cnB t.2.2.2.2.2.1 hts (mm_good hws) rfl rfl rfl (hctx.2.1 _ v2 rfl) (hts _ hini) hdesc hroom, k2, hts _ k1⟩ hpv rfl hlen hl.1 hstk hsum' hd ⟨by omega, by omega⟩) hS hgo
          · cases hcal
        · cases hcal
      · cases hcal
    · cases hcal
  · cases hcal
end MMX
