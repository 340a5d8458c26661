/-! ===== the whole run ===== -/
/-- the state at a method's return gives its contract's end -/
theorem mm_ret_ok {p : Program} {l : Launch} {e : Env} {R : Room} {s : State} {m : MethodId} {args : Array Value} {below : List Frame} {meth : Method} {c : Code} {φ : Nat → Nat} {kx bs : Nat} {D : va_G} {zs : List mm_Zt} {o nL : Nat} {own : String} {ini : Bool} {t : mm_Mt} {τ : mm_S} {v : Option Value} {y : Nat} (F : mm_Fx p s m args meth c φ kx bs D o own nL ini t.2.2.1) (hr : meth.sig.returnType = t.2.2.2.2.1) (hlocks : meth.locks = false) (hRc : R.cells = (mm_bud y).1) (hRs : R.slots = (mm_bud y).2) (h : mm_ret t τ = some v) : mm_Go p l e R s m args below meth c φ kx bs D zs nL (MQ below (mm_Qc φ kx bs D zs v τ.2.2.2.1) args s (mm_bud y).1 (mm_bud y).2 (mm_B bs)) τ := by
  obtain ⟨pc, lv, st, mem, cb, sb⟩ := τ
  intro H locs ls cells slots hR hS hl hc hs
  dsimp only at hR hl hc hs ⊢
  refine W.widen (k := (mm_bud y).1) (n := (mm_bud y).2) (by omega) (by omega) ?_
  have hq : ∀ t' : State, t'.heap = H → s.WarmedH t'.vm → mm_Qc φ kx bs D zs v mem args s (.returned (v.map (mm_sh φ))) t' := fun t' ht hW => ⟨rfl, by rw [ht]; exact mm_R_moved hW.alike hR, ⟨by rw [ht]; exact hS.1, fun q h1 h2 => by rw [ht]; exact hS.2.1 q h1 h2⟩⟩
  have hf : ∀ q ∈ locs, mm_B bs q.base := hS.2.2
  unfold mm_ret at h
  dsimp only at h
  split at h
  · next hd =>
    split at h
    · next ty v0 hty =>
      split at h
      · next hn =>
        cases h
        exact W.zret F.1 F.2.1 (hr.trans hty) hn hq hf hd
      · cases h
    · cases h
  · next hd =>
    split at h
    · next nm a hty =>
      cases h
      exact W.aret F.1 F.2.1 (hr.trans hty) (Or.inl ⟨_, rfl⟩) (Or.inr ⟨φ a, rfl⟩) hq hf hd
    · cases h
  · next hd =>
    split at h
    · next v0 hty =>
      cases h
      exact W.lret F.1 F.2.1 (hr.trans hty) hq hf hd
    · cases h
  · next hd =>
    split at h
    · next hty =>
      cases h
      exact W.vret F.1 F.2.1 (hr.trans hty) hq hf hd
    · cases h
  · cases h
def mm_Ok (l : Launch) (φ : Nat → Nat) (kx bs : Nat) (D : va_G) (zs : List mm_Zt) (n : Nat) : Prop :=
  ∀ (d : Nat) (fi : mm_Fi) (σ σ' : mm_S), mm_run kx zs n d fi σ = some σ' → ∀ {p : Program} {e : Env} {R : Room} {s : State} {m : MethodId} {args : Array Value} {below : List Frame} {meth : Method} {c : Code} {own : String} {Q : State → Prop}, mm_Fx p s m args meth c φ kx bs D fi.1 own fi.2.2.1 fi.2.2.2 fi.2.1 → d + 1 ≤ R.frames ∧ 64 * (d + 1) ≤ R.locals →
    mm_Go p l e R s m args below meth c φ kx bs D zs fi.2.2.1 Q σ' → mm_Go p l e R s m args below meth c φ kx bs D zs fi.2.2.1 Q σ
theorem mm_met {l : Launch} {φ : Nat → Nat} {kx bs : Nat} {D : va_G} {zs : List mm_Zt} {n d y : Nat} {t : mm_Mt} {As : List Value} {mem : List mm_C} {τ : mm_S} {v : Option Value} (IH : mm_Ok l φ kx bs D zs n) (hph : mm_ph φ kx bs) (ht : mm_mths[y]? = some t) (hsl : (lg_sl As).length ≤ t.2.2.2.1) (hrun : mm_run kx zs n d (mm_fi t) (mm_ent y As mem) = some τ) (hret : mm_ret t τ = some v) :
    Met l t.2.1 (Cond.code t.2.1 t.2.2.1 t.2.2.2.1 t.2.2.2.2.1 :: mm_gw) (mm_rm d y) (mm_Pc φ kx bs D zs As mem) (mm_Qc φ kx bs D zs v τ.2.2.2.1) (mm_bud y).1 (mm_bud y).2 (mm_B bs) := by
  obtain ⟨hplain, hcn, hcode, hini, hdesc, hmx⟩ := mm_mth ht
  refine Met.ofW (cc := t.2.2.1) (maxL := t.2.2.2.1) (ret := t.2.2.2.2.1) hplain rfl ?_
  intro p e s m args below meth c s₁ B hml hv
  obtain ⟨rfl, hR, hctx, hbs⟩ := hv
  have hts := atoms_spec (ws := (Cond.code t.2.1 t.2.2.1 t.2.2.2.1 t.2.2.2.2.1 :: mm_gw)) B.pre
  have hown : s.vm.findClass t.2.1.cls = some m.cls := findClass_of_methodNamed B.named
  have hlocks := B.notSynchronized
  have F : mm_Fx p s m (As.map (mm_sh φ)).toArray meth c φ kx bs D (mm_fi t).1 t.2.1.cls (mm_fi t).2.2.1 (mm_fi t).2.2.2 (mm_fi t).2.1 := ⟨B.exec, B.bytes, hml, hown, hcn, fun w hw => hts w (List.mem_cons_of_mem _ hw), hctx, hph, hbs, fun hi => by
    have hk : t.2.2.2.2.2.2.1 = 2 := of_decide_eq_true hi
    rw [(name_of_methodNamed B.named B.method).1]
    exact (mm_mth2 ht hk).2⟩
  have hgo := IH d (mm_fi t) _ τ hrun F (R := (mm_rm d y)) ⟨Nat.le_refl _, Nat.le_refl _⟩ (mm_ret_ok (l := l) (e := e) (below := below) (y := y) F B.returns hlocks rfl rfl hret)
  have hl := lv_entry (As.map (mm_sh φ)) (n := t.2.2.2.1) (by rw [mm_sl_len]; exact hsl)
  rw [lg_entry_eq]
  exact hgo s.heap [] _ 0 0 hR va_S.rf (by show lv_has _ _ (mm_sl φ (lv_args 0 As)); rw [mm_args_sl]; exact hl) (Nat.zero_add _) (Nat.zero_add _)
/-- A RUN OF THE SMALL MACHINE IS THE MACHINE'S: from its start the machine comes to where the small one stops -/
theorem mm_run_ok (l : Launch) (φ : Nat → Nat) (kx bs : Nat) (D : va_G) (zs : List mm_Zt) (hph : mm_ph φ kx bs) : ∀ n, mm_Ok l φ kx bs D zs n := by
  intro n
  induction n with
  | zero => intro d fi σ σ' h; cases h
  | succ n IH =>
    intro d fi σ σ' h p e R s m args below meth c own Q F hRm kk
    unfold mm_run at h
    split at h
    · next ins len hd =>
      split at h
      · cases h; exact kk
      · split at h
        · next σ₁ hst => exact mm_stp_ok F ⟨by omega, by omega⟩ hd hst (IH d fi σ₁ σ' h F hRm kk)
        · split at h
          · cases h
          · next d' =>
            split at h
            · cases h
            · next y As rest hcal =>
              split at h
              · cases h
              · next t ht =>
                split at h
                · next hb =>
                  split at h
                  · cases h
                  · next τ hτ =>
                    split at h
                    · cases h
                    · next v hv =>
                      obtain ⟨pc, lv, st, mem, cb, sb⟩ := σ
                      exact mm_call_ok F ⟨by omega, by omega⟩ hd hcal ht hb.2.1 hb.2.2 (mm_met IH hph ht hb.1 hτ hv) (IH (d' + 1) fi _ σ' h F hRm kk)
                · cases h
    · cases h
