/-! ===== the reference's reader: an expression, the whole text ===== -/
/-- what an expression and its ; come to -/
def rr_E (b : Nat → Int) (n base i0 : Nat) (μ : iv_M) (q : Option iv_Z) (μ' : iv_M) : Prop := rr_F base μ μ' ∧ rr_B b n μ' ∧ ((∃ j, q = some (0, 0) ∧ mc_Q b n i0 ([], 0, []) none j ∧ μ' 195 12 = (tk_s b n j : Int)) ∨ (∃ j c, q = some (0, 1) ∧ mc_Q b n i0 ([], 0, []) (some c) j ∧ i0 ≤ j ∧ tk_e b n j ≤ n ∧ μ' 195 13 = (tk_e b n j : Int) ∧ c.length ≤ 160 ∧ μ' 202 (base : Int) = (c.length : Int) ∧ ∀ k : Nat, k < c.length → μ' 202 ((base + 1 + k : Nat) : Int) = rr_c (c.getD k 0)))
theorem rr_k140 {t : Nat} (h : rr_f t = 140) : t = 16 := by have := rr_fc t; omega
theorem rr_k141 {t : Nat} (h : rr_f t = 141) : t = 17 := by have := rr_fc t; omega
theorem rr_k159 {t : Nat} (h : rr_f t = 159) : t = 18 := by have := rr_fc t; omega
theorem rr_k15 {t : Nat} (h : rr_f t = 15) : t = 14 := by have := rr_fc t; omega
theorem rr_k50 {t : Nat} (h : rr_f t = 50) : t = 15 := by have := rr_fc t; omega
theorem rr_k9 {t : Nat} (h : rr_f t ≥ 1) (h2 : rr_f t ≤ 9) : t < 9 ∧ rr_f t = (t : Int) + 1 := by have := rr_fc t; omega
theorem rr_knm {t : Nat} (h : t < 9) : 1 ≤ rr_f t ∧ rr_f t ≤ 9 := by have := rr_fc t; omega
theorem rr_st14 {t m : Nat} {v : Int} {W : List Nat} {c : List Int} (hm : m = 2) (ht : t = 14) : mc_step t v (W, m, c) = .inr none := by
  subst hm ht
  unfold mc_step
  rw [if_neg (show ¬ (2 < 2) by decide), if_neg (fun q => by cases q.1), if_neg (fun q => by cases q.1), if_pos (Or.inl rfl)]
theorem rr_st_14 {t m : Nat} {v : Int} {W : List Nat} {c : List Int} (hm : m < 2) (ht : t = 14) (h0 : m ≠ 0) : mc_step t v (W, m, c) = .inr none := mc_none hm (by omega) (fun h => absurd h h0) (by omega) (by omega)
theorem rr_st_no {t m : Nat} {v : Int} {W : List Nat} {c : List Int} (hm : m < 2) (h1 : t ≠ 16) (h2 : m = 0 → t ≠ 14) (h3 : t ≠ 15) (h4 : ¬ t < 9) : mc_step t v (W, m, c) = .inr none := mc_none hm h1 h2 h3 h4
section RRE
variable {L : Nat} {xs : Nat → Int32} {vz : Value} {b : Nat → Int} {n : Nat}
theorem rr_expr {d p base i0 : Nat} {μ0 : iv_M} (hL : L ≤ 3072) (hd : 60 ≤ d) (hp : p < 3) (hbase : base = 163 * p) (hB0 : rr_B b n μ0) (hi0 : i0 ≤ n) (h13 : μ0 195 13 = (i0 : Int)) : iv_C L xs vz d 295 [(14, 195), (0, (p : Int))] μ0 (rr_E b n base i0 μ0) := by
  have hn := hB0.2.1
  have hwb : iv_w (163 * (p : Int)) = (base : Int) := by rw [iv_w_id (by omega) (by omega)]; omega
  have lp : ∀ (mm i : Nat) (W : List Nat) (m : Nat) (c : List Int) (l2 l3 : Int) (μ : iv_M), n + 1 ≤ i + mm → i0 ≤ i → i ≤ n → rr_F base μ0 μ → rr_B b n μ → μ 195 13 = (i : Int) → rr_M W c base μ → c.length + W.length ≤ i → mc_K b n i0 ([], 0, []) i (W, m, c) → ((m = 0 ∧ l2 = 1 ∧ l3 = 1) ∨ (m = 1 ∧ l2 = 1 ∧ l3 = 0) ∨ (m = 2 ∧ l2 = 0)) → iv_G L xs vz d 295 20 [some (14, 195), some (0, (p : Int)), some (0, l2), some (0, l3), none] [] μ (rr_E b n base i0 μ0) := by
    intro mm
    induction mm with
    | zero => intro i W m c l2 l3 μ h1 _ h2; exfalso; omega
    | succ mm ih =>
      intro i W m c l2 l3 μ h1 hii hi hF hB he hM hl hK hm
      refine sg_295_20 hL (by omega) ?_
      refine iv_call (want := 1) (y := 295) (pc := 21) (z := 289) (cls := 12) (sa := []) (th := [(14, 195)]) (r := []) (d' := d - 1) (show iv_cck 1 295 21 289 = true by decide +kernel) (Or.inl ⟨rfl, _, rfl⟩) (show iv_mck 1 289 0 12 1 = true by decide +kernel) (show (0 : Nat) ≤ 8 by decide) (by omega) (iv_C_mono (rr_looks hL (by omega) hB hi he) (fun q μ1 hq => ?_))
      obtain ⟨rfl, hF1, t, hT⟩ := hq
      have hM1 := rr_M_0 hF1 hM
      have hF2 := rr_F_tr hF (rr_F_0 hF1)
      obtain ⟨hB1, -, ht, e13, e14, e12, e15⟩ := id hT
      have hz : l2 = 0 → m = 2 := by omega
      have hz1 : l2 ≠ 0 → m < 2 ∧ l2 = 1 := by omega
      have hz3 : l2 ≠ 0 → (l3 = 0 ↔ m ≠ 0) := by omega
      have hte := (tk_e_bd (b := b) hi).2.1
      -- a fault here
      have bad : ∀ μ2 : iv_M, rr_FM base μ1 μ2 → mc_step t (tk_v b n i) (W, m, c) = .inr none → rr_E b n base i0 μ0 (some (0, 0)) μ2 := fun μ2 h3 hs => ⟨rr_F_tr hF2 (rr_F_M h3), rr_B_M h3 hB1, Or.inl ⟨i, rfl, mc_K_end hK ht hs, (rr_T_M h3 hT).2.2.2.2.2.1⟩⟩
      -- on to the next token
      have on : ∀ (μ2 : iv_M) (W' : List Nat) (m' : Nat) (c' : List Int) (l2' l3' : Int) (l4 : Option iv_Z), t ≠ 23 → rr_FM base μ1 μ2 → rr_M W' c' base μ2 → c'.length + W'.length ≤ i + 1 → mc_step t (tk_v b n i) (W, m, c) = .inl (W', m', c') → ((m' = 0 ∧ l2' = 1 ∧ l3' = 1) ∨ (m' = 1 ∧ l2' = 1 ∧ l3' = 0) ∨ (m' = 2 ∧ l2' = 0)) → iv_G L xs vz d 295 20 [some (14, 195), some (0, (p : Int)), some (0, l2'), some (0, l3'), l4] [] μ2 (rr_E b n base i0 μ0) := fun μ2 W' m' c' l2' l3' l4 h23 h3 hM3 hl3 hs hm3 => by
        have ha := tk_adv hi ht h23
        refine iv_wk (ih (tk_e b n i) W' m' c' l2' l3' μ2 (by omega) (by omega) hte (rr_F_tr hF2 (rr_F_M h3)) (rr_B_M h3 hB1) (rr_T_M h3 hT).2.2.2.1 hM3 (by omega) (mc_K_step hK ht hs) hm3) ⟨Or.inr rfl, Or.inr rfl, Or.inr rfl, Or.inr rfl, Or.inl rfl, trivial⟩
      have hW160 : W.length ≤ 160 := by omega
      -- what opens
      have opns : m < 2 → l2 = 1 → (t = 16 ∨ (t = 14 ∧ m = 0)) → iv_G L xs vz d 295 67 [some (14, 195), some (0, (p : Int)), some (0, l2), some (0, l3), some (0, 1)] [(0, 140), (14, 195)] μ1 (rr_E b n base i0 μ0) := fun hm2 hl2 ho => by
        refine iv_call (want := 1) (y := 295) (pc := 67) (z := 296) (cls := 12) (sa := [(0, 140)]) (th := [(14, 195)]) (r := []) (d' := d - 1) (show iv_cck 1 295 67 296 = true by decide +kernel) (Or.inl ⟨rfl, _, rfl⟩) (show iv_mck 1 296 1 12 2 = true by decide +kernel) (show (0 : Nat) ≤ 8 by decide) (by omega) (iv_C_mono (rr_wait hL (by omega) hM1 hW160 16 (fun t' h => by have h2 := rr_fc t'; have h3 : rr_f 16 = 140 := rfl; omega)) (fun q μ2 hq => ?_))
        obtain ⟨rfl, rfl⟩ := hq
        refine sg_295_70 hL (by omega) ?_
        refine iv_call (want := 1) (y := 295) (pc := 73) (z := 296) (cls := 12) (sa := [(0, 15)]) (th := [(14, 195)]) (r := [(0, _)]) (d' := d - 1) (show iv_cck 1 295 73 296 = true by decide +kernel) (Or.inl ⟨rfl, _, rfl⟩) (show iv_mck 1 296 1 12 2 = true by decide +kernel) (show (1 : Nat) ≤ 8 by decide) (by omega) (iv_C_mono (rr_wait hL (by omega) hM1 hW160 14 (fun t' h => by have h2 := rr_fc t'; have h3 : rr_f 14 = 15 := rfl; omega)) (fun q μ3 hq => ?_))
        obtain ⟨rfl, rfl⟩ := hq
        have hdp := mc_dp_eq W
        have hdl : mc_dp W ≤ W.length := List.countP_le_length
        have ew : iv_w (((W.countP (fun t => Nat.beq t 16) : Nat) : Int) + ((W.countP (fun t => Nat.beq t 14) : Nat) : Int)) = (mc_dp W : Int) := by
          have : mc_op W = W.countP (fun t => Nat.beq t 16) := rfl
          rw [iv_w_id (by omega) (by omega)]
          omega
        have e17 := hM1.1
        refine sg_295_76 hL (by omega) (fun q _ => bad _ (rr_FM_rfl _ _) (mc_opens_no ho hm2 (by omega))) (fun _ q => by cases q) (fun _ q => by cases q) (fun _ q => by cases q) (fun _ q => by cases q) (fun q _ => ?_) (fun _ g => g ⟨by omega, by omega⟩)
        subst hl2
        exact on _ (t :: W) 0 c 1 1 _ (by omega) (fun p k a b' c' => by rw [iv_upd_ne _ _ (by omega), iv_upd_ne _ _ (by omega)]) (rr_M_push hM1 hW160 e14) (by show c.length + (W.length + 1) ≤ _; omega) (mc_opens ho hm2 (by omega)) (Or.inl ⟨rfl, rfl, rfl⟩)
      -- one that stands by itself
      have one : ∀ (x z l4 : Int), t ≠ 23 → m < 2 → x = rr_c z → mc_step t (tk_v b n i) (W, m, c) = .inl (W, 2, c ++ [z]) → iv_G L xs vz d 295 158 [some (14, 195), some (0, (p : Int)), some (0, l2), some (0, l3), some (0, l4)] [(0, x), (14, 195)] μ1 (rr_E b n base i0 μ0) := fun x z l4 h23 hm2 hx hs => by
        refine iv_call (want := 1) (y := 295) (pc := 158) (z := 297) (cls := 12) (sa := [(0, x)]) (th := [(14, 195)]) (r := []) (d' := d - 1) (show iv_cck 1 295 158 297 = true by decide +kernel) (Or.inl ⟨rfl, _, rfl⟩) (show iv_mck 1 297 1 12 2 = true by decide +kernel) (show (0 : Nat) ≤ 8 by decide) (by omega) (iv_C_mono (rr_lays hL (by omega) hM1 (by omega) hx) (fun q μ2 hq => ?_))
        obtain ⟨rfl, h3, hM3⟩ := hq
        refine sg_295_161 hL (by omega) (on μ2 W 2 _ 0 l3 _ h23 h3 hM3 ?_ hs (Or.inr (Or.inr ⟨rfl, rfl⟩)))
        rw [List.length_append]
        show c.length + 1 + W.length ≤ _
        omega
      -- a sign, by its rank
      have rank : m = 2 → l2 = 0 → (t = 17 → mc_op W = 0) → (t = 18 → 0 < mc_op W) → t ≠ 14 → iv_G L xs vz d 295 275 [some (14, 195), some (0, (p : Int)), some (0, l2), some (0, l3), none] [(0, rr_f t)] μ1 (rr_E b n base i0 μ0) := fun hm2 hl2 h17 h18 h14 => by
        subst hm2 hl2
        refine iv_call (want := 0) (y := 295) (pc := 275) (z := 299) (cls := 0) (sa := [(0, rr_f t)]) (th := []) (r := []) (d' := d - 1) (show iv_cck 0 295 275 299 = true by decide +kernel) (Or.inr ⟨rfl, rfl⟩) (show iv_mck 0 299 1 0 1 = true by decide +kernel) (show (0 : Nat) ≤ 8 by decide) (by omega) (iv_C_mono (rr_rank hL (by omega) t) (fun q μ2 hq => ?_))
        obtain ⟨rfl, rfl⟩ := hq
        have h5 := mc_rk5 t
        have stepb : (mc_rk t = 0 ∨ (mc_rk t = 4 ∧ mc_ts W = true)) → mc_step t (tk_v b n i) (W, 2, c) = .inr none := fun h => by
          unfold mc_step
          rw [if_neg (show ¬ (2 < 2) by decide), if_neg (fun q => by have := h17 q.1; have q2 : 0 < mc_op W := q.2; omega), if_neg (fun q => by have := h18 q.1; have q2 : mc_op W = 0 := q.2; omega), if_pos (Or.inr h)]
        have push : 0 < mc_rk t → ¬ (mc_rk t = 4 ∧ mc_ts W = true) → iv_G L xs vz d 295 303 [some (14, 195), some (0, (p : Int)), some (0, 0), some (0, l3), some (0, (mc_rk t : Int))] [(0, (mc_rk t : Int)), (14, 195)] μ2 (rr_E b n base i0 μ0) := fun h0 h4 => by
          have h9 := mc_rk9 h0
          refine iv_call (want := 1) (y := 295) (pc := 303) (z := 298) (cls := 12) (sa := [(0, (mc_rk t : Int))]) (th := [(14, 195)]) (r := []) (d' := d - 1) (show iv_cck 1 295 303 298 = true by decide +kernel) (Or.inl ⟨rfl, _, rfl⟩) (show iv_mck 1 298 1 12 2 = true by decide +kernel) (show (0 : Nat) ≤ 8 by decide) (by omega) (iv_C_mono (rr_sett hL (by omega) (by omega) (by omega) W c _ hM1 (by omega)) (fun q μ3 hq => ?_))
          obtain ⟨rfl, h3, hM3⟩ := hq
          have hlen := mc_st_len (r := mc_rk t) W c
          have hs : mc_step t (tk_v b n i) (W, 2, c) = .inl (t :: (mc_st (mc_rk t) W c).1, (if mc_rk t < 3 then 0 else 1), (mc_st (mc_rk t) W c).2) := by
            unfold mc_step
            rw [if_neg (show ¬ (2 < 2) by decide), if_neg (fun q => by have := h17 q.1; have q2 : 0 < mc_op W := q.2; omega), if_neg (fun q => by have := h18 q.1; have q2 : mc_op W = 0 := q.2; omega), if_neg (fun q => by rcases q with q | q | q; exact h14 q; omega; exact h4 q)]
          have e14' : μ3 195 14 = rr_f t := (rr_T_M h3 hT).2.2.2.2.1
          have hps := rr_M_push hM3 (by omega) e14'
          have hfr : rr_FM base μ2 (iv_upd (iv_upd μ3 203 (μ3 195 17) (μ3 195 14)) 195 17 (iv_w (((iv_upd μ3 203 (μ3 195 17) (μ3 195 14)) 195 17) + 1))) := rr_FM_tr h3 (fun p k a b' c' => by rw [iv_upd_ne _ _ (by omega), iv_upd_ne _ _ (by omega)])
          have e17 := hM3.1
          refine sg_295_306 hL (by omega) (fun _ q => ?_) (fun _ q => ?_) (fun g => g ⟨by omega, by omega⟩)
          · rw [if_neg (by omega)] at hs
            exact on _ _ 1 _ 1 0 _ (by omega) hfr hps (by show (mc_st (mc_rk t) W c).2.length + ((mc_st (mc_rk t) W c).1.length + 1) ≤ _; omega) hs (Or.inr (Or.inl ⟨rfl, rfl, rfl⟩))
          · rw [if_pos (by omega)] at hs
            exact on _ _ 0 _ 1 1 _ (by omega) hfr hps (by show (mc_st (mc_rk t) W c).2.length + ((mc_st (mc_rk t) W c).1.length + 1) ≤ _; omega) hs (Or.inl ⟨rfl, rfl, rfl⟩)
        refine sg_295_278 hL (by omega) (fun q => bad _ (rr_FM_rfl _ _) (stepb (Or.inl (by omega)))) (fun q q4 => push (by omega) (fun h => by omega)) (fun q q4 => ?_)
        refine iv_call (want := 1) (y := 295) (pc := 292) (z := 300) (cls := 12) (sa := []) (th := [(14, 195)]) (r := []) (d' := d - 1) (show iv_cck 1 295 292 300 = true by decide +kernel) (Or.inl ⟨rfl, _, rfl⟩) (show iv_mck 1 300 0 12 1 = true by decide +kernel) (show (0 : Nat) ≤ 8 by decide) (by omega) (iv_C_mono (rr_isT hL (by omega) hM1 hW160) (fun q μ3 hq => ?_))
        obtain ⟨rfl, rfl⟩ := hq
        cases hts : mc_ts W with
        | true => exact sg_295_295 hL (by omega) (fun q => by cases q) (fun _ => bad _ (rr_FM_rfl _ _) (stepb (Or.inr ⟨by omega, hts⟩)))
        | false => exact sg_295_295 hL (by omega) (fun _ => push (by omega) (fun h => by rw [hts] at h; cases h.2)) (fun q => absurd rfl q)
      refine sg_295_24 hL (by omega) (fun q q1 q2 q3 => by rw [e14]; exact rank (hz q) q (fun h => absurd (by rw [e14, h]; rfl) q1) (fun h => absurd (by rw [e14, h]; rfl) q2) (fun h => q3 (by rw [e14, h]; rfl))) (fun q q1 q2 q3 => bad _ (rr_FM_rfl _ _) (rr_st14 (hz q) (rr_k15 (e14 ▸ q3)))) (fun q q1 q2 => ?_) (fun q q1 => ?_) (fun q q1 => opns (hz1 q).1 (hz1 q).2 (Or.inl (rr_k140 (e14 ▸ q1)))) (fun q q1 q2 q3 => ?_) (fun q q1 q2 q3 q4 => bad _ (rr_FM_rfl _ _) (rr_st_no (hz1 q).1 (fun h => q1 (by rw [e14, h]; rfl)) (fun _ h => q2 (by rw [e14, h]; rfl)) (fun h => q3 (by rw [e14, h]; rfl)) (fun h => by have := rr_knm h; rw [e14] at q4; omega))) (fun q q1 q2 q3 q4 q5 => bad _ (rr_FM_rfl _ _) (rr_st_no (hz1 q).1 (fun h => q1 (by rw [e14, h]; rfl)) (fun _ h => q2 (by rw [e14, h]; rfl)) (fun h => q3 (by rw [e14, h]; rfl)) (fun h => by have := rr_knm h; rw [e14] at q5; omega))) (fun q q1 q2 q3 q4 q5 => ?_) (fun q q1 q2 q3 => bad _ (rr_FM_rfl _ _) (rr_st_14 (hz1 q).1 (rr_k15 (e14 ▸ q2)) (((hz3 q).mp q3)))) (fun q q1 q2 q3 => opns (hz1 q).1 (hz1 q).2 (Or.inr ⟨rr_k15 (e14 ▸ q2), by have := hz3 q; omega⟩))
      · -- ;
        have h18 : t = 18 := rr_k159 (e14 ▸ q2)
        have hm2 : m = 2 := hz q
        subst h18 hm2
        refine iv_call (want := 1) (y := 295) (pc := 223) (z := 296) (cls := 12) (sa := [(0, 140)]) (th := [(14, 195)]) (r := []) (d' := d - 1) (show iv_cck 1 295 223 296 = true by decide +kernel) (Or.inl ⟨rfl, _, rfl⟩) (show iv_mck 1 296 1 12 2 = true by decide +kernel) (show (0 : Nat) ≤ 8 by decide) (by omega) (iv_C_mono (rr_wait hL (by omega) hM1 hW160 16 (fun t' h => by have h2 := rr_fc t'; have h3 : rr_f 16 = 140 := rfl; omega)) (fun q μ2 hq => ?_))
        obtain ⟨rfl, rfl⟩ := hq
        refine sg_295_226 hL (by omega) (fun q _ => ?_) (fun _ q => by exfalso; omega) (fun q => ?_)
        · rw [e14]
          refine rank rfl (by omega) (fun h => by cases h) (fun _ => ?_) (by decide)
          have : mc_op W = W.countP (fun t => Nat.beq t 16) := rfl
          omega
        · have hop : mc_op W = 0 := by
            have : mc_op W = W.countP (fun t => Nat.beq t 16) := rfl
            omega
          have hs : mc_step 18 (tk_v b n i) (W, 2, c) = .inr (some (mc_st 1 W c).2) := by
            unfold mc_step
            rw [if_neg (show ¬ (2 < 2) by decide), if_neg (fun q => by cases q.1), if_pos ⟨rfl, hop⟩]
          refine iv_call (want := 1) (y := 295) (pc := 231) (z := 298) (cls := 12) (sa := [(0, ((1 : Nat) : Int))]) (th := [(14, 195)]) (r := []) (d' := d - 1) (show iv_cck 1 295 231 298 = true by decide +kernel) (Or.inl ⟨rfl, _, rfl⟩) (show iv_mck 1 298 1 12 2 = true by decide +kernel) (show (0 : Nat) ≤ 8 by decide) (by omega) (iv_C_mono (rr_sett (r := 1) hL (by omega) (by omega) (by omega) W c _ hM1 (by omega)) (fun q μ3 hq => ?_))
          obtain ⟨rfl, h3, hM3⟩ := hq
          have hlen := mc_st_len (r := 1) W c
          have hT3 := rr_T_M h3 hT
          have e16 := hM3.2.2.1
          refine sg_295_234 hL (by omega) (fun _ => ?_) (fun g => g ⟨by omega, by omega⟩)
          rw [hwb, e16, iv_w_id (x := ((base + 1 + (mc_st 1 W c).2.length : Nat) : Int) - (base : Int)) (by omega) (by omega), iv_w_id (by omega) (by omega)]
          refine ⟨rr_F_tr (rr_F_tr hF2 (rr_F_M h3)) (fun p k a b' c' => iv_upd_ne _ _ (by omega)), ?_, Or.inr ⟨i, _, rfl, mc_K_end hK ht hs, hii, hte, ?_, by omega, ?_, fun k hk => ?_⟩⟩
          · obtain ⟨B1, B2, B3, B4, B5⟩ := hT3.1
            exact ⟨(iv_upd_ne _ _ (Or.inl (by decide))).trans B1, B2, fun k hk => by rw [iv_upd_ne _ _ (Or.inl (by decide))]; exact B3 k hk, fun k hk => (iv_upd_ne _ _ (Or.inl (by decide))).trans (B4 k hk), fun k hk => (iv_upd_ne _ _ (Or.inl (by decide))).trans (B5 k hk)⟩
          · rw [iv_upd_ne _ _ (Or.inl (by decide))]
            exact hT3.2.2.2.1
          · rw [iv_upd_same]
            omega
          · rw [iv_upd_ne _ _ (Or.inr (by omega))]
            exact hM3.2.2.2 k hk
      · -- )
        have h17 : t = 17 := rr_k141 (e14 ▸ q1)
        have hm2 : m = 2 := hz q
        subst h17 hm2
        refine iv_call (want := 1) (y := 295) (pc := 185) (z := 296) (cls := 12) (sa := [(0, 140)]) (th := [(14, 195)]) (r := []) (d' := d - 1) (show iv_cck 1 295 185 296 = true by decide +kernel) (Or.inl ⟨rfl, _, rfl⟩) (show iv_mck 1 296 1 12 2 = true by decide +kernel) (show (0 : Nat) ≤ 8 by decide) (by omega) (iv_C_mono (rr_wait hL (by omega) hM1 hW160 16 (fun t' h => by have h2 := rr_fc t'; have h3 : rr_f 16 = 140 := rfl; omega)) (fun q μ2 hq => ?_))
        obtain ⟨rfl, rfl⟩ := hq
        have hopd : mc_op W = W.countP (fun t => Nat.beq t 16) := rfl
        refine sg_295_188 hL (by omega) (fun q _ _ => ?_) (fun _ _ q => by exfalso; omega) (fun _ q => by exfalso; omega) (fun q => ?_)
        · rw [e14]
          exact rank rfl (by omega) (fun _ => by omega) (fun h => by cases h) (by decide)
        · have hs : mc_step 17 (tk_v b n i) (W, 2, c) = .inl ((mc_st 1 W c).1.tail, 2, (mc_st 1 W c).2) := by
            unfold mc_step
            rw [if_neg (show ¬ (2 < 2) by decide), if_pos ⟨rfl, by show 0 < mc_op W; omega⟩]
          refine iv_call (want := 1) (y := 295) (pc := 193) (z := 298) (cls := 12) (sa := [(0, ((1 : Nat) : Int))]) (th := [(14, 195)]) (r := []) (d' := d - 1) (show iv_cck 1 295 193 298 = true by decide +kernel) (Or.inl ⟨rfl, _, rfl⟩) (show iv_mck 1 298 1 12 2 = true by decide +kernel) (show (0 : Nat) ≤ 8 by decide) (by omega) (iv_C_mono (rr_sett (r := 1) hL (by omega) (by omega) (by omega) W c _ hM1 (by omega)) (fun q μ3 hq => ?_))
          obtain ⟨rfl, h3, hM3⟩ := hq
          have hlen := mc_st_len (r := 1) W c
          have hop3 := mc_st_op (r := 1) (by decide) W c
          refine sg_295_196 hL (by omega) ?_
          cases e : (mc_st 1 W c).1 with
          | nil =>
            exfalso
            rw [e] at hop3
            have : mc_op [] = 0 := rfl
            omega
          | cons x V =>
            rw [e] at hM3 hlen hs
            have hlV : V.length + 1 ≤ 160 := by
              have : (x :: V).length = V.length + 1 := rfl
              omega
            obtain ⟨hM4, e4⟩ := rr_M_pop hM3 hlV
            have hl2 : l2 = 0 := by omega
            subst hl2
            refine on _ V 2 _ 0 l3 none (by decide) (rr_FM_tr h3 (fun p k a b' c' => iv_upd_ne _ _ (by omega))) hM4 ?_ hs (Or.inr (Or.inr ⟨rfl, rfl⟩))
            have : (x :: V).length = V.length + 1 := rfl
            omega
      · -- a number
        have h15 : t = 15 := rr_k50 (e14 ▸ q3)
        rw [e15 h15]
        subst h15
        have hv := tk_v_rg ht
        exact one _ (tk_v b n i) 0 (by decide) (hz1 q).1 (rr_c_id (by omega)).symm (mc_num (hz1 q).1)
      · -- a name
        have h9 : t < 9 ∧ rr_f t = (t : Int) + 1 := rr_k9 (by rw [← e14]; exact q4) (by rw [← e14]; exact q5)
        rw [e14, h9.2, show iv_w (-((t : Int) + 1)) = -1 - (t : Int) by rw [iv_w_id (by omega) (by omega)]; omega]
        exact one _ (-1 - (t : Int)) 0 (by omega) (hz1 q).1 (rr_c_id (by omega)).symm (mc_nam (hz1 q).1 h9.1)
  refine iv_C_of (sg_295_0 hL (by omega) ?_)
  rw [hwb]
  refine lp (n + 1) i0 [] 0 [] 1 1 _ (by omega) (Nat.le_refl _) hi0 ?_ ?_ ?_ ?_ (Nat.zero_le _) mc_K_rfl (Or.inl ⟨rfl, rfl, rfl⟩)
  · exact fun p k a b' c' => by rw [iv_upd_ne _ _ (by omega), iv_upd_ne _ _ (by omega)]
  · exact rr_B_M (base := base) (fun p k a b' c' => by rw [iv_upd_ne _ _ (by omega), iv_upd_ne _ _ (by omega)]) hB0
  · rw [iv_upd_ne _ _ (Or.inr (by decide)), iv_upd_ne _ _ (Or.inr (by decide))]
    exact h13
  · refine ⟨iv_upd_same _ _ _ _, fun k hk => absurd hk (Nat.not_lt_zero k), ?_, fun k hk => absurd hk (Nat.not_lt_zero k)⟩
    rw [iv_upd_ne _ _ (Or.inr (by decide)), iv_upd_same, iv_w_id (by omega) (by omega)]
    show (base : Int) + 1 = ((base + 1 + 0 : Nat) : Int)
    omega
/-- the codes of some sums, one segment each -/
def rr_Z (μ : iv_M) : Nat → List (List Int) → Prop
  | _, [] => True
  | p, c :: cs => c.length ≤ 160 ∧ μ 202 ((163 * p : Nat) : Int) = (c.length : Int) ∧ (∀ k : Nat, k < c.length → μ 202 ((163 * p + 1 + k : Nat) : Int) = rr_c (c.getD k 0)) ∧ rr_Z μ (p + 1) cs
def rr_W (b : Nat → Int) (n : Nat) (μ : iv_M) (q : Option iv_Z) (μ' : iv_M) : Prop := rr_F 0 μ μ' ∧ ∃ z, tx_Q b n 3 0 z ∧ ((∃ s, z = .inl s ∧ q = some (0, 0) ∧ μ' 195 12 = (s : Int)) ∨ (∃ cs, z = .inr cs ∧ q = some (0, 1) ∧ cs.length = 3 ∧ rr_Z μ' 0 cs))
theorem rr_Z_app {μ : iv_M} : ∀ {p : Nat} {cs : List (List Int)} {c : List Int}, rr_Z μ p cs → c.length ≤ 160 → μ 202 ((163 * (p + cs.length) : Nat) : Int) = (c.length : Int) → (∀ k : Nat, k < c.length → μ 202 ((163 * (p + cs.length) + 1 + k : Nat) : Int) = rr_c (c.getD k 0)) → rr_Z μ p (cs ++ [c])
  | p, [], c, _, h0, h1, h2 => ⟨h0, h1, h2, trivial⟩
  | p, x :: cs, c, ⟨g0, g1, g2, g3⟩, h0, h1, h2 => by
    have e : p + (x :: cs).length = p + 1 + cs.length := by
      show p + (cs.length + 1) = _
      omega
    rw [e] at h1 h2
    exact ⟨g0, g1, g2, rr_Z_app g3 h0 h1 h2⟩
theorem rr_Z_F {μ μ' : iv_M} : ∀ {p : Nat} {cs : List (List Int)}, rr_Z μ p cs → (∀ k : Nat, k < 163 * (p + cs.length) → μ' 202 (k : Int) = μ 202 (k : Int)) → rr_Z μ' p cs
  | p, [], _, _ => trivial
  | p, x :: cs, ⟨g0, g1, g2, g3⟩, h => by
    have e : p + (x :: cs).length = p + 1 + cs.length := by
      show p + (cs.length + 1) = _
      omega
    rw [e] at h
    exact ⟨g0, (h _ (by omega)).trans g1, fun k hk => (h _ (by omega)).trans (g2 k hk), rr_Z_F g3 h⟩
theorem rr_reads {d : Nat} {μ : iv_M} (hL : L ≤ 3072) (hd : 70 ≤ d) (hB : rr_B b n μ) : iv_C L xs vz d 288 [(14, 195)] μ (rr_W b n μ) := by
  have lp : ∀ (m p i : Nat) (cs : List (List Int)) (μ1 : iv_M), p + m = 3 → cs.length = p → rr_F 0 μ μ1 → rr_B b n μ1 → i ≤ n → μ1 195 13 = (i : Int) → rr_Z μ1 0 cs → (∀ z', tx_Q b n m i z' → tx_Q b n 3 0 (z'.map id (cs ++ ·))) → iv_G L xs vz d 288 7 [some (14, 195), some (0, (p : Int))] [] μ1 (rr_W b n μ) := by
    intro m
    induction m with
    | zero =>
      intro p i cs μ1 hpm hcs hF hB1 hi h13 hZ hx
      refine sg_288_7 hL (by omega) (by omega) (fun _ => ?_) (fun q => by exfalso; omega)
      refine iv_call (want := 1) (y := 288) (pc := 44) (z := 289) (cls := 12) (sa := []) (th := [(14, 195)]) (r := []) (d' := d - 1) (show iv_cck 1 288 44 289 = true by decide +kernel) (Or.inl ⟨rfl, _, rfl⟩) (show iv_mck 1 289 0 12 1 = true by decide +kernel) (show (0 : Nat) ≤ 8 by decide) (by omega) (iv_C_mono (rr_looks hL (by omega) hB1 hi h13) (fun q μ2 hq => ?_))
      obtain ⟨rfl, hF2, t, hT⟩ := hq
      have hf := rr_fc t
      have e14 := hT.2.2.2.2.1
      have hF3 := rr_F_tr hF (rr_F_0 hF2)
      refine sg_288_47 hL (by omega) (fun q => ⟨hF3, _, hx _ ⟨t, hT.2.2.1, Or.inr ⟨by omega, rfl⟩⟩, Or.inl ⟨_, rfl, rfl, hT.2.2.2.2.2.1⟩⟩) (fun q => ⟨hF3, _, hx _ ⟨t, hT.2.2.1, Or.inl ⟨by omega, rfl⟩⟩, Or.inr ⟨cs ++ [], rfl, rfl, by rw [List.append_nil]; omega, ?_⟩⟩)
      rw [List.append_nil]
      exact rr_Z_F hZ (fun k _ => hF2 _ _ (Or.inl (by decide)))
    | succ m ih =>
      intro p i cs μ1 hpm hcs hF hB1 hi h13 hZ hx
      refine sg_288_7 hL (by omega) (by omega) (fun q => by exfalso; omega) (fun _ => ?_)
      refine iv_call (want := 1) (y := 288) (pc := 13) (z := 289) (cls := 12) (sa := []) (th := [(14, 195)]) (r := []) (d' := d - 1) (show iv_cck 1 288 13 289 = true by decide +kernel) (Or.inl ⟨rfl, _, rfl⟩) (show iv_mck 1 289 0 12 1 = true by decide +kernel) (show (0 : Nat) ≤ 8 by decide) (by omega) (iv_C_mono (rr_looks hL (by omega) hB1 hi h13) (fun q μ2 hq => ?_))
      obtain ⟨rfl, hF2, t, hT⟩ := hq
      have hf := rr_fc t
      have e14 := hT.2.2.2.2.1
      have hF3 := rr_F_tr hF (rr_F_0 hF2)
      have ep : iv_w (10 + (p : Int)) = 10 + (p : Int) := iv_w_id (by omega) (by omega)
      refine sg_288_16 hL (by omega) (fun q => ⟨hF3, _, hx _ ⟨t, hT.2.2.1, Or.inl ⟨by omega, rfl⟩⟩, Or.inl ⟨_, rfl, rfl, hT.2.2.2.2.2.1⟩⟩) (fun q => ?_)
      have htk : t + m = 11 := by omega
      refine iv_call (want := 1) (y := 288) (pc := 29) (z := 295) (cls := 12) (sa := [(0, (p : Int))]) (th := [(14, 195)]) (r := []) (d' := d - 1) (show iv_cck 1 288 29 295 = true by decide +kernel) (Or.inl ⟨rfl, _, rfl⟩) (show iv_mck 1 295 1 12 2 = true by decide +kernel) (show (0 : Nat) ≤ 8 by decide) (by omega) (iv_C_mono (rr_expr (p := p) (base := 163 * p) hL (by omega) (by omega) rfl hT.1 (tk_e_bd hi).2.1 hT.2.2.2.1) (fun q μ3 hq => ?_))
      obtain ⟨hF4, hB4, hq⟩ := hq
      have hF5 : rr_F 0 μ μ3 := rr_F_tr hF3 (fun p' k a b' c' => hF4 p' k a b' (by omega))
      rcases hq with ⟨j, rfl, hQ, h12⟩ | ⟨j, c, rfl, hQ, hij, hj, h13', hc, hc0, hck⟩
      · exact sg_288_32 hL (by omega) (fun q => absurd rfl q) (fun _ => ⟨hF5, _, hx _ ⟨t, hT.2.2.1, Or.inr ⟨htk, Or.inl ⟨j, hQ, rfl⟩⟩⟩, Or.inl ⟨_, rfl, rfl, h12⟩⟩)
      · refine sg_288_32 hL (by omega) (fun _ => ?_) (fun q => by cases q)
        rw [show iv_w ((p : Int) + 1) = ((p + 1 : Nat) : Int) by rw [iv_w_id (by omega) (by omega)]; omega]
        refine ih (p + 1) (tk_e b n j) (cs ++ [c]) μ3 (by omega) (by rw [List.length_append]; show cs.length + 1 = _; omega) hF5 hB4 hj h13' ?_ (fun z' hz => ?_)
        · refine rr_Z_app (rr_Z_F hZ (fun k hk => ?_)) hc (by rw [hcs, Nat.zero_add]; exact hc0) (by rw [hcs, Nat.zero_add]; exact hck)
          rw [hF4 _ _ (Or.inl (by decide)) (by decide) (Or.inr (by omega)), hF2 _ _ (Or.inl (by decide))]
        · have := hx _ ⟨t, hT.2.2.1, Or.inr ⟨htk, Or.inr ⟨c, j, z', hQ, hz, rfl⟩⟩⟩
          cases z' with
          | inl s => exact this
          | inr l =>
            have e : (cs ++ [c]) ++ l = cs ++ (c :: l) := by rw [List.append_assoc]; rfl
            show tx_Q b n 3 0 (.inr ((cs ++ [c]) ++ l))
            rw [e]
            exact this
  refine iv_C_of (sg_288_0 hL (by omega) ?_)
  refine lp 3 0 0 [] _ rfl rfl (fun p k a b' c' => iv_upd_ne _ _ (by omega)) ?_ (Nat.zero_le _) (iv_upd_same _ _ _ _) trivial (fun z' hz => ?_)
  · exact rr_F0_B (fun p k a => iv_upd_ne _ _ (by omega)) hB
  · cases z' with
    | inl s => exact hz
    | inr l => exact hz
end RRE
