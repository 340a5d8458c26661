/-! ===== runs from cut to cut: what the check gives ===== -/
section SEY
variable {kx : Nat} {zs : List mm_Zt} {ty : Nat → Option Nat} {tt : Nat → se_Ty} {Z : se_W} {tw : Nat} {J : List mm_C → Prop} {C : List se_C} {zt : Nat → Option Nat}
theorem se_enc_pre {ρo ρ : List Value} (hρ : ρo <+: ρ) : ∀ (n : Nat) {l : List se_V}, (∀ v ∈ l, ∃ x, se_v ρo v = some x) → se_enc ρ n l = se_enc ρo n l
  | 0, l, _ => by cases l <;> rfl
  | n + 1, [], _ => rfl
  | n + 1, v :: t, h => by
    obtain ⟨δ, rfl⟩ := hρ
    obtain ⟨x, hx⟩ := h v List.mem_cons_self
    have e : se_dig (ρo ++ δ) v = se_dig ρo v := by
      unfold se_dig
      rw [se_v_app hx, hx]
    show se_dig (ρo ++ δ) v * _ + se_enc (ρo ++ δ) n t = se_dig ρo v * _ + se_enc ρo n t
    rw [e, se_enc_pre (List.prefix_append ρo δ) n (fun v hv => h v (List.mem_cons_of_mem _ hv))]
theorem se_run_ok {c : se_C} {t : mm_Mt} {code : List sx_I} {Ns : List se_Nd} {k : Nat} {old : Option (List se_V)} {d pc : Nat} {N : se_N} {ρ0 ρn : List Value} {m0 mc : List mm_C} {lc : List (Nat × Value)} {cb sb : Nat} (hJ : se_Jz ty Z J) (hkx : ∀ p t, ty p = some t → tw ≤ t → kx ≤ p) (hzt : se_zok ty zs zt) (hl1 : 1 ≤ c.1.2) (hC : ∀ c' ∈ C, se_Met ty tt J kx zs c' ∧ c'.1.2 < c.1.2) (hd : 13 * c.1.2 ≤ d) (ht : mm_mths[c.1.1]? = some t) (hcode : sx_cods[c.1.1]? = some code) (hlen : N.2.1.length ≤ t.2.2.2.1) (h : se_runq tt C Z tw zt c t Ns k old (se_start c.1.1 code t.2.2.2.1 N pc) = true) (hg : ρ0.length = c.2.1.1.length) (hold : ∀ o, old = some o → ∀ v ∈ o, ∃ x, se_v ρn v = some x) (hH : se_Hn ty tt c.2.2.2 J m0 ρ0 N ρn lc mc) (hN : ∀ n ∈ Ns, ∀ (ρ : List Value) (lc : List (Nat × Value)) (mc : List mm_C) (cb sb : Nat), (∀ o, old = some o → se_enc ρ 16 n.2.2 < se_enc ρn 16 o) → se_Hn ty tt c.2.2.2 J m0 ρ0 n.2.1 ρ lc mc → mm_T kx zs (se_Q ty tt J c t ρ0 m0) [] d (sx_fi c.1.1) (n.1, lc, [], mc, cb, sb)) : mm_T kx zs (se_Q ty tt J c t ρ0 m0) [] d (sx_fi c.1.1) (pc, lc, [], mc, cb, sb) := by
  unfold se_runq at h
  split at h
  · next w hw =>
    obtain ⟨h1, h2, h3, h4, h5, h6, h7, h8⟩ := hH
    have hgood : ∀ S ∈ w, se_Good ty tt c.2.2.2 J m0 kx zs (se_Q ty tt J c t ρ0 m0) ρn d S := by
      intro S hS
      have hq := List.all_eq_true.mp h S hS
      split at hq
      · next w1 hw1 =>
        refine se_step_ok hl1 hC hd hJ hkx hzt hw1 (se_it_ok (stops := Ns.map (fun n => n.1)) hl1 hC hd hJ hkx hzt k (fun T hT => ?_))
        exact se_fin_ok ht (List.all_eq_true.mp hq T hT) hg ρn (fun ρ hρ o ho => se_enc_pre hρ 16 (hold o ho)) h2 hN
      · cases hq
    unfold se_start at hw
    exact se_go_ok (K := []) (Kc := []) hw hgood (List.prefix_refl _) h1 hcode (fun _ q => q) (by rw [sx_cods_mths ht]; exact se_pad_len hlen) (se_pad_gl h3) trivial ⟨h4, trivial, Nat.zero_le _, h5, (fun l q => by cases q), h6, h7, h8⟩
  · cases h
theorem se_sound {c : se_C} {Ns : List se_Nd} {k : Nat} (hJ : se_Jz ty Z J) (hkx : ∀ p t, ty p = some t → tw ≤ t → kx ≤ p) (hzt : se_zok ty zs zt) (hC : ∀ c' ∈ C, se_Met ty tt J kx zs c') (h0 : se_chk0 tt C Z tw zt c Ns k = true) (hn : ∀ n ∈ Ns, se_chkn tt C Z tw zt c Ns k n = true) : se_Met ty tt J kx zs c := by
  intro d t ρ As m0 hd ht he hgl hM hP htm hJm
  unfold se_chk0 at h0
  rw [ht] at h0
  split at h0
  · next t' code et hcode =>
    cases et
    rw [Bool.and_eq_true, Bool.and_eq_true, Bool.and_eq_true] at h0
    obtain ⟨a1, a2, a3, a4⟩ := h0
    have a2 := Nat.le_of_ble_eq_true a2
    have a3 := Nat.le_of_ble_eq_true a3
    have hC' : ∀ c' ∈ C, se_Met ty tt J kx zs c' ∧ c'.1.2 < c.1.2 := fun c' hc' => ⟨hC c' hc', Nat.le_of_ble_eq_true (List.all_eq_true.mp a1 c' hc')⟩
    have hg : ρ.length = c.2.1.1.length := by have := he.1; simpa using this
    have nodes : ∀ (m : Nat), ∀ n ∈ Ns, ∀ (ρn : List Value) (lc : List (Nat × Value)) (mc : List mm_C) (cb sb : Nat), se_enc ρn 16 n.2.2 = m → se_Hn ty tt c.2.2.2 J m0 ρ n.2.1 ρn lc mc → mm_T kx zs (se_Q ty tt J c t ρ m0) [] d (sx_fi c.1.1) (n.1, lc, [], mc, cb, sb) := by
      intro m
      induction m using Nat.strongRecOn with
      | ind m ih =>
        intro n hnn ρn lc mc cb sb hm hH
        have hq := hn n hnn
        unfold se_chkn at hq
        rw [ht, hcode] at hq
        dsimp only at hq
        rw [Bool.and_eq_true, Bool.and_eq_true] at hq
        obtain ⟨b1, b2, b3⟩ := hq
        refine se_run_ok hJ hkx hzt a2 hC' hd ht hcode (Nat.le_of_ble_eq_true b2) b3 hg (fun o ho v hv => ?_) hH (fun n' hn' ρ' lc' mc' cb' sb' hlt hH' => ih _ (by have := hlt _ rfl; omega) n' hn' ρ' lc' mc' cb' sb' rfl hH')
        cases ho
        have hb := List.all_eq_true.mp b1 v hv
        by_cases e : v.1 = 0
        · exact ⟨_, by unfold se_v; rw [if_pos e]⟩
        · rw [Bool.or_eq_true] at hb
          rcases hb with hb | hb
          · exact absurd (of_decide_eq_true hb) e
          · have hb : v.2.1 < n.2.1.1.length := Nat.le_of_ble_eq_true hb
            have hlt : v.2.1 < ρn.length := by
              have := hH.1.1
              rw [List.length_map] at this
              omega
            exact ⟨_, se_v_mul (List.getElem?_eq_getElem hlt) e⟩
    obtain ⟨n, τ, r1, v, r2, r3⟩ := se_run_ok (old := none) (cb := (mm_bud c.1.1).1) (sb := (mm_bud c.1.1).2) hJ hkx hzt a2 hC' hd ht hcode a3 a4 hg (fun o ho => by cases ho) ⟨he, List.prefix_refl _, hgl, hM, hP, htm, hJm, fun _ _ => rfl, fun _ _ _ _ _ => rfl⟩ (fun n hn ρ' lc' mc' cb' sb' _ hH' => nodes _ n hn ρ' lc' mc' cb' sb' rfl hH')
    rw [sx_cods_mths ht] at r1
    exact ⟨n, τ, v, r1, r2, r3⟩
  · cases h0
end SEY
