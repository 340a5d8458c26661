def sg_134_0_l : List iv_L := [([(0, (.tag 0 .nil), (.nest 0 .nil)), (3, (.nest 0 (.append (.nest 182 .nil) (.nest 1 .nil))), (.nest 0 .nil)), (1, (.nest 0 (.append (.nest 182 .nil) (.nest 1 .nil))), (.nest 160 .nil))], [], 2, 134, 29, [], [(0, (.nest 0 .nil))]), ([(3, (.tag 0 .nil), (.nest 0 (.append (.nest 182 .nil) (.nest 1 .nil)))), (3, (.tag 0 .nil), (.nest 0 .nil)), (3, (.nest 0 (.append (.nest 182 .nil) (.nest 1 .nil))), (.nest 0 .nil)), (1, (.nest 0 (.append (.nest 182 .nil) (.nest 1 .nil))), (.nest 160 .nil))], [], 2, 134, 29, [], [(0, (.nest 0 .nil))]), ([(0, (.tag 0 .nil), (.nest 0 (.append (.nest 182 .nil) (.nest 1 .nil)))), (3, (.tag 0 .nil), (.nest 0 .nil)), (3, (.nest 0 (.append (.nest 182 .nil) (.nest 1 .nil))), (.nest 0 .nil)), (1, (.nest 0 (.append (.nest 182 .nil) (.nest 1 .nil))), (.nest 160 .nil))], [], 2, 134, 29, [], [(0, (.nest 0 (.append (.nest 183 .nil) (.tag 0 .nil))))])]
set_option maxRecDepth 100000 in
theorem sg_134_0 {L : Nat} {xs : Nat → Int32} {vz : Value} {d : Nat} {μ : iv_M} {P : iv_P} {x0 : Int} (hL : L ≤ 3072) (hd : 6 ≤ d) (f0 : (μ 182 1) ≥ 0) (f1 : (μ 182 1) ≤ 160)
    (h0 : x0 < 0 → P (some (0, 0)) μ)
    (h1 : x0 ≥ 0 → x0 ≥ (μ 182 1) → P (some (0, 0)) μ)
    (h2 : x0 ≥ 0 → x0 < (μ 182 1) → P (some (0, (μ 183 x0))) μ)
    : iv_G L xs vz d 134 0 [some (10, 182), some (0, x0)] [] μ P :=
  iv_ok hL (ρ := [x0]) (n := 4) (stops := []) (lv := [some (10, (.nest 182 .nil)), some (0, (.tag 0 .nil))]) (st := []) (I := [(3, (.nest 0 (.append (.nest 182 .nil) (.nest 1 .nil))), (.nest 0 .nil)), (1, (.nest 0 (.append (.nest 182 .nil) (.nest 1 .nil))), (.nest 160 .nil))]) (ls := sg_134_0_l) (by decide +kernel) hd (fun e he => by rcases List.mem_cons.mp he with rfl | he; exact f0; rcases List.mem_cons.mp he with rfl | he; exact f1; cases he) ⟨(fun _ _ => h0), (fun _ _ => h1), (fun _ _ => h2), trivial⟩
def sg_135_0_l : List iv_L := [([(0, (.tag 0 .nil), (.nest 97 .nil))], [], 2, 135, 8, [], [(0, (.nest 0 .nil))]), ([(2, (.tag 0 .nil), (.nest 122 .nil)), (3, (.tag 0 .nil), (.nest 97 .nil))], [], 2, 135, 8, [], [(0, (.nest 0 .nil))]), ([(1, (.tag 0 .nil), (.nest 122 .nil)), (3, (.tag 0 .nil), (.nest 97 .nil))], [], 2, 135, 8, [], [(0, (.nest 1 .nil))])]
set_option maxRecDepth 100000 in
theorem sg_135_0 {L : Nat} {xs : Nat → Int32} {vz : Value} {d : Nat} {μ : iv_M} {P : iv_P} {x0 : Int} (hL : L ≤ 3072) (hd : 6 ≤ d)
    (h0 : x0 < 97 → P (some (0, 0)) μ)
    (h1 : x0 ≥ 97 → x0 > 122 → P (some (0, 0)) μ)
    (h2 : x0 ≥ 97 → x0 ≤ 122 → P (some (0, 1)) μ)
    : iv_G L xs vz d 135 0 [some (0, x0)] [] μ P :=
  iv_ok hL (ρ := [x0]) (n := 4) (stops := []) (lv := [some (0, (.tag 0 .nil))]) (st := []) (I := []) (ls := sg_135_0_l) (by decide +kernel) hd (fun e he => by cases he) ⟨h0, h1, h2, trivial⟩
def sg_150_0_l : List iv_L := [([(0, (.tag 0 .nil), (.nest 48 .nil))], [], 2, 150, 8, [], [(0, (.nest 0 .nil))]), ([(2, (.tag 0 .nil), (.nest 57 .nil)), (3, (.tag 0 .nil), (.nest 48 .nil))], [], 2, 150, 8, [], [(0, (.nest 0 .nil))]), ([(1, (.tag 0 .nil), (.nest 57 .nil)), (3, (.tag 0 .nil), (.nest 48 .nil))], [], 2, 150, 8, [], [(0, (.nest 1 .nil))])]
set_option maxRecDepth 100000 in
theorem sg_150_0 {L : Nat} {xs : Nat → Int32} {vz : Value} {d : Nat} {μ : iv_M} {P : iv_P} {x0 : Int} (hL : L ≤ 3072) (hd : 6 ≤ d)
    (h0 : x0 < 48 → P (some (0, 0)) μ)
    (h1 : x0 ≥ 48 → x0 > 57 → P (some (0, 0)) μ)
    (h2 : x0 ≥ 48 → x0 ≤ 57 → P (some (0, 1)) μ)
    : iv_G L xs vz d 150 0 [some (0, x0)] [] μ P :=
  iv_ok hL (ρ := [x0]) (n := 4) (stops := []) (lv := [some (0, (.tag 0 .nil))]) (st := []) (I := []) (ls := sg_150_0_l) (by decide +kernel) hd (fun e he => by cases he) ⟨h0, h1, h2, trivial⟩
def sg_152_0_l : List iv_L := [([(4, (.tag 0 .nil), (.nest 40 .nil))], [], 2, 152, 106, [], [(0, (.nest 16 .nil))]), ([(4, (.tag 0 .nil), (.nest 41 .nil))], [], 2, 152, 109, [], [(0, (.nest 17 .nil))]), ([(4, (.tag 0 .nil), (.nest 42 .nil))], [], 2, 152, 127, [], [(0, (.nest 24 .nil))]), ([(4, (.tag 0 .nil), (.nest 43 .nil))], [], 2, 152, 115, [], [(0, (.nest 19 .nil))]), ([(4, (.tag 0 .nil), (.nest 44 .nil))], [], 2, 152, 127, [], [(0, (.nest 24 .nil))]), ([(4, (.tag 0 .nil), (.nest 45 .nil))], [], 2, 152, 118, [], [(0, (.nest 20 .nil))]), ([(4, (.tag 0 .nil), (.nest 46 .nil))], [], 2, 152, 127, [], [(0, (.nest 24 .nil))]), ([(4, (.tag 0 .nil), (.nest 47 .nil))], [], 2, 152, 127, [], [(0, (.nest 24 .nil))]), ([(4, (.tag 0 .nil), (.nest 48 .nil))], [], 2, 152, 127, [], [(0, (.nest 24 .nil))]), ([(4, (.tag 0 .nil), (.nest 49 .nil))], [], 2, 152, 127, [], [(0, (.nest 24 .nil))]), ([(4, (.tag 0 .nil), (.nest 50 .nil))], [], 2, 152, 127, [], [(0, (.nest 24 .nil))]), ([(4, (.tag 0 .nil), (.nest 51 .nil))], [], 2, 152, 127, [], [(0, (.nest 24 .nil))]), ([(4, (.tag 0 .nil), (.nest 52 .nil))], [], 2, 152, 127, [], [(0, (.nest 24 .nil))]), ([(4, (.tag 0 .nil), (.nest 53 .nil))], [], 2, 152, 127, [], [(0, (.nest 24 .nil))]), ([(4, (.tag 0 .nil), (.nest 54 .nil))], [], 2, 152, 127, [], [(0, (.nest 24 .nil))]), ([(4, (.tag 0 .nil), (.nest 55 .nil))], [], 2, 152, 127, [], [(0, (.nest 24 .nil))]), ([(4, (.tag 0 .nil), (.nest 56 .nil))], [], 2, 152, 127, [], [(0, (.nest 24 .nil))]), ([(4, (.tag 0 .nil), (.nest 57 .nil))], [], 2, 152, 127, [], [(0, (.nest 24 .nil))]), ([(4, (.tag 0 .nil), (.nest 58 .nil))], [], 2, 152, 127, [], [(0, (.nest 24 .nil))]), ([(4, (.tag 0 .nil), (.nest 59 .nil))], [], 2, 152, 112, [], [(0, (.nest 18 .nil))]), ([(4, (.tag 0 .nil), (.nest 60 .nil))], [], 2, 152, 121, [], [(0, (.nest 21 .nil))]), ([(4, (.tag 0 .nil), (.nest 61 .nil))], [], 2, 152, 124, [], [(0, (.nest 22 .nil))]), ([(5, (.tag 0 .nil), (.nest 61 .nil)), (5, (.tag 0 .nil), (.nest 60 .nil)), (5, (.tag 0 .nil), (.nest 59 .nil)), (5, (.tag 0 .nil), (.nest 58 .nil)), (5, (.tag 0 .nil), (.nest 57 .nil)), (5, (.tag 0 .nil), (.nest 56 .nil)), (5, (.tag 0 .nil), (.nest 55 .nil)), (5, (.tag 0 .nil), (.nest 54 .nil)), (5, (.tag 0 .nil), (.nest 53 .nil)), (5, (.tag 0 .nil), (.nest 52 .nil)), (5, (.tag 0 .nil), (.nest 51 .nil)), (5, (.tag 0 .nil), (.nest 50 .nil)), (5, (.tag 0 .nil), (.nest 49 .nil)), (5, (.tag 0 .nil), (.nest 48 .nil)), (5, (.tag 0 .nil), (.nest 47 .nil)), (5, (.tag 0 .nil), (.nest 46 .nil)), (5, (.tag 0 .nil), (.nest 45 .nil)), (5, (.tag 0 .nil), (.nest 44 .nil)), (5, (.tag 0 .nil), (.nest 43 .nil)), (5, (.tag 0 .nil), (.nest 42 .nil)), (5, (.tag 0 .nil), (.nest 41 .nil)), (5, (.tag 0 .nil), (.nest 40 .nil))], [], 2, 152, 127, [], [(0, (.nest 24 .nil))])]
set_option maxRecDepth 100000 in
theorem sg_152_0 {L : Nat} {xs : Nat → Int32} {vz : Value} {d : Nat} {μ : iv_M} {P : iv_P} {x0 : Int} (hL : L ≤ 3072) (hd : 6 ≤ d)
    (h0 : x0 = 40 → P (some (0, 16)) μ)
    (h1 : x0 = 41 → P (some (0, 17)) μ)
    (h2 : x0 = 42 → P (some (0, 24)) μ)
    (h3 : x0 = 43 → P (some (0, 19)) μ)
    (h4 : x0 = 44 → P (some (0, 24)) μ)
    (h5 : x0 = 45 → P (some (0, 20)) μ)
    (h6 : x0 = 46 → P (some (0, 24)) μ)
    (h7 : x0 = 47 → P (some (0, 24)) μ)
    (h8 : x0 = 48 → P (some (0, 24)) μ)
    (h9 : x0 = 49 → P (some (0, 24)) μ)
    (h10 : x0 = 50 → P (some (0, 24)) μ)
    (h11 : x0 = 51 → P (some (0, 24)) μ)
    (h12 : x0 = 52 → P (some (0, 24)) μ)
    (h13 : x0 = 53 → P (some (0, 24)) μ)
    (h14 : x0 = 54 → P (some (0, 24)) μ)
    (h15 : x0 = 55 → P (some (0, 24)) μ)
    (h16 : x0 = 56 → P (some (0, 24)) μ)
    (h17 : x0 = 57 → P (some (0, 24)) μ)
    (h18 : x0 = 58 → P (some (0, 24)) μ)
    (h19 : x0 = 59 → P (some (0, 18)) μ)
    (h20 : x0 = 60 → P (some (0, 21)) μ)
    (h21 : x0 = 61 → P (some (0, 22)) μ)
    (h22 : x0 ≠ 40 → x0 ≠ 41 → x0 ≠ 42 → x0 ≠ 43 → x0 ≠ 44 → x0 ≠ 45 → x0 ≠ 46 → x0 ≠ 47 → x0 ≠ 48 → x0 ≠ 49 → x0 ≠ 50 → x0 ≠ 51 → x0 ≠ 52 → x0 ≠ 53 → x0 ≠ 54 → x0 ≠ 55 → x0 ≠ 56 → x0 ≠ 57 → x0 ≠ 58 → x0 ≠ 59 → x0 ≠ 60 → x0 ≠ 61 → P (some (0, 24)) μ)
    : iv_G L xs vz d 152 0 [some (0, x0)] [] μ P :=
  iv_ok hL (ρ := [x0]) (n := 2) (stops := []) (lv := [some (0, (.tag 0 .nil))]) (st := []) (I := []) (ls := sg_152_0_l) (by decide +kernel) hd (fun e he => by cases he) ⟨h0, h1, h2, h3, h4, h5, h6, h7, h8, h9, h10, h11, h12, h13, h14, h15, h16, h17, h18, h19, h20, h21, h22, trivial⟩
def sg_139_0_l : List iv_L := [([], [], 1, 139, 6, [some (17, (.tag 0 .nil))], [(17, (.tag 0 .nil)), (0, (.tag 43 (.append (.tag 41 (.append (.tag 0 .nil) (.nest 16 .nil))) .nil)))])]
set_option maxRecDepth 100000 in
theorem sg_139_0 {L : Nat} {xs : Nat → Int32} {vz : Value} {d : Nat} {μ : iv_M} {P : iv_P} {p : Int} (hL : L ≤ 3072) (hd : 6 ≤ d)
    (h0 : iv_G L xs vz d 139 6 [some (17, p)] [(17, p), (0, (iv_ln L xs (p + 16)))] μ P)
    : iv_G L xs vz d 139 0 [some (17, p)] [] μ P :=
  iv_ok hL (ρ := [p]) (n := 3) (stops := [6]) (lv := [some (17, (.tag 0 .nil))]) (st := []) (I := []) (ls := sg_139_0_l) (by decide +kernel) hd (fun e he => by cases he) ⟨h0, trivial⟩
def sg_139_9_l : List iv_L := [([], [], 2, 139, 10, [], [(0, (.tag 8 (.append (.tag 2 .nil) (.tag 1 .nil))))])]
set_option maxRecDepth 100000 in
theorem sg_139_9 {L : Nat} {xs : Nat → Int32} {vz : Value} {d : Nat} {μ : iv_M} {P : iv_P} {l0 r s1 : Int} (hL : L ≤ 3072) (hd : 6 ≤ d)
    (h0 : P (some (0, (iv_shr s1 r))) μ)
    : iv_G L xs vz d 139 9 [some (17, l0)] [(0, r), (0, s1)] μ P :=
  iv_ok hL (ρ := [l0, r, s1]) (n := 1) (stops := [6]) (lv := [some (17, (.tag 0 .nil))]) (st := [(0, (.tag 1 .nil)), (0, (.tag 2 .nil))]) (I := []) (ls := sg_139_9_l) (by decide +kernel) hd (fun e he => by cases he) ⟨h0, trivial⟩
def sg_140_0_l : List iv_L := [([], [], 2, 140, 14, [], [(0, (.nest 0 .nil))])]
set_option maxRecDepth 100000 in
theorem sg_140_0 {L : Nat} {xs : Nat → Int32} {vz : Value} {d : Nat} {μ : iv_M} {P : iv_P} {p : Int} (hL : L ≤ 3072) (hd : 6 ≤ d)
    (h0 : P (some (0, 0)) μ)
    : iv_G L xs vz d 140 0 [some (17, p)] [] μ P :=
  iv_ok hL (ρ := [p]) (n := 3) (stops := []) (lv := [some (17, (.tag 0 .nil))]) (st := []) (I := []) (ls := sg_140_0_l) (by decide +kernel) hd (fun e he => by cases he) ⟨h0, trivial⟩
def sg_142_0_l : List iv_L := [([], [], 2, 142, 18, [], [(0, (.nest 1 .nil))])]
set_option maxRecDepth 100000 in
theorem sg_142_0 {L : Nat} {xs : Nat → Int32} {vz : Value} {d : Nat} {μ : iv_M} {P : iv_P} {p : Int} (hL : L ≤ 3072) (hd : 6 ≤ d)
    (h0 : P (some (0, 1)) μ)
    : iv_G L xs vz d 142 0 [some (17, p)] [] μ P :=
  iv_ok hL (ρ := [p]) (n := 3) (stops := []) (lv := [some (17, (.tag 0 .nil))]) (st := []) (I := []) (ls := sg_142_0_l) (by decide +kernel) hd (fun e he => by cases he) ⟨h0, trivial⟩
def sg_141_0_l : List iv_L := [([], [], 1, 141, 1, [some (17, (.tag 0 .nil)), some (0, (.tag 1 .nil))], [(17, (.tag 0 .nil))])]
set_option maxRecDepth 100000 in
theorem sg_141_0 {L : Nat} {xs : Nat → Int32} {vz : Value} {d : Nat} {μ : iv_M} {P : iv_P} {p x0 : Int} (hL : L ≤ 3072) (hd : 6 ≤ d)
    (h0 : iv_G L xs vz d 141 1 [some (17, p), some (0, x0)] [(17, p)] μ P)
    : iv_G L xs vz d 141 0 [some (17, p), some (0, x0)] [] μ P :=
  iv_ok hL (ρ := [p, x0]) (n := 1) (stops := [1, 12, 21]) (lv := [some (17, (.tag 0 .nil)), some (0, (.tag 1 .nil))]) (st := []) (I := []) (ls := sg_141_0_l) (by decide +kernel) hd (fun e he => by cases he) ⟨h0, trivial⟩
def sg_141_4_l : List iv_L := [([(4, (.tag 2 .nil), (.nest 0 .nil))], [], 1, 141, 21, [some (17, (.tag 0 .nil)), some (0, (.tag 1 .nil))], [(0, (.tag 1 .nil)), (19, (.tag 41 (.append (.tag 0 .nil) (.nest 16 .nil))))]), ([(5, (.tag 2 .nil), (.nest 0 .nil))], [], 1, 141, 12, [some (17, (.tag 0 .nil)), some (0, (.tag 1 .nil))], [(0, (.tag 1 .nil)), (19, (.tag 41 (.append (.tag 0 .nil) (.nest 16 .nil))))])]
set_option maxRecDepth 100000 in
theorem sg_141_4 {L : Nat} {xs : Nat → Int32} {vz : Value} {d : Nat} {μ : iv_M} {P : iv_P} {l0 l1 r : Int} (hL : L ≤ 3072) (hd : 6 ≤ d)
    (h0 : r = 0 → iv_G L xs vz d 141 21 [some (17, l0), some (0, l1)] [(0, l1), (19, (l0 + 16))] μ P)
    (h1 : r ≠ 0 → iv_G L xs vz d 141 12 [some (17, l0), some (0, l1)] [(0, l1), (19, (l0 + 16))] μ P)
    : iv_G L xs vz d 141 4 [some (17, l0), some (0, l1)] [(0, r)] μ P :=
  iv_ok hL (ρ := [l0, l1, r]) (n := 3) (stops := [1, 12, 21]) (lv := [some (17, (.tag 0 .nil)), some (0, (.tag 1 .nil))]) (st := [(0, (.tag 2 .nil))]) (I := []) (ls := sg_141_4_l) (by decide +kernel) hd (fun e he => by cases he) ⟨h0, h1, trivial⟩
def sg_141_15_l : List iv_L := [([(6, (.tag 2 .nil), (.nest 65536 .nil))], [], 2, 141, 15, [], [(0, (.tag 2 .nil))]), ([(7, (.tag 2 .nil), (.nest 65536 .nil))], [], 0, 0, 0, [], [])]
set_option maxRecDepth 100000 in
theorem sg_141_15 {L : Nat} {xs : Nat → Int32} {vz : Value} {d : Nat} {μ : iv_M} {P : iv_P} {l0 l1 r : Int} (hL : L ≤ 3072) (hd : 6 ≤ d)
    (h0 : (0 ≤ r ∧ r < 65536) → P (some (0, r)) μ)
    (h1 : ¬ (0 ≤ r ∧ r < 65536) → False)
    : iv_G L xs vz d 141 15 [some (17, l0), some (0, l1)] [(0, r)] μ P :=
  iv_ok hL (ρ := [l0, l1, r]) (n := 1) (stops := [1, 12, 21]) (lv := [some (17, (.tag 0 .nil)), some (0, (.tag 1 .nil))]) (st := [(0, (.tag 2 .nil))]) (I := []) (ls := sg_141_15_l) (by decide +kernel) hd (fun e he => by cases he) ⟨h0, h1, trivial⟩
def sg_141_24_l : List iv_L := [([(6, (.tag 2 .nil), (.nest 65536 .nil))], [], 2, 141, 24, [], [(0, (.tag 2 .nil))]), ([(7, (.tag 2 .nil), (.nest 65536 .nil))], [], 0, 0, 0, [], [])]
set_option maxRecDepth 100000 in
theorem sg_141_24 {L : Nat} {xs : Nat → Int32} {vz : Value} {d : Nat} {μ : iv_M} {P : iv_P} {l0 l1 r : Int} (hL : L ≤ 3072) (hd : 6 ≤ d)
    (h0 : (0 ≤ r ∧ r < 65536) → P (some (0, r)) μ)
    (h1 : ¬ (0 ≤ r ∧ r < 65536) → False)
    : iv_G L xs vz d 141 24 [some (17, l0), some (0, l1)] [(0, r)] μ P :=
  iv_ok hL (ρ := [l0, l1, r]) (n := 1) (stops := [1, 12, 21]) (lv := [some (17, (.tag 0 .nil)), some (0, (.tag 1 .nil))]) (st := [(0, (.tag 2 .nil))]) (I := []) (ls := sg_141_24_l) (by decide +kernel) hd (fun e he => by cases he) ⟨h0, h1, trivial⟩
def sg_138_0_l : List iv_L := [([], [], 1, 138, 10, [some (10, (.nest 182 .nil)), some (17, (.tag 0 .nil)), none], [(17, (.tag 0 .nil)), (0, (.tag 2 (.append (.nest 0 (.append (.nest 182 .nil) (.nest 3 .nil))) (.nest 0 (.append (.nest 182 .nil) (.nest 5 .nil))))))])]
set_option maxRecDepth 100000 in
theorem sg_138_0 {L : Nat} {xs : Nat → Int32} {vz : Value} {d : Nat} {μ : iv_M} {P : iv_P} {q0 : Int} (hL : L ≤ 3072) (hd : 6 ≤ d)
    (h0 : iv_G L xs vz d 138 10 [some (10, 182), some (17, q0), none] [(17, q0), (0, (iv_w ((μ 182 3) - (μ 182 5))))] μ P)
    : iv_G L xs vz d 138 0 [some (10, 182), some (17, q0)] [] μ P :=
  iv_ok hL (ρ := [q0]) (n := 3) (stops := [10, 20, 22, 40]) (lv := [some (10, (.nest 182 .nil)), some (17, (.tag 0 .nil))]) (st := []) (I := []) (ls := sg_138_0_l) (by decide +kernel) hd (fun e he => by cases he) ⟨h0, trivial⟩
def sg_138_13_l : List iv_L := [([(4, (.tag 2 .nil), (.tag 1 .nil))], [], 1, 138, 20, [some (10, (.nest 182 .nil)), some (17, (.tag 0 .nil)), some (0, (.nest 0 .nil))], []), ([(5, (.tag 2 .nil), (.tag 1 .nil))], [], 2, 138, 17, [], [(0, (.nest 0 .nil))])]
set_option maxRecDepth 100000 in
theorem sg_138_13 {L : Nat} {xs : Nat → Int32} {vz : Value} {d : Nat} {μ : iv_M} {P : iv_P} {l1 r s1 : Int} (hL : L ≤ 3072) (hd : 6 ≤ d)
    (h0 : s1 = r → iv_G L xs vz d 138 20 [some (10, 182), some (17, l1), some (0, 0)] [] μ P)
    (h1 : s1 ≠ r → P (some (0, 0)) μ)
    : iv_G L xs vz d 138 13 [some (10, 182), some (17, l1), none] [(0, r), (0, s1)] μ P :=
  iv_ok hL (ρ := [l1, r, s1]) (n := 2) (stops := [10, 20, 22, 40]) (lv := [some (10, (.nest 182 .nil)), some (17, (.tag 0 .nil)), none]) (st := [(0, (.tag 1 .nil)), (0, (.tag 2 .nil))]) (I := []) (ls := sg_138_13_l) (by decide +kernel) hd (fun e he => by cases he) ⟨h0, h1, trivial⟩
def sg_138_20_l : List iv_L := [([(3, (.tag 1 .nil), (.nest 0 .nil))], [], 1, 138, 22, [some (10, (.nest 182 .nil)), some (17, (.tag 0 .nil)), some (0, (.tag 1 .nil))], [(17, (.tag 0 .nil)), (0, (.tag 1 .nil))])]
set_option maxRecDepth 100000 in
theorem sg_138_20 {L : Nat} {xs : Nat → Int32} {vz : Value} {d : Nat} {μ : iv_M} {P : iv_P} {l1 l2 : Int} (hL : L ≤ 3072) (hd : 6 ≤ d) (f0 : l2 ≥ 0)
    (h0 : iv_G L xs vz d 138 22 [some (10, 182), some (17, l1), some (0, l2)] [(17, l1), (0, l2)] μ P)
    : iv_G L xs vz d 138 20 [some (10, 182), some (17, l1), some (0, l2)] [] μ P :=
  iv_ok hL (ρ := [l1, l2]) (n := 2) (stops := [10, 20, 22, 40]) (lv := [some (10, (.nest 182 .nil)), some (17, (.tag 0 .nil)), some (0, (.tag 1 .nil))]) (st := []) (I := [(3, (.tag 1 .nil), (.nest 0 .nil))]) (ls := sg_138_20_l) (by decide +kernel) hd (fun e he => by rcases List.mem_cons.mp he with rfl | he; exact f0; cases he) ⟨(fun _ => h0), trivial⟩
def sg_138_25_l : List iv_L := [([(3, (.tag 3 .nil), (.tag 2 .nil)), (3, (.nest 0 (.append (.nest 182 .nil) (.nest 1 .nil))), (.nest 0 .nil)), (1, (.nest 0 (.append (.nest 182 .nil) (.nest 1 .nil))), (.nest 160 .nil))], [], 2, 138, 55, [], [(0, (.nest 1 .nil))]), ([(0, (.tag 1 (.append (.nest 0 (.append (.nest 182 .nil) (.nest 5 .nil))) (.tag 1 .nil))), (.nest 0 .nil)), (0, (.tag 3 .nil), (.tag 2 .nil)), (3, (.nest 0 (.append (.nest 182 .nil) (.nest 1 .nil))), (.nest 0 .nil)), (1, (.nest 0 (.append (.nest 182 .nil) (.nest 1 .nil))), (.nest 160 .nil))], [], 1, 138, 40, [some (10, (.nest 182 .nil)), some (17, (.tag 0 .nil)), some (0, (.tag 1 .nil))], [(0, (.tag 1 .nil)), (17, (.tag 0 .nil)), (0, (.nest 0 .nil))]), ([(3, (.tag 1 (.append (.nest 0 (.append (.nest 182 .nil) (.nest 5 .nil))) (.tag 1 .nil))), (.nest 0 (.append (.nest 182 .nil) (.nest 1 .nil)))), (3, (.tag 1 (.append (.nest 0 (.append (.nest 182 .nil) (.nest 5 .nil))) (.tag 1 .nil))), (.nest 0 .nil)), (0, (.tag 3 .nil), (.tag 2 .nil)), (3, (.nest 0 (.append (.nest 182 .nil) (.nest 1 .nil))), (.nest 0 .nil)), (1, (.nest 0 (.append (.nest 182 .nil) (.nest 1 .nil))), (.nest 160 .nil))], [], 1, 138, 40, [some (10, (.nest 182 .nil)), some (17, (.tag 0 .nil)), some (0, (.tag 1 .nil))], [(0, (.tag 1 .nil)), (17, (.tag 0 .nil)), (0, (.nest 0 .nil))]), ([(0, (.tag 1 (.append (.nest 0 (.append (.nest 182 .nil) (.nest 5 .nil))) (.tag 1 .nil))), (.nest 0 (.append (.nest 182 .nil) (.nest 1 .nil)))), (3, (.tag 1 (.append (.nest 0 (.append (.nest 182 .nil) (.nest 5 .nil))) (.tag 1 .nil))), (.nest 0 .nil)), (0, (.tag 3 .nil), (.tag 2 .nil)), (3, (.nest 0 (.append (.nest 182 .nil) (.nest 1 .nil))), (.nest 0 .nil)), (1, (.nest 0 (.append (.nest 182 .nil) (.nest 1 .nil))), (.nest 160 .nil))], [], 1, 138, 40, [some (10, (.nest 182 .nil)), some (17, (.tag 0 .nil)), some (0, (.tag 1 .nil))], [(0, (.tag 1 .nil)), (17, (.tag 0 .nil)), (0, (.nest 0 (.append (.nest 183 .nil) (.tag 1 (.append (.nest 0 (.append (.nest 182 .nil) (.nest 5 .nil))) (.tag 1 .nil))))))])]
set_option maxRecDepth 100000 in
theorem sg_138_25 {L : Nat} {xs : Nat → Int32} {vz : Value} {d : Nat} {μ : iv_M} {P : iv_P} {l1 l2 r s1 : Int} (hL : L ≤ 3072) (hd : 6 ≤ d) (f0 : (μ 182 1) ≥ 0) (f1 : (μ 182 1) ≤ 160)
    (h0 : s1 ≥ r → P (some (0, 1)) μ)
    (h1 : s1 < r → (iv_w ((μ 182 5) + l2)) < 0 → iv_G L xs vz d 138 40 [some (10, 182), some (17, l1), some (0, l2)] [(0, l2), (17, l1), (0, 0)] μ P)
    (h2 : s1 < r → (iv_w ((μ 182 5) + l2)) ≥ 0 → (iv_w ((μ 182 5) + l2)) ≥ (μ 182 1) → iv_G L xs vz d 138 40 [some (10, 182), some (17, l1), some (0, l2)] [(0, l2), (17, l1), (0, 0)] μ P)
    (h3 : s1 < r → (iv_w ((μ 182 5) + l2)) ≥ 0 → (iv_w ((μ 182 5) + l2)) < (μ 182 1) → iv_G L xs vz d 138 40 [some (10, 182), some (17, l1), some (0, l2)] [(0, l2), (17, l1), (0, (μ 183 (iv_w ((μ 182 5) + l2))))] μ P)
    : iv_G L xs vz d 138 25 [some (10, 182), some (17, l1), some (0, l2)] [(0, r), (0, s1)] μ P :=
  iv_ok hL (ρ := [l1, l2, r, s1]) (n := 5) (stops := [10, 20, 22, 40]) (lv := [some (10, (.nest 182 .nil)), some (17, (.tag 0 .nil)), some (0, (.tag 1 .nil))]) (st := [(0, (.tag 2 .nil)), (0, (.tag 3 .nil))]) (I := [(3, (.nest 0 (.append (.nest 182 .nil) (.nest 1 .nil))), (.nest 0 .nil)), (1, (.nest 0 (.append (.nest 182 .nil) (.nest 1 .nil))), (.nest 160 .nil))]) (ls := sg_138_25_l) (by decide +kernel) hd (fun e he => by rcases List.mem_cons.mp he with rfl | he; exact f0; rcases List.mem_cons.mp he with rfl | he; exact f1; cases he) ⟨(fun _ _ => h0), (fun _ _ => h1), (fun _ _ => h2), (fun _ _ => h3), trivial⟩
def sg_138_43_l : List iv_L := [([(4, (.tag 3 .nil), (.tag 2 .nil))], [], 1, 138, 20, [some (10, (.nest 182 .nil)), some (17, (.tag 0 .nil)), some (0, (.tag 1 (.append (.tag 1 .nil) (.nest 1 .nil))))], []), ([(5, (.tag 3 .nil), (.tag 2 .nil))], [], 2, 138, 47, [], [(0, (.nest 0 .nil))])]
set_option maxRecDepth 100000 in
theorem sg_138_43 {L : Nat} {xs : Nat → Int32} {vz : Value} {d : Nat} {μ : iv_M} {P : iv_P} {l1 l2 r s1 : Int} (hL : L ≤ 3072) (hd : 6 ≤ d)
    (h0 : s1 = r → iv_G L xs vz d 138 20 [some (10, 182), some (17, l1), some (0, (iv_w (l2 + 1)))] [] μ P)
    (h1 : s1 ≠ r → P (some (0, 0)) μ)
    : iv_G L xs vz d 138 43 [some (10, 182), some (17, l1), some (0, l2)] [(0, r), (0, s1)] μ P :=
  iv_ok hL (ρ := [l1, l2, r, s1]) (n := 2) (stops := [10, 20, 22, 40]) (lv := [some (10, (.nest 182 .nil)), some (17, (.tag 0 .nil)), some (0, (.tag 1 .nil))]) (st := [(0, (.tag 2 .nil)), (0, (.tag 3 .nil))]) (I := []) (ls := sg_138_43_l) (by decide +kernel) hd (fun e he => by cases he) ⟨h0, h1, trivial⟩
def sg_136_0_l : List iv_L := [([(3, (.nest 0 (.append (.nest 182 .nil) (.nest 3 .nil))), (.nest 0 (.append (.nest 182 .nil) (.nest 1 .nil)))), (3, (.nest 0 (.append (.nest 182 .nil) (.nest 1 .nil))), (.nest 0 .nil)), (1, (.nest 0 (.append (.nest 182 .nil) (.nest 1 .nil))), (.nest 160 .nil))], [[(.nest 182 .nil), (.nest 4 .nil), (.nest 24 .nil)]], 1, 136, 46, [some (10, (.nest 182 .nil)), some (0, (.nest 0 .nil))], []), ([(0, (.nest 0 (.append (.nest 182 .nil) (.nest 3 .nil))), (.nest 0 (.append (.nest 182 .nil) (.nest 1 .nil)))), (3, (.nest 0 (.append (.nest 182 .nil) (.nest 1 .nil))), (.nest 0 .nil)), (1, (.nest 0 (.append (.nest 182 .nil) (.nest 1 .nil))), (.nest 160 .nil))], [], 1, 136, 16, [some (10, (.nest 182 .nil)), none], [(0, (.nest 0 (.append (.nest 182 .nil) (.nest 3 .nil)))), (10, (.nest 182 .nil))])]
set_option maxRecDepth 100000 in
theorem sg_136_0 {L : Nat} {xs : Nat → Int32} {vz : Value} {d : Nat} {μ : iv_M} {P : iv_P} (hL : L ≤ 3072) (hd : 6 ≤ d) (f0 : (μ 182 1) ≥ 0) (f1 : (μ 182 1) ≤ 160)
    (h0 : (μ 182 3) ≥ (μ 182 1) → iv_G L xs vz d 136 46 [some (10, 182), some (0, 0)] [] (iv_upd μ 182 4 24) P)
    (h1 : (μ 182 3) < (μ 182 1) → iv_G L xs vz d 136 16 [some (10, 182), none] [(0, (μ 182 3)), (10, 182)] μ P)
    : iv_G L xs vz d 136 0 [some (10, 182)] [] μ P :=
  iv_ok hL (ρ := []) (n := 4) (stops := [0, 16, 19, 46, 57]) (lv := [some (10, (.nest 182 .nil))]) (st := []) (I := [(3, (.nest 0 (.append (.nest 182 .nil) (.nest 1 .nil))), (.nest 0 .nil)), (1, (.nest 0 (.append (.nest 182 .nil) (.nest 1 .nil))), (.nest 160 .nil))]) (ls := sg_136_0_l) (by decide +kernel) hd (fun e he => by rcases List.mem_cons.mp he with rfl | he; exact f0; rcases List.mem_cons.mp he with rfl | he; exact f1; cases he) ⟨(fun _ _ => h0), (fun _ _ => h1), trivial⟩
def sg_136_22_l : List iv_L := [([(4, (.tag 0 .nil), (.nest 0 .nil))], [[(.nest 182 .nil), (.nest 4 .nil), (.nest 24 .nil)]], 1, 136, 46, [some (10, (.nest 182 .nil)), some (0, (.nest 0 .nil))], []), ([(5, (.tag 0 .nil), (.nest 0 .nil))], [[(.nest 182 .nil), (.nest 3 .nil), (.tag 1 (.append (.nest 0 (.append (.nest 182 .nil) (.nest 3 .nil))) (.nest 1 .nil)))]], 1, 136, 0, [some (10, (.nest 182 .nil)), none], [])]
set_option maxRecDepth 100000 in
theorem sg_136_22 {L : Nat} {xs : Nat → Int32} {vz : Value} {d : Nat} {μ : iv_M} {P : iv_P} {r : Int} (hL : L ≤ 3072) (hd : 6 ≤ d)
    (h0 : r = 0 → iv_G L xs vz d 136 46 [some (10, 182), some (0, 0)] [] (iv_upd μ 182 4 24) P)
    (h1 : r ≠ 0 → iv_G L xs vz d 136 0 [some (10, 182), none] [] (iv_upd μ 182 3 (iv_w ((μ 182 3) + 1))) P)
    : iv_G L xs vz d 136 22 [some (10, 182), none] [(0, r)] μ P :=
  iv_ok hL (ρ := [r]) (n := 4) (stops := [0, 16, 19, 46, 57]) (lv := [some (10, (.nest 182 .nil)), none]) (st := [(0, (.tag 0 .nil))]) (I := []) (ls := sg_136_22_l) (by decide +kernel) hd (fun e he => by cases he) ⟨h0, h1, trivial⟩
def sg_136_46_l : List iv_L := [([(3, (.tag 0 .nil), (.nest 15 .nil)), (3, (.tag 0 .nil), (.nest 0 .nil))], [], 2, 136, 74, [], []), ([(4, (.tag 0 .nil), (.nest 0 .nil)), (0, (.tag 0 .nil), (.nest 15 .nil)), (3, (.tag 0 .nil), (.nest 0 .nil))], [], 1, 136, 57, [some (10, (.nest 182 .nil)), some (0, (.tag 0 .nil))], [(17, (.nest 5 .nil)), (10, (.nest 182 .nil))]), ([(4, (.tag 0 .nil), (.nest 1 .nil)), (0, (.tag 0 .nil), (.nest 15 .nil)), (3, (.tag 0 .nil), (.nest 0 .nil))], [], 1, 136, 57, [some (10, (.nest 182 .nil)), some (0, (.tag 0 .nil))], [(17, (.nest 6 .nil)), (10, (.nest 182 .nil))]), ([(4, (.tag 0 .nil), (.nest 2 .nil)), (0, (.tag 0 .nil), (.nest 15 .nil)), (3, (.tag 0 .nil), (.nest 0 .nil))], [], 1, 136, 57, [some (10, (.nest 182 .nil)), some (0, (.tag 0 .nil))], [(17, (.nest 7 .nil)), (10, (.nest 182 .nil))]), ([(4, (.tag 0 .nil), (.nest 3 .nil)), (0, (.tag 0 .nil), (.nest 15 .nil)), (3, (.tag 0 .nil), (.nest 0 .nil))], [], 1, 136, 57, [some (10, (.nest 182 .nil)), some (0, (.tag 0 .nil))], [(17, (.nest 8 .nil)), (10, (.nest 182 .nil))]), ([(4, (.tag 0 .nil), (.nest 4 .nil)), (0, (.tag 0 .nil), (.nest 15 .nil)), (3, (.tag 0 .nil), (.nest 0 .nil))], [], 1, 136, 57, [some (10, (.nest 182 .nil)), some (0, (.tag 0 .nil))], [(17, (.nest 9 .nil)), (10, (.nest 182 .nil))]), ([(4, (.tag 0 .nil), (.nest 5 .nil)), (0, (.tag 0 .nil), (.nest 15 .nil)), (3, (.tag 0 .nil), (.nest 0 .nil))], [], 1, 136, 57, [some (10, (.nest 182 .nil)), some (0, (.tag 0 .nil))], [(17, (.nest 10 .nil)), (10, (.nest 182 .nil))]), ([(4, (.tag 0 .nil), (.nest 6 .nil)), (0, (.tag 0 .nil), (.nest 15 .nil)), (3, (.tag 0 .nil), (.nest 0 .nil))], [], 1, 136, 57, [some (10, (.nest 182 .nil)), some (0, (.tag 0 .nil))], [(17, (.nest 11 .nil)), (10, (.nest 182 .nil))]), ([(4, (.tag 0 .nil), (.nest 7 .nil)), (0, (.tag 0 .nil), (.nest 15 .nil)), (3, (.tag 0 .nil), (.nest 0 .nil))], [], 1, 136, 57, [some (10, (.nest 182 .nil)), some (0, (.tag 0 .nil))], [(17, (.nest 12 .nil)), (10, (.nest 182 .nil))]), ([(4, (.tag 0 .nil), (.nest 8 .nil)), (0, (.tag 0 .nil), (.nest 15 .nil)), (3, (.tag 0 .nil), (.nest 0 .nil))], [], 1, 136, 57, [some (10, (.nest 182 .nil)), some (0, (.tag 0 .nil))], [(17, (.nest 13 .nil)), (10, (.nest 182 .nil))]), ([(4, (.tag 0 .nil), (.nest 9 .nil)), (0, (.tag 0 .nil), (.nest 15 .nil)), (3, (.tag 0 .nil), (.nest 0 .nil))], [], 1, 136, 57, [some (10, (.nest 182 .nil)), some (0, (.tag 0 .nil))], [(17, (.nest 14 .nil)), (10, (.nest 182 .nil))]), ([(4, (.tag 0 .nil), (.nest 10 .nil)), (0, (.tag 0 .nil), (.nest 15 .nil)), (3, (.tag 0 .nil), (.nest 0 .nil))], [], 1, 136, 57, [some (10, (.nest 182 .nil)), some (0, (.tag 0 .nil))], [(17, (.nest 15 .nil)), (10, (.nest 182 .nil))]), ([(4, (.tag 0 .nil), (.nest 11 .nil)), (0, (.tag 0 .nil), (.nest 15 .nil)), (3, (.tag 0 .nil), (.nest 0 .nil))], [], 1, 136, 57, [some (10, (.nest 182 .nil)), some (0, (.tag 0 .nil))], [(17, (.nest 16 .nil)), (10, (.nest 182 .nil))]), ([(4, (.tag 0 .nil), (.nest 12 .nil)), (0, (.tag 0 .nil), (.nest 15 .nil)), (3, (.tag 0 .nil), (.nest 0 .nil))], [], 1, 136, 57, [some (10, (.nest 182 .nil)), some (0, (.tag 0 .nil))], [(17, (.nest 17 .nil)), (10, (.nest 182 .nil))]), ([(4, (.tag 0 .nil), (.nest 13 .nil)), (0, (.tag 0 .nil), (.nest 15 .nil)), (3, (.tag 0 .nil), (.nest 0 .nil))], [], 1, 136, 57, [some (10, (.nest 182 .nil)), some (0, (.tag 0 .nil))], [(17, (.nest 18 .nil)), (10, (.nest 182 .nil))]), ([(4, (.tag 0 .nil), (.nest 14 .nil)), (0, (.tag 0 .nil), (.nest 15 .nil)), (3, (.tag 0 .nil), (.nest 0 .nil))], [], 1, 136, 57, [some (10, (.nest 182 .nil)), some (0, (.tag 0 .nil))], [(17, (.nest 19 .nil)), (10, (.nest 182 .nil))]), ([(5, (.tag 0 .nil), (.nest 14 .nil)), (5, (.tag 0 .nil), (.nest 13 .nil)), (5, (.tag 0 .nil), (.nest 12 .nil)), (5, (.tag 0 .nil), (.nest 11 .nil)), (5, (.tag 0 .nil), (.nest 10 .nil)), (5, (.tag 0 .nil), (.nest 9 .nil)), (5, (.tag 0 .nil), (.nest 8 .nil)), (5, (.tag 0 .nil), (.nest 7 .nil)), (5, (.tag 0 .nil), (.nest 6 .nil)), (5, (.tag 0 .nil), (.nest 5 .nil)), (5, (.tag 0 .nil), (.nest 4 .nil)), (5, (.tag 0 .nil), (.nest 3 .nil)), (5, (.tag 0 .nil), (.nest 2 .nil)), (5, (.tag 0 .nil), (.nest 1 .nil)), (5, (.tag 0 .nil), (.nest 0 .nil)), (0, (.tag 0 .nil), (.nest 15 .nil)), (3, (.tag 0 .nil), (.nest 0 .nil))], [], 1, 136, 57, [some (10, (.nest 182 .nil)), some (0, (.tag 0 .nil))], [(17, (.nest 20 .nil)), (10, (.nest 182 .nil))])]
set_option maxRecDepth 100000 in
theorem sg_136_46 {L : Nat} {xs : Nat → Int32} {vz : Value} {d : Nat} {μ : iv_M} {P : iv_P} {l1 : Int} (hL : L ≤ 3072) (hd : 6 ≤ d) (f0 : l1 ≥ 0)
    (h0 : l1 ≥ 15 → P none μ)
    (h1 : l1 < 15 → l1 = 0 → iv_G L xs vz d 136 57 [some (10, 182), some (0, l1)] [(17, 5), (10, 182)] μ P)
    (h2 : l1 < 15 → l1 = 1 → iv_G L xs vz d 136 57 [some (10, 182), some (0, l1)] [(17, 6), (10, 182)] μ P)
    (h3 : l1 < 15 → l1 = 2 → iv_G L xs vz d 136 57 [some (10, 182), some (0, l1)] [(17, 7), (10, 182)] μ P)
    (h4 : l1 < 15 → l1 = 3 → iv_G L xs vz d 136 57 [some (10, 182), some (0, l1)] [(17, 8), (10, 182)] μ P)
    (h5 : l1 < 15 → l1 = 4 → iv_G L xs vz d 136 57 [some (10, 182), some (0, l1)] [(17, 9), (10, 182)] μ P)
    (h6 : l1 < 15 → l1 = 5 → iv_G L xs vz d 136 57 [some (10, 182), some (0, l1)] [(17, 10), (10, 182)] μ P)
    (h7 : l1 < 15 → l1 = 6 → iv_G L xs vz d 136 57 [some (10, 182), some (0, l1)] [(17, 11), (10, 182)] μ P)
    (h8 : l1 < 15 → l1 = 7 → iv_G L xs vz d 136 57 [some (10, 182), some (0, l1)] [(17, 12), (10, 182)] μ P)
    (h9 : l1 < 15 → l1 = 8 → iv_G L xs vz d 136 57 [some (10, 182), some (0, l1)] [(17, 13), (10, 182)] μ P)
    (h10 : l1 < 15 → l1 = 9 → iv_G L xs vz d 136 57 [some (10, 182), some (0, l1)] [(17, 14), (10, 182)] μ P)
    (h11 : l1 < 15 → l1 = 10 → iv_G L xs vz d 136 57 [some (10, 182), some (0, l1)] [(17, 15), (10, 182)] μ P)
    (h12 : l1 < 15 → l1 = 11 → iv_G L xs vz d 136 57 [some (10, 182), some (0, l1)] [(17, 16), (10, 182)] μ P)
    (h13 : l1 < 15 → l1 = 12 → iv_G L xs vz d 136 57 [some (10, 182), some (0, l1)] [(17, 17), (10, 182)] μ P)
    (h14 : l1 < 15 → l1 = 13 → iv_G L xs vz d 136 57 [some (10, 182), some (0, l1)] [(17, 18), (10, 182)] μ P)
    (h15 : l1 < 15 → l1 = 14 → iv_G L xs vz d 136 57 [some (10, 182), some (0, l1)] [(17, 19), (10, 182)] μ P)
    (h16 : l1 < 15 → l1 ≠ 0 → l1 ≠ 1 → l1 ≠ 2 → l1 ≠ 3 → l1 ≠ 4 → l1 ≠ 5 → l1 ≠ 6 → l1 ≠ 7 → l1 ≠ 8 → l1 ≠ 9 → l1 ≠ 10 → l1 ≠ 11 → l1 ≠ 12 → l1 ≠ 13 → l1 ≠ 14 → iv_G L xs vz d 136 57 [some (10, 182), some (0, l1)] [(17, 20), (10, 182)] μ P)
    : iv_G L xs vz d 136 46 [some (10, 182), some (0, l1)] [] μ P :=
  iv_ok hL (ρ := [l1]) (n := 4) (stops := [0, 16, 19, 46, 57]) (lv := [some (10, (.nest 182 .nil)), some (0, (.tag 0 .nil))]) (st := []) (I := [(3, (.tag 0 .nil), (.nest 0 .nil))]) (ls := sg_136_46_l) (by decide +kernel) hd (fun e he => by rcases List.mem_cons.mp he with rfl | he; exact f0; cases he) ⟨(fun _ => h0), (fun _ => h1), (fun _ => h2), (fun _ => h3), (fun _ => h4), (fun _ => h5), (fun _ => h6), (fun _ => h7), (fun _ => h8), (fun _ => h9), (fun _ => h10), (fun _ => h11), (fun _ => h12), (fun _ => h13), (fun _ => h14), (fun _ => h15), (fun _ => h16), trivial⟩
def sg_136_60_l : List iv_L := [([(4, (.tag 1 .nil), (.nest 0 .nil))], [], 1, 136, 46, [some (10, (.nest 182 .nil)), some (0, (.tag 1 (.append (.tag 0 .nil) (.nest 1 .nil))))], []), ([(5, (.tag 1 .nil), (.nest 0 .nil))], [[(.nest 182 .nil), (.nest 4 .nil), (.tag 0 .nil)]], 1, 136, 46, [some (10, (.nest 182 .nil)), some (0, (.tag 1 (.append (.tag 0 .nil) (.nest 1 .nil))))], [])]
set_option maxRecDepth 100000 in
theorem sg_136_60 {L : Nat} {xs : Nat → Int32} {vz : Value} {d : Nat} {μ : iv_M} {P : iv_P} {l1 r : Int} (hL : L ≤ 3072) (hd : 6 ≤ d)
    (h0 : r = 0 → iv_G L xs vz d 136 46 [some (10, 182), some (0, (iv_w (l1 + 1)))] [] μ P)
    (h1 : r ≠ 0 → iv_G L xs vz d 136 46 [some (10, 182), some (0, (iv_w (l1 + 1)))] [] (iv_upd μ 182 4 l1) P)
    : iv_G L xs vz d 136 60 [some (10, 182), some (0, l1)] [(0, r)] μ P :=
  iv_ok hL (ρ := [l1, r]) (n := 3) (stops := [0, 16, 19, 46, 57]) (lv := [some (10, (.nest 182 .nil)), some (0, (.tag 0 .nil))]) (st := [(0, (.tag 1 .nil))]) (I := []) (ls := sg_136_60_l) (by decide +kernel) hd (fun e he => by cases he) ⟨h0, h1, trivial⟩
def sg_137_0_l : List iv_L := [([(4, (.tag 0 .nil), (.nest 0 .nil))], [], 2, 137, 78, [], [(17, (.nest 5 .nil))]), ([(4, (.tag 0 .nil), (.nest 1 .nil))], [], 2, 137, 81, [], [(17, (.nest 6 .nil))]), ([(4, (.tag 0 .nil), (.nest 2 .nil))], [], 2, 137, 84, [], [(17, (.nest 7 .nil))]), ([(4, (.tag 0 .nil), (.nest 3 .nil))], [], 2, 137, 87, [], [(17, (.nest 8 .nil))]), ([(4, (.tag 0 .nil), (.nest 4 .nil))], [], 2, 137, 90, [], [(17, (.nest 9 .nil))]), ([(4, (.tag 0 .nil), (.nest 5 .nil))], [], 2, 137, 93, [], [(17, (.nest 10 .nil))]), ([(4, (.tag 0 .nil), (.nest 6 .nil))], [], 2, 137, 96, [], [(17, (.nest 11 .nil))]), ([(4, (.tag 0 .nil), (.nest 7 .nil))], [], 2, 137, 99, [], [(17, (.nest 12 .nil))]), ([(4, (.tag 0 .nil), (.nest 8 .nil))], [], 2, 137, 102, [], [(17, (.nest 13 .nil))]), ([(4, (.tag 0 .nil), (.nest 9 .nil))], [], 2, 137, 105, [], [(17, (.nest 14 .nil))]), ([(4, (.tag 0 .nil), (.nest 10 .nil))], [], 2, 137, 108, [], [(17, (.nest 15 .nil))]), ([(4, (.tag 0 .nil), (.nest 11 .nil))], [], 2, 137, 111, [], [(17, (.nest 16 .nil))]), ([(4, (.tag 0 .nil), (.nest 12 .nil))], [], 2, 137, 114, [], [(17, (.nest 17 .nil))]), ([(4, (.tag 0 .nil), (.nest 13 .nil))], [], 2, 137, 117, [], [(17, (.nest 18 .nil))]), ([(4, (.tag 0 .nil), (.nest 14 .nil))], [], 2, 137, 120, [], [(17, (.nest 19 .nil))]), ([(5, (.tag 0 .nil), (.nest 14 .nil)), (5, (.tag 0 .nil), (.nest 13 .nil)), (5, (.tag 0 .nil), (.nest 12 .nil)), (5, (.tag 0 .nil), (.nest 11 .nil)), (5, (.tag 0 .nil), (.nest 10 .nil)), (5, (.tag 0 .nil), (.nest 9 .nil)), (5, (.tag 0 .nil), (.nest 8 .nil)), (5, (.tag 0 .nil), (.nest 7 .nil)), (5, (.tag 0 .nil), (.nest 6 .nil)), (5, (.tag 0 .nil), (.nest 5 .nil)), (5, (.tag 0 .nil), (.nest 4 .nil)), (5, (.tag 0 .nil), (.nest 3 .nil)), (5, (.tag 0 .nil), (.nest 2 .nil)), (5, (.tag 0 .nil), (.nest 1 .nil)), (5, (.tag 0 .nil), (.nest 0 .nil))], [], 2, 137, 123, [], [(17, (.nest 20 .nil))])]
set_option maxRecDepth 100000 in
theorem sg_137_0 {L : Nat} {xs : Nat → Int32} {vz : Value} {d : Nat} {μ : iv_M} {P : iv_P} {x0 : Int} (hL : L ≤ 3072) (hd : 6 ≤ d)
    (h0 : x0 = 0 → P (some (17, 5)) μ)
    (h1 : x0 = 1 → P (some (17, 6)) μ)
    (h2 : x0 = 2 → P (some (17, 7)) μ)
    (h3 : x0 = 3 → P (some (17, 8)) μ)
    (h4 : x0 = 4 → P (some (17, 9)) μ)
    (h5 : x0 = 5 → P (some (17, 10)) μ)
    (h6 : x0 = 6 → P (some (17, 11)) μ)
    (h7 : x0 = 7 → P (some (17, 12)) μ)
    (h8 : x0 = 8 → P (some (17, 13)) μ)
    (h9 : x0 = 9 → P (some (17, 14)) μ)
    (h10 : x0 = 10 → P (some (17, 15)) μ)
    (h11 : x0 = 11 → P (some (17, 16)) μ)
    (h12 : x0 = 12 → P (some (17, 17)) μ)
    (h13 : x0 = 13 → P (some (17, 18)) μ)
    (h14 : x0 = 14 → P (some (17, 19)) μ)
    (h15 : x0 ≠ 0 → x0 ≠ 1 → x0 ≠ 2 → x0 ≠ 3 → x0 ≠ 4 → x0 ≠ 5 → x0 ≠ 6 → x0 ≠ 7 → x0 ≠ 8 → x0 ≠ 9 → x0 ≠ 10 → x0 ≠ 11 → x0 ≠ 12 → x0 ≠ 13 → x0 ≠ 14 → P (some (17, 20)) μ)
    : iv_G L xs vz d 137 0 [some (0, x0)] [] μ P :=
  iv_ok hL (ρ := [x0]) (n := 2) (stops := []) (lv := [some (0, (.tag 0 .nil))]) (st := []) (I := []) (ls := sg_137_0_l) (by decide +kernel) hd (fun e he => by cases he) ⟨h0, h1, h2, h3, h4, h5, h6, h7, h8, h9, h10, h11, h12, h13, h14, h15, trivial⟩
def sg_151_0_l : List iv_L := [([], [[(.nest 182 .nil), (.nest 6 .nil), (.nest 0 .nil)]], 1, 151, 5, [some (10, (.nest 182 .nil))], [])]
set_option maxRecDepth 100000 in
theorem sg_151_0 {L : Nat} {xs : Nat → Int32} {vz : Value} {d : Nat} {μ : iv_M} {P : iv_P} (hL : L ≤ 3072) (hd : 6 ≤ d)
    (h0 : iv_G L xs vz d 151 5 [some (10, 182)] [] (iv_upd μ 182 6 0) P)
    : iv_G L xs vz d 151 0 [some (10, 182)] [] μ P :=
  iv_ok hL (ρ := []) (n := 2) (stops := [5, 21, 24, 43]) (lv := [some (10, (.nest 182 .nil))]) (st := []) (I := []) (ls := sg_151_0_l) (by decide +kernel) hd (fun e he => by cases he) ⟨h0, trivial⟩
def sg_151_5_l : List iv_L := [([(2, (.tag 2 (.append (.nest 0 (.append (.nest 182 .nil) (.nest 3 .nil))) (.nest 0 (.append (.nest 182 .nil) (.nest 5 .nil))))), (.nest 4 .nil)), (3, (.nest 0 (.append (.nest 182 .nil) (.nest 3 .nil))), (.nest 0 (.append (.nest 182 .nil) (.nest 1 .nil)))), (3, (.nest 0 (.append (.nest 182 .nil) (.nest 1 .nil))), (.nest 0 .nil)), (1, (.nest 0 (.append (.nest 182 .nil) (.nest 1 .nil))), (.nest 160 .nil))], [[(.nest 182 .nil), (.nest 4 .nil), (.nest 24 .nil)]], 2, 151, 90, [], []), ([(1, (.tag 2 (.append (.nest 0 (.append (.nest 182 .nil) (.nest 3 .nil))) (.nest 0 (.append (.nest 182 .nil) (.nest 5 .nil))))), (.nest 4 .nil)), (3, (.nest 0 (.append (.nest 182 .nil) (.nest 3 .nil))), (.nest 0 (.append (.nest 182 .nil) (.nest 1 .nil)))), (3, (.nest 0 (.append (.nest 182 .nil) (.nest 1 .nil))), (.nest 0 .nil)), (1, (.nest 0 (.append (.nest 182 .nil) (.nest 1 .nil))), (.nest 160 .nil))], [[(.nest 182 .nil), (.nest 4 .nil), (.nest 15 .nil)]], 2, 151, 90, [], []), ([(0, (.nest 0 (.append (.nest 182 .nil) (.nest 3 .nil))), (.nest 0 (.append (.nest 182 .nil) (.nest 1 .nil)))), (3, (.nest 0 (.append (.nest 182 .nil) (.nest 1 .nil))), (.nest 0 .nil)), (1, (.nest 0 (.append (.nest 182 .nil) (.nest 1 .nil))), (.nest 160 .nil))], [], 1, 151, 21, [some (10, (.nest 182 .nil))], [(0, (.nest 0 (.append (.nest 182 .nil) (.nest 3 .nil)))), (10, (.nest 182 .nil))])]
set_option maxRecDepth 100000 in
theorem sg_151_5 {L : Nat} {xs : Nat → Int32} {vz : Value} {d : Nat} {μ : iv_M} {P : iv_P} (hL : L ≤ 3072) (hd : 6 ≤ d) (f0 : (μ 182 1) ≥ 0) (f1 : (μ 182 1) ≤ 160)
    (h0 : (μ 182 3) ≥ (μ 182 1) → (iv_w ((μ 182 3) - (μ 182 5))) > 4 → P none (iv_upd μ 182 4 24))
    (h1 : (μ 182 3) ≥ (μ 182 1) → (iv_w ((μ 182 3) - (μ 182 5))) ≤ 4 → P none (iv_upd μ 182 4 15))
    (h2 : (μ 182 3) < (μ 182 1) → iv_G L xs vz d 151 21 [some (10, 182)] [(0, (μ 182 3)), (10, 182)] μ P)
    : iv_G L xs vz d 151 5 [some (10, 182)] [] μ P :=
  iv_ok hL (ρ := []) (n := 5) (stops := [5, 21, 24, 43]) (lv := [some (10, (.nest 182 .nil))]) (st := []) (I := [(3, (.nest 0 (.append (.nest 182 .nil) (.nest 1 .nil))), (.nest 0 .nil)), (1, (.nest 0 (.append (.nest 182 .nil) (.nest 1 .nil))), (.nest 160 .nil))]) (ls := sg_151_5_l) (by decide +kernel) hd (fun e he => by rcases List.mem_cons.mp he with rfl | he; exact f0; rcases List.mem_cons.mp he with rfl | he; exact f1; cases he) ⟨(fun _ _ => h0), (fun _ _ => h1), (fun _ _ => h2), trivial⟩
def sg_151_27_l : List iv_L := [([(2, (.tag 2 (.append (.nest 0 (.append (.nest 182 .nil) (.nest 3 .nil))) (.nest 0 (.append (.nest 182 .nil) (.nest 5 .nil))))), (.nest 4 .nil)), (4, (.tag 0 .nil), (.nest 0 .nil))], [[(.nest 182 .nil), (.nest 4 .nil), (.nest 24 .nil)]], 2, 151, 90, [], []), ([(1, (.tag 2 (.append (.nest 0 (.append (.nest 182 .nil) (.nest 3 .nil))) (.nest 0 (.append (.nest 182 .nil) (.nest 5 .nil))))), (.nest 4 .nil)), (4, (.tag 0 .nil), (.nest 0 .nil))], [[(.nest 182 .nil), (.nest 4 .nil), (.nest 15 .nil)]], 2, 151, 90, [], []), ([(5, (.tag 0 .nil), (.nest 0 .nil))], [], 1, 151, 43, [some (10, (.nest 182 .nil))], [(0, (.nest 0 (.append (.nest 182 .nil) (.nest 3 .nil)))), (10, (.nest 182 .nil)), (0, (.tag 3 (.append (.nest 0 (.append (.nest 182 .nil) (.nest 6 .nil))) (.nest 10 .nil)))), (10, (.nest 182 .nil))])]
set_option maxRecDepth 100000 in
theorem sg_151_27 {L : Nat} {xs : Nat → Int32} {vz : Value} {d : Nat} {μ : iv_M} {P : iv_P} {r : Int} (hL : L ≤ 3072) (hd : 6 ≤ d)
    (h0 : r = 0 → (iv_w ((μ 182 3) - (μ 182 5))) > 4 → P none (iv_upd μ 182 4 24))
    (h1 : r = 0 → (iv_w ((μ 182 3) - (μ 182 5))) ≤ 4 → P none (iv_upd μ 182 4 15))
    (h2 : r ≠ 0 → iv_G L xs vz d 151 43 [some (10, 182)] [(0, (μ 182 3)), (10, 182), (0, (iv_w ((μ 182 6) * 10))), (10, 182)] μ P)
    : iv_G L xs vz d 151 27 [some (10, 182)] [(0, r)] μ P :=
  iv_ok hL (ρ := [r]) (n := 4) (stops := [5, 21, 24, 43]) (lv := [some (10, (.nest 182 .nil))]) (st := [(0, (.tag 0 .nil))]) (I := []) (ls := sg_151_27_l) (by decide +kernel) hd (fun e he => by cases he) ⟨h0, h1, h2, trivial⟩
def sg_151_46_l : List iv_L := [([], [[(.nest 182 .nil), (.nest 6 .nil), (.tag 2 (.append (.tag 1 (.append (.tag 1 .nil) (.tag 0 .nil))) (.nest 48 .nil)))], [(.nest 182 .nil), (.nest 3 .nil), (.tag 1 (.append (.nest 1 (.append (.nest 182 .nil) (.nest 3 .nil))) (.nest 1 .nil)))]], 1, 151, 5, [some (10, (.nest 182 .nil))], [])]
set_option maxRecDepth 100000 in
theorem sg_151_46 {L : Nat} {xs : Nat → Int32} {vz : Value} {d : Nat} {μ : iv_M} {P : iv_P} {r s1 : Int} (hL : L ≤ 3072) (hd : 6 ≤ d)
    (h0 : iv_G L xs vz d 151 5 [some (10, 182)] [] (iv_upd (iv_upd μ 182 6 (iv_w ((iv_w (s1 + r)) - 48))) 182 3 (iv_w (((iv_upd μ 182 6 (iv_w ((iv_w (s1 + r)) - 48))) 182 3) + 1))) P)
    : iv_G L xs vz d 151 46 [some (10, 182)] [(0, r), (0, s1), (10, 182)] μ P :=
  iv_ok hL (ρ := [r, s1]) (n := 4) (stops := [5, 21, 24, 43]) (lv := [some (10, (.nest 182 .nil))]) (st := [(0, (.tag 0 .nil)), (0, (.tag 1 .nil)), (10, (.nest 182 .nil))]) (I := []) (ls := sg_151_46_l) (by decide +kernel) hd (fun e he => by cases he) ⟨h0, trivial⟩
def sg_133_0_l : List iv_L := [([(3, (.nest 0 (.append (.nest 182 .nil) (.nest 3 .nil))), (.nest 0 (.append (.nest 182 .nil) (.nest 1 .nil)))), (3, (.nest 0 (.append (.nest 182 .nil) (.nest 1 .nil))), (.nest 0 .nil)), (1, (.nest 0 (.append (.nest 182 .nil) (.nest 1 .nil))), (.nest 160 .nil))], [[(.nest 182 .nil), (.nest 5 .nil), (.nest 0 (.append (.nest 182 .nil) (.nest 3 .nil)))]], 1, 133, 50, [some (10, (.nest 182 .nil)), none], [(0, (.nest 1 (.append (.nest 182 .nil) (.nest 3 .nil)))), (10, (.nest 182 .nil))]), ([(0, (.nest 0 (.append (.nest 182 .nil) (.nest 3 .nil))), (.nest 0 (.append (.nest 182 .nil) (.nest 1 .nil)))), (3, (.nest 0 (.append (.nest 182 .nil) (.nest 1 .nil))), (.nest 0 .nil)), (1, (.nest 0 (.append (.nest 182 .nil) (.nest 1 .nil))), (.nest 160 .nil))], [], 1, 133, 16, [some (10, (.nest 182 .nil)), none], [(0, (.nest 0 (.append (.nest 182 .nil) (.nest 3 .nil)))), (10, (.nest 182 .nil))])]
set_option maxRecDepth 100000 in
theorem sg_133_0 {L : Nat} {xs : Nat → Int32} {vz : Value} {d : Nat} {μ : iv_M} {P : iv_P} (hL : L ≤ 3072) (hd : 6 ≤ d) (f0 : (μ 182 1) ≥ 0) (f1 : (μ 182 1) ≤ 160)
    (h0 : (μ 182 3) ≥ (μ 182 1) → iv_G L xs vz d 133 50 [some (10, 182), none] [(0, ((iv_upd μ 182 5 (μ 182 3)) 182 3)), (10, 182)] (iv_upd μ 182 5 (μ 182 3)) P)
    (h1 : (μ 182 3) < (μ 182 1) → iv_G L xs vz d 133 16 [some (10, 182), none] [(0, (μ 182 3)), (10, 182)] μ P)
    : iv_G L xs vz d 133 0 [some (10, 182)] [] μ P :=
  iv_ok hL (ρ := []) (n := 4) (stops := [0, 16, 50, 75, 82, 89, 96, 104]) (lv := [some (10, (.nest 182 .nil))]) (st := []) (I := [(3, (.nest 0 (.append (.nest 182 .nil) (.nest 1 .nil))), (.nest 0 .nil)), (1, (.nest 0 (.append (.nest 182 .nil) (.nest 1 .nil))), (.nest 160 .nil))]) (ls := sg_133_0_l) (by decide +kernel) hd (fun e he => by rcases List.mem_cons.mp he with rfl | he; exact f0; rcases List.mem_cons.mp he with rfl | he; exact f1; cases he) ⟨(fun _ _ => h0), (fun _ _ => h1), trivial⟩
def sg_133_19_l : List iv_L := [([(5, (.tag 0 .nil), (.nest 32 .nil))], [[(.nest 182 .nil), (.nest 5 .nil), (.nest 0 (.append (.nest 182 .nil) (.nest 3 .nil)))]], 1, 133, 50, [some (10, (.nest 182 .nil)), none], [(0, (.nest 1 (.append (.nest 182 .nil) (.nest 3 .nil)))), (10, (.nest 182 .nil))]), ([(4, (.tag 0 .nil), (.nest 32 .nil))], [[(.nest 182 .nil), (.nest 3 .nil), (.tag 1 (.append (.nest 0 (.append (.nest 182 .nil) (.nest 3 .nil))) (.nest 1 .nil)))]], 1, 133, 0, [some (10, (.nest 182 .nil)), none], [])]
set_option maxRecDepth 100000 in
theorem sg_133_19 {L : Nat} {xs : Nat → Int32} {vz : Value} {d : Nat} {μ : iv_M} {P : iv_P} {r : Int} (hL : L ≤ 3072) (hd : 6 ≤ d)
    (h0 : r ≠ 32 → iv_G L xs vz d 133 50 [some (10, 182), none] [(0, ((iv_upd μ 182 5 (μ 182 3)) 182 3)), (10, 182)] (iv_upd μ 182 5 (μ 182 3)) P)
    (h1 : r = 32 → iv_G L xs vz d 133 0 [some (10, 182), none] [] (iv_upd μ 182 3 (iv_w ((μ 182 3) + 1))) P)
    : iv_G L xs vz d 133 19 [some (10, 182), none] [(0, r)] μ P :=
  iv_ok hL (ρ := [r]) (n := 4) (stops := [0, 16, 50, 75, 82, 89, 96, 104]) (lv := [some (10, (.nest 182 .nil)), none]) (st := [(0, (.tag 0 .nil))]) (I := []) (ls := sg_133_19_l) (by decide +kernel) hd (fun e he => by cases he) ⟨h0, h1, trivial⟩
def sg_133_53_l : List iv_L := [([(0, (.nest 0 (.append (.nest 182 .nil) (.nest 3 .nil))), (.nest 0 (.append (.nest 182 .nil) (.nest 1 .nil)))), (3, (.nest 0 (.append (.nest 182 .nil) (.nest 1 .nil))), (.nest 0 .nil)), (1, (.nest 0 (.append (.nest 182 .nil) (.nest 1 .nil))), (.nest 160 .nil))], [], 1, 133, 75, [some (10, (.nest 182 .nil)), some (0, (.tag 0 .nil))], [(0, (.tag 0 .nil))]), ([(3, (.nest 0 (.append (.nest 182 .nil) (.nest 3 .nil))), (.nest 0 (.append (.nest 182 .nil) (.nest 1 .nil)))), (3, (.nest 0 (.append (.nest 182 .nil) (.nest 1 .nil))), (.nest 0 .nil)), (1, (.nest 0 (.append (.nest 182 .nil) (.nest 1 .nil))), (.nest 160 .nil))], [[(.nest 182 .nil), (.nest 4 .nil), (.nest 23 .nil)]], 2, 133, 120, [], [])]
set_option maxRecDepth 100000 in
theorem sg_133_53 {L : Nat} {xs : Nat → Int32} {vz : Value} {d : Nat} {μ : iv_M} {P : iv_P} {r : Int} (hL : L ≤ 3072) (hd : 6 ≤ d) (f0 : (μ 182 1) ≥ 0) (f1 : (μ 182 1) ≤ 160)
    (h0 : (μ 182 3) < (μ 182 1) → iv_G L xs vz d 133 75 [some (10, 182), some (0, r)] [(0, r)] μ P)
    (h1 : (μ 182 3) ≥ (μ 182 1) → P none (iv_upd μ 182 4 23))
    : iv_G L xs vz d 133 53 [some (10, 182), none] [(0, r)] μ P :=
  iv_ok hL (ρ := [r]) (n := 4) (stops := [0, 16, 50, 75, 82, 89, 96, 104]) (lv := [some (10, (.nest 182 .nil)), none]) (st := [(0, (.tag 0 .nil))]) (I := [(3, (.nest 0 (.append (.nest 182 .nil) (.nest 1 .nil))), (.nest 0 .nil)), (1, (.nest 0 (.append (.nest 182 .nil) (.nest 1 .nil))), (.nest 160 .nil))]) (ls := sg_133_53_l) (by decide +kernel) hd (fun e he => by rcases List.mem_cons.mp he with rfl | he; exact f0; rcases List.mem_cons.mp he with rfl | he; exact f1; cases he) ⟨(fun _ _ => h0), (fun _ _ => h1), trivial⟩
def sg_133_78_l : List iv_L := [([(4, (.tag 1 .nil), (.nest 0 .nil))], [], 1, 133, 89, [some (10, (.nest 182 .nil)), some (0, (.tag 0 .nil))], [(0, (.tag 0 .nil))]), ([(5, (.tag 1 .nil), (.nest 0 .nil))], [], 1, 133, 82, [some (10, (.nest 182 .nil)), some (0, (.tag 0 .nil))], [(10, (.nest 182 .nil))])]
set_option maxRecDepth 100000 in
theorem sg_133_78 {L : Nat} {xs : Nat → Int32} {vz : Value} {d : Nat} {μ : iv_M} {P : iv_P} {l1 r : Int} (hL : L ≤ 3072) (hd : 6 ≤ d)
    (h0 : r = 0 → iv_G L xs vz d 133 89 [some (10, 182), some (0, l1)] [(0, l1)] μ P)
    (h1 : r ≠ 0 → iv_G L xs vz d 133 82 [some (10, 182), some (0, l1)] [(10, 182)] μ P)
    : iv_G L xs vz d 133 78 [some (10, 182), some (0, l1)] [(0, r)] μ P :=
  iv_ok hL (ρ := [l1, r]) (n := 2) (stops := [0, 16, 50, 75, 82, 89, 96, 104]) (lv := [some (10, (.nest 182 .nil)), some (0, (.tag 0 .nil))]) (st := [(0, (.tag 1 .nil))]) (I := []) (ls := sg_133_78_l) (by decide +kernel) hd (fun e he => by cases he) ⟨h0, h1, trivial⟩
def sg_133_85_l : List iv_L := [([], [], 2, 133, 120, [], [])]
set_option maxRecDepth 100000 in
theorem sg_133_85 {L : Nat} {xs : Nat → Int32} {vz : Value} {d : Nat} {μ : iv_M} {P : iv_P} {l1 : Int} (hL : L ≤ 3072) (hd : 6 ≤ d)
    (h0 : P none μ)
    : iv_G L xs vz d 133 85 [some (10, 182), some (0, l1)] [] μ P :=
  iv_ok hL (ρ := [l1]) (n := 1) (stops := [0, 16, 50, 75, 82, 89, 96, 104]) (lv := [some (10, (.nest 182 .nil)), some (0, (.tag 0 .nil))]) (st := []) (I := []) (ls := sg_133_85_l) (by decide +kernel) hd (fun e he => by cases he) ⟨h0, trivial⟩
def sg_133_92_l : List iv_L := [([(4, (.tag 1 .nil), (.nest 0 .nil))], [], 1, 133, 104, [some (10, (.nest 182 .nil)), some (0, (.tag 0 .nil))], [(0, (.tag 0 .nil)), (10, (.nest 182 .nil))]), ([(5, (.tag 1 .nil), (.nest 0 .nil))], [], 1, 133, 96, [some (10, (.nest 182 .nil)), some (0, (.tag 0 .nil))], [(10, (.nest 182 .nil))])]
set_option maxRecDepth 100000 in
theorem sg_133_92 {L : Nat} {xs : Nat → Int32} {vz : Value} {d : Nat} {μ : iv_M} {P : iv_P} {l1 r : Int} (hL : L ≤ 3072) (hd : 6 ≤ d)
    (h0 : r = 0 → iv_G L xs vz d 133 104 [some (10, 182), some (0, l1)] [(0, l1), (10, 182)] μ P)
    (h1 : r ≠ 0 → iv_G L xs vz d 133 96 [some (10, 182), some (0, l1)] [(10, 182)] μ P)
    : iv_G L xs vz d 133 92 [some (10, 182), some (0, l1)] [(0, r)] μ P :=
  iv_ok hL (ρ := [l1, r]) (n := 2) (stops := [0, 16, 50, 75, 82, 89, 96, 104]) (lv := [some (10, (.nest 182 .nil)), some (0, (.tag 0 .nil))]) (st := [(0, (.tag 1 .nil))]) (I := []) (ls := sg_133_92_l) (by decide +kernel) hd (fun e he => by cases he) ⟨h0, h1, trivial⟩
def sg_133_99_l : List iv_L := [([], [], 2, 133, 120, [], [])]
set_option maxRecDepth 100000 in
theorem sg_133_99 {L : Nat} {xs : Nat → Int32} {vz : Value} {d : Nat} {μ : iv_M} {P : iv_P} {l1 : Int} (hL : L ≤ 3072) (hd : 6 ≤ d)
    (h0 : P none μ)
    : iv_G L xs vz d 133 99 [some (10, 182), some (0, l1)] [] μ P :=
  iv_ok hL (ρ := [l1]) (n := 1) (stops := [0, 16, 50, 75, 82, 89, 96, 104]) (lv := [some (10, (.nest 182 .nil)), some (0, (.tag 0 .nil))]) (st := []) (I := []) (ls := sg_133_99_l) (by decide +kernel) hd (fun e he => by cases he) ⟨h0, trivial⟩
def sg_133_107_l : List iv_L := [([], [[(.nest 182 .nil), (.nest 4 .nil), (.tag 1 .nil)], [(.nest 182 .nil), (.nest 3 .nil), (.tag 1 (.append (.nest 1 (.append (.nest 182 .nil) (.nest 3 .nil))) (.nest 1 .nil)))]], 2, 133, 120, [], [])]
set_option maxRecDepth 100000 in
theorem sg_133_107 {L : Nat} {xs : Nat → Int32} {vz : Value} {d : Nat} {μ : iv_M} {P : iv_P} {l1 r : Int} (hL : L ≤ 3072) (hd : 6 ≤ d)
    (h0 : P none (iv_upd (iv_upd μ 182 4 r) 182 3 (iv_w (((iv_upd μ 182 4 r) 182 3) + 1))))
    : iv_G L xs vz d 133 107 [some (10, 182), some (0, l1)] [(0, r), (10, 182)] μ P :=
  iv_ok hL (ρ := [l1, r]) (n := 3) (stops := [0, 16, 50, 75, 82, 89, 96, 104]) (lv := [some (10, (.nest 182 .nil)), some (0, (.tag 0 .nil))]) (st := [(0, (.tag 1 .nil)), (10, (.nest 182 .nil))]) (I := []) (ls := sg_133_107_l) (by decide +kernel) hd (fun e he => by cases he) ⟨h0, trivial⟩
def sg_143_0_l : List iv_L := [([], [], 1, 143, 3, [some (19, (.tag 0 .nil)), some (0, (.tag 1 .nil))], [(0, (.tag 43 (.append (.tag 0 .nil) .nil))), (0, (.tag 1 .nil))])]
set_option maxRecDepth 100000 in
theorem sg_143_0 {L : Nat} {xs : Nat → Int32} {vz : Value} {d : Nat} {μ : iv_M} {P : iv_P} {p x0 : Int} (hL : L ≤ 3072) (hd : 6 ≤ d)
    (h0 : iv_G L xs vz d 143 3 [some (19, p), some (0, x0)] [(0, (iv_ln L xs p)), (0, x0)] μ P)
    : iv_G L xs vz d 143 0 [some (19, p), some (0, x0)] [] μ P :=
  iv_ok hL (ρ := [p, x0]) (n := 2) (stops := [3]) (lv := [some (19, (.tag 0 .nil)), some (0, (.tag 1 .nil))]) (st := []) (I := []) (ls := sg_143_0_l) (by decide +kernel) hd (fun e he => by cases he) ⟨h0, trivial⟩
def sg_143_6_l : List iv_L := [([(6, (.tag 15 (.append (.tag 4 (.append (.tag 40 (.append (.tag 0 .nil) (.tag 1 .nil))) (.nest 255 .nil))) (.nest 0 .nil))), (.nest 65536 .nil)), (6, (.tag 1 .nil), (.tag 43 (.append (.tag 0 .nil) .nil)))], [], 2, 143, 14, [], [(0, (.tag 15 (.append (.tag 4 (.append (.tag 40 (.append (.tag 0 .nil) (.tag 1 .nil))) (.nest 255 .nil))) (.nest 0 .nil))))]), ([(7, (.tag 15 (.append (.tag 4 (.append (.tag 40 (.append (.tag 0 .nil) (.tag 1 .nil))) (.nest 255 .nil))) (.nest 0 .nil))), (.nest 65536 .nil)), (6, (.tag 1 .nil), (.tag 43 (.append (.tag 0 .nil) .nil)))], [], 0, 0, 0, [], []), ([(7, (.tag 1 .nil), (.tag 43 (.append (.tag 0 .nil) .nil)))], [], 0, 0, 0, [], [])]
set_option maxRecDepth 100000 in
theorem sg_143_6 {L : Nat} {xs : Nat → Int32} {vz : Value} {d : Nat} {μ : iv_M} {P : iv_P} {p x0 : Int} (hL : L ≤ 3072) (hd : 6 ≤ d)
    (h0 : (0 ≤ x0 ∧ x0 < (iv_ln L xs p)) → (0 ≤ (iv_i2c (iv_and (iv_sr L xs p x0) 255)) ∧ (iv_i2c (iv_and (iv_sr L xs p x0) 255)) < 65536) → P (some (0, (iv_i2c (iv_and (iv_sr L xs p x0) 255)))) μ)
    (h1 : (0 ≤ x0 ∧ x0 < (iv_ln L xs p)) → ¬ (0 ≤ (iv_i2c (iv_and (iv_sr L xs p x0) 255)) ∧ (iv_i2c (iv_and (iv_sr L xs p x0) 255)) < 65536) → False)
    (h2 : ¬ (0 ≤ x0 ∧ x0 < (iv_ln L xs p)) → False)
    : iv_G L xs vz d 143 6 [some (19, p), some (0, x0)] [] μ P :=
  iv_ok hL (ρ := [p, x0]) (n := 3) (stops := [3]) (lv := [some (19, (.tag 0 .nil)), some (0, (.tag 1 .nil))]) (st := []) (I := []) (ls := sg_143_6_l) (by decide +kernel) hd (fun e he => by cases he) ⟨h0, h1, h2, trivial⟩
def sg_154_0_l : List iv_L := [([(4, (.nest 0 (.append (.nest 182 .nil) (.nest 4 .nil))), (.tag 0 .nil))], [], 1, 154, 11, [some (10, (.nest 182 .nil)), some (0, (.tag 0 .nil))], [(10, (.nest 182 .nil))]), ([(5, (.nest 0 (.append (.nest 182 .nil) (.nest 4 .nil))), (.tag 0 .nil))], [], 2, 154, 9, [], [(0, (.nest 0 .nil))])]
set_option maxRecDepth 100000 in
theorem sg_154_0 {L : Nat} {xs : Nat → Int32} {vz : Value} {d : Nat} {μ : iv_M} {P : iv_P} {x0 : Int} (hL : L ≤ 3072) (hd : 6 ≤ d)
    (h0 : (μ 182 4) = x0 → iv_G L xs vz d 154 11 [some (10, 182), some (0, x0)] [(10, 182)] μ P)
    (h1 : (μ 182 4) ≠ x0 → P (some (0, 0)) μ)
    : iv_G L xs vz d 154 0 [some (10, 182), some (0, x0)] [] μ P :=
  iv_ok hL (ρ := [x0]) (n := 3) (stops := [11]) (lv := [some (10, (.nest 182 .nil)), some (0, (.tag 0 .nil))]) (st := []) (I := []) (ls := sg_154_0_l) (by decide +kernel) hd (fun e he => by cases he) ⟨h0, h1, trivial⟩
def sg_154_14_l : List iv_L := [([], [], 2, 154, 15, [], [(0, (.nest 1 .nil))])]
set_option maxRecDepth 100000 in
theorem sg_154_14 {L : Nat} {xs : Nat → Int32} {vz : Value} {d : Nat} {μ : iv_M} {P : iv_P} {l1 : Int} (hL : L ≤ 3072) (hd : 6 ≤ d)
    (h0 : P (some (0, 1)) μ)
    : iv_G L xs vz d 154 14 [some (10, 182), some (0, l1)] [] μ P :=
  iv_ok hL (ρ := [l1]) (n := 1) (stops := [11]) (lv := [some (10, (.nest 182 .nil)), some (0, (.tag 0 .nil))]) (st := []) (I := []) (ls := sg_154_14_l) (by decide +kernel) hd (fun e he => by cases he) ⟨h0, trivial⟩
def sg_160_0_l : List iv_L := [([(5, (.nest 0 (.append (.nest 182 .nil) (.nest 4 .nil))), (.nest 16 .nil)), (3, (.nest 0 (.append (.nest 182 .nil) (.nest 4 .nil))), (.nest 9 .nil)), (5, (.nest 0 (.append (.nest 182 .nil) (.nest 4 .nil))), (.nest 15 .nil))], [], 2, 160, 67, [], [(0, (.nest 0 .nil))]), ([(0, (.tag 0 .nil), (.nest 4 .nil)), (4, (.nest 0 (.append (.nest 182 .nil) (.nest 4 .nil))), (.nest 16 .nil)), (3, (.nest 0 (.append (.nest 182 .nil) (.nest 4 .nil))), (.nest 9 .nil)), (5, (.nest 0 (.append (.nest 182 .nil) (.nest 4 .nil))), (.nest 15 .nil))], [], 1, 160, 69, [some (10, (.nest 182 .nil)), some (0, (.tag 0 .nil))], [(10, (.nest 182 .nil))]), ([(3, (.tag 0 .nil), (.nest 4 .nil)), (4, (.nest 0 (.append (.nest 182 .nil) (.nest 4 .nil))), (.nest 16 .nil)), (3, (.nest 0 (.append (.nest 182 .nil) (.nest 4 .nil))), (.nest 9 .nil)), (5, (.nest 0 (.append (.nest 182 .nil) (.nest 4 .nil))), (.nest 15 .nil))], [], 2, 160, 67, [], [(0, (.nest 0 .nil))]), ([(0, (.nest 0 (.append (.nest 182 .nil) (.nest 4 .nil))), (.nest 9 .nil)), (5, (.nest 0 (.append (.nest 182 .nil) (.nest 4 .nil))), (.nest 15 .nil))], [], 1, 160, 43, [some (10, (.nest 182 .nil)), some (0, (.tag 0 .nil))], [(0, (.nest 0 (.append (.nest 182 .nil) (.nest 4 .nil)))), (11, (.nest 184 .nil))]), ([(4, (.nest 0 (.append (.nest 182 .nil) (.nest 4 .nil))), (.nest 15 .nil))], [], 1, 160, 17, [some (10, (.nest 182 .nil)), some (0, (.tag 0 .nil))], [(0, (.nest 0 (.append (.nest 182 .nil) (.nest 6 .nil)))), (11, (.nest 184 .nil))])]
set_option maxRecDepth 100000 in
theorem sg_160_0 {L : Nat} {xs : Nat → Int32} {vz : Value} {d : Nat} {μ : iv_M} {P : iv_P} {x0 : Int} (hL : L ≤ 3072) (hd : 6 ≤ d)
    (h0 : (μ 182 4) ≠ 15 → (μ 182 4) ≥ 9 → (μ 182 4) ≠ 16 → P (some (0, 0)) μ)
    (h1 : (μ 182 4) ≠ 15 → (μ 182 4) ≥ 9 → (μ 182 4) = 16 → x0 < 4 → iv_G L xs vz d 160 69 [some (10, 182), some (0, x0)] [(10, 182)] μ P)
    (h2 : (μ 182 4) ≠ 15 → (μ 182 4) ≥ 9 → (μ 182 4) = 16 → x0 ≥ 4 → P (some (0, 0)) μ)
    (h3 : (μ 182 4) ≠ 15 → (μ 182 4) < 9 → iv_G L xs vz d 160 43 [some (10, 182), some (0, x0)] [(0, (μ 182 4)), (11, 184)] μ P)
    (h4 : (μ 182 4) = 15 → iv_G L xs vz d 160 17 [some (10, 182), some (0, x0)] [(0, (μ 182 6)), (11, 184)] μ P)
    : iv_G L xs vz d 160 0 [some (10, 182), some (0, x0)] [] μ P :=
  iv_ok hL (ρ := [x0]) (n := 5) (stops := [17, 21, 43, 47, 69, 76, 94]) (lv := [some (10, (.nest 182 .nil)), some (0, (.tag 0 .nil))]) (st := []) (I := []) (ls := sg_160_0_l) (by decide +kernel) hd (fun e he => by cases he) ⟨h0, h1, h2, h3, h4, trivial⟩
def sg_160_20_l : List iv_L := [([], [], 1, 160, 21, [some (10, (.nest 182 .nil)), some (0, (.tag 0 .nil))], [(10, (.nest 182 .nil))])]
set_option maxRecDepth 100000 in
theorem sg_160_20 {L : Nat} {xs : Nat → Int32} {vz : Value} {d : Nat} {μ : iv_M} {P : iv_P} {l1 : Int} (hL : L ≤ 3072) (hd : 6 ≤ d)
    (h0 : iv_G L xs vz d 160 21 [some (10, 182), some (0, l1)] [(10, 182)] μ P)
    : iv_G L xs vz d 160 20 [some (10, 182), some (0, l1)] [] μ P :=
  iv_ok hL (ρ := [l1]) (n := 1) (stops := [17, 21, 43, 47, 69, 76, 94]) (lv := [some (10, (.nest 182 .nil)), some (0, (.tag 0 .nil))]) (st := []) (I := []) (ls := sg_160_20_l) (by decide +kernel) hd (fun e he => by cases he) ⟨h0, trivial⟩
def sg_160_24_l : List iv_L := [([], [], 2, 160, 25, [], [(0, (.nest 1 .nil))])]
set_option maxRecDepth 100000 in
theorem sg_160_24 {L : Nat} {xs : Nat → Int32} {vz : Value} {d : Nat} {μ : iv_M} {P : iv_P} {l1 : Int} (hL : L ≤ 3072) (hd : 6 ≤ d)
    (h0 : P (some (0, 1)) μ)
    : iv_G L xs vz d 160 24 [some (10, 182), some (0, l1)] [] μ P :=
  iv_ok hL (ρ := [l1]) (n := 1) (stops := [17, 21, 43, 47, 69, 76, 94]) (lv := [some (10, (.nest 182 .nil)), some (0, (.tag 0 .nil))]) (st := []) (I := []) (ls := sg_160_24_l) (by decide +kernel) hd (fun e he => by cases he) ⟨h0, trivial⟩
def sg_160_46_l : List iv_L := [([], [], 1, 160, 47, [some (10, (.nest 182 .nil)), some (0, (.tag 0 .nil))], [(10, (.nest 182 .nil))])]
set_option maxRecDepth 100000 in
theorem sg_160_46 {L : Nat} {xs : Nat → Int32} {vz : Value} {d : Nat} {μ : iv_M} {P : iv_P} {l1 : Int} (hL : L ≤ 3072) (hd : 6 ≤ d)
    (h0 : iv_G L xs vz d 160 47 [some (10, 182), some (0, l1)] [(10, 182)] μ P)
    : iv_G L xs vz d 160 46 [some (10, 182), some (0, l1)] [] μ P :=
  iv_ok hL (ρ := [l1]) (n := 1) (stops := [17, 21, 43, 47, 69, 76, 94]) (lv := [some (10, (.nest 182 .nil)), some (0, (.tag 0 .nil))]) (st := []) (I := []) (ls := sg_160_46_l) (by decide +kernel) hd (fun e he => by cases he) ⟨h0, trivial⟩
def sg_160_50_l : List iv_L := [([], [], 2, 160, 51, [], [(0, (.nest 1 .nil))])]
set_option maxRecDepth 100000 in
theorem sg_160_50 {L : Nat} {xs : Nat → Int32} {vz : Value} {d : Nat} {μ : iv_M} {P : iv_P} {l1 : Int} (hL : L ≤ 3072) (hd : 6 ≤ d)
    (h0 : P (some (0, 1)) μ)
    : iv_G L xs vz d 160 50 [some (10, 182), some (0, l1)] [] μ P :=
  iv_ok hL (ρ := [l1]) (n := 1) (stops := [17, 21, 43, 47, 69, 76, 94]) (lv := [some (10, (.nest 182 .nil)), some (0, (.tag 0 .nil))]) (st := []) (I := []) (ls := sg_160_50_l) (by decide +kernel) hd (fun e he => by cases he) ⟨h0, trivial⟩
def sg_160_72_l : List iv_L := [([], [], 1, 160, 76, [some (10, (.nest 182 .nil)), some (0, (.tag 0 .nil))], [(0, (.tag 1 (.append (.tag 0 .nil) (.nest 1 .nil)))), (10, (.nest 182 .nil))])]
set_option maxRecDepth 100000 in
theorem sg_160_72 {L : Nat} {xs : Nat → Int32} {vz : Value} {d : Nat} {μ : iv_M} {P : iv_P} {l1 : Int} (hL : L ≤ 3072) (hd : 6 ≤ d)
    (h0 : iv_G L xs vz d 160 76 [some (10, 182), some (0, l1)] [(0, (iv_w (l1 + 1))), (10, 182)] μ P)
    : iv_G L xs vz d 160 72 [some (10, 182), some (0, l1)] [] μ P :=
  iv_ok hL (ρ := [l1]) (n := 3) (stops := [17, 21, 43, 47, 69, 76, 94]) (lv := [some (10, (.nest 182 .nil)), some (0, (.tag 0 .nil))]) (st := []) (I := []) (ls := sg_160_72_l) (by decide +kernel) hd (fun e he => by cases he) ⟨h0, trivial⟩
def sg_160_79_l : List iv_L := [([(4, (.tag 1 .nil), (.nest 0 .nil))], [], 2, 160, 92, [], [(0, (.nest 0 .nil))]), ([(4, (.nest 0 (.append (.nest 182 .nil) (.nest 4 .nil))), (.nest 17 .nil)), (5, (.tag 1 .nil), (.nest 0 .nil))], [], 1, 160, 94, [some (10, (.nest 182 .nil)), some (0, (.tag 0 .nil))], [(10, (.nest 182 .nil))]), ([(5, (.nest 0 (.append (.nest 182 .nil) (.nest 4 .nil))), (.nest 17 .nil)), (5, (.tag 1 .nil), (.nest 0 .nil))], [], 2, 160, 92, [], [(0, (.nest 0 .nil))])]
set_option maxRecDepth 100000 in
theorem sg_160_79 {L : Nat} {xs : Nat → Int32} {vz : Value} {d : Nat} {μ : iv_M} {P : iv_P} {l1 r : Int} (hL : L ≤ 3072) (hd : 6 ≤ d)
    (h0 : r = 0 → P (some (0, 0)) μ)
    (h1 : r ≠ 0 → (μ 182 4) = 17 → iv_G L xs vz d 160 94 [some (10, 182), some (0, l1)] [(10, 182)] μ P)
    (h2 : r ≠ 0 → (μ 182 4) ≠ 17 → P (some (0, 0)) μ)
    : iv_G L xs vz d 160 79 [some (10, 182), some (0, l1)] [(0, r)] μ P :=
  iv_ok hL (ρ := [l1, r]) (n := 3) (stops := [17, 21, 43, 47, 69, 76, 94]) (lv := [some (10, (.nest 182 .nil)), some (0, (.tag 0 .nil))]) (st := [(0, (.tag 1 .nil))]) (I := []) (ls := sg_160_79_l) (by decide +kernel) hd (fun e he => by cases he) ⟨h0, h1, h2, trivial⟩
def sg_160_97_l : List iv_L := [([], [], 2, 160, 98, [], [(0, (.nest 1 .nil))])]
set_option maxRecDepth 100000 in
theorem sg_160_97 {L : Nat} {xs : Nat → Int32} {vz : Value} {d : Nat} {μ : iv_M} {P : iv_P} {l1 : Int} (hL : L ≤ 3072) (hd : 6 ≤ d)
    (h0 : P (some (0, 1)) μ)
    : iv_G L xs vz d 160 97 [some (10, 182), some (0, l1)] [] μ P :=
  iv_ok hL (ρ := [l1]) (n := 1) (stops := [17, 21, 43, 47, 69, 76, 94]) (lv := [some (10, (.nest 182 .nil)), some (0, (.tag 0 .nil))]) (st := []) (I := []) (ls := sg_160_97_l) (by decide +kernel) hd (fun e he => by cases he) ⟨h0, trivial⟩
def sg_159_0_l : List iv_L := [([], [], 1, 159, 2, [some (10, (.nest 182 .nil)), some (0, (.tag 0 .nil)), none, none, none], [(0, (.tag 0 .nil)), (10, (.nest 182 .nil))])]
set_option maxRecDepth 100000 in
theorem sg_159_0 {L : Nat} {xs : Nat → Int32} {vz : Value} {d : Nat} {μ : iv_M} {P : iv_P} {x0 : Int} (hL : L ≤ 3072) (hd : 6 ≤ d)
    (h0 : iv_G L xs vz d 159 2 [some (10, 182), some (0, x0), none, none, none] [(0, x0), (10, 182)] μ P)
    : iv_G L xs vz d 159 0 [some (10, 182), some (0, x0)] [] μ P :=
  iv_ok hL (ρ := [x0]) (n := 2) (stops := [2, 8, 44, 49, 59]) (lv := [some (10, (.nest 182 .nil)), some (0, (.tag 0 .nil))]) (st := []) (I := []) (ls := sg_159_0_l) (by decide +kernel) hd (fun e he => by cases he) ⟨h0, trivial⟩
def sg_159_5_l : List iv_L := [([], [], 1, 159, 8, [some (10, (.nest 182 .nil)), some (0, (.tag 0 .nil)), some (0, (.tag 1 .nil)), some (0, (.nest 0 .nil)), none], [])]
set_option maxRecDepth 100000 in
theorem sg_159_5 {L : Nat} {xs : Nat → Int32} {vz : Value} {d : Nat} {μ : iv_M} {P : iv_P} {l1 r : Int} (hL : L ≤ 3072) (hd : 6 ≤ d)
    (h0 : iv_G L xs vz d 159 8 [some (10, 182), some (0, l1), some (0, r), some (0, 0), none] [] μ P)
    : iv_G L xs vz d 159 5 [some (10, 182), some (0, l1), none, none, none] [(0, r)] μ P :=
  iv_ok hL (ρ := [l1, r]) (n := 2) (stops := [2, 8, 44, 49, 59]) (lv := [some (10, (.nest 182 .nil)), some (0, (.tag 0 .nil)), none, none, none]) (st := [(0, (.tag 1 .nil))]) (I := []) (ls := sg_159_5_l) (by decide +kernel) hd (fun e he => by cases he) ⟨h0, trivial⟩
def sg_159_8_l : List iv_L := [([(6, (.tag 1 .nil), (.nest 2 .nil)), (3, (.tag 2 .nil), (.nest 160 .nil)), (3, (.tag 2 .nil), (.nest 0 .nil))], [], 2, 159, 69, [], [(0, (.tag 1 .nil))]), ([(7, (.tag 1 .nil), (.nest 2 .nil)), (3, (.tag 2 .nil), (.nest 160 .nil)), (3, (.tag 2 .nil), (.nest 0 .nil))], [], 0, 0, 0, [], []), ([(4, (.tag 1 .nil), (.nest 0 .nil)), (0, (.tag 2 .nil), (.nest 160 .nil)), (3, (.tag 2 .nil), (.nest 0 .nil))], [], 2, 159, 69, [], [(0, (.tag 1 .nil))]), ([(4, (.nest 0 (.append (.nest 182 .nil) (.nest 4 .nil))), (.nest 19 .nil)), (5, (.tag 1 .nil), (.nest 0 .nil)), (0, (.tag 2 .nil), (.nest 160 .nil)), (3, (.tag 2 .nil), (.nest 0 .nil))], [], 1, 159, 44, [some (10, (.nest 182 .nil)), some (0, (.tag 0 .nil)), some (0, (.tag 1 .nil)), some (0, (.tag 2 .nil)), some (0, (.nest 0 (.append (.nest 182 .nil) (.nest 4 .nil))))], [(10, (.nest 182 .nil))]), ([(6, (.tag 1 .nil), (.nest 2 .nil)), (5, (.nest 0 (.append (.nest 182 .nil) (.nest 4 .nil))), (.nest 20 .nil)), (5, (.nest 0 (.append (.nest 182 .nil) (.nest 4 .nil))), (.nest 19 .nil)), (5, (.tag 1 .nil), (.nest 0 .nil)), (0, (.tag 2 .nil), (.nest 160 .nil)), (3, (.tag 2 .nil), (.nest 0 .nil))], [], 2, 159, 69, [], [(0, (.tag 1 .nil))]), ([(7, (.tag 1 .nil), (.nest 2 .nil)), (5, (.nest 0 (.append (.nest 182 .nil) (.nest 4 .nil))), (.nest 20 .nil)), (5, (.nest 0 (.append (.nest 182 .nil) (.nest 4 .nil))), (.nest 19 .nil)), (5, (.tag 1 .nil), (.nest 0 .nil)), (0, (.tag 2 .nil), (.nest 160 .nil)), (3, (.tag 2 .nil), (.nest 0 .nil))], [], 0, 0, 0, [], []), ([(4, (.nest 0 (.append (.nest 182 .nil) (.nest 4 .nil))), (.nest 20 .nil)), (5, (.nest 0 (.append (.nest 182 .nil) (.nest 4 .nil))), (.nest 19 .nil)), (5, (.tag 1 .nil), (.nest 0 .nil)), (0, (.tag 2 .nil), (.nest 160 .nil)), (3, (.tag 2 .nil), (.nest 0 .nil))], [], 1, 159, 44, [some (10, (.nest 182 .nil)), some (0, (.tag 0 .nil)), some (0, (.tag 1 .nil)), some (0, (.tag 2 .nil)), some (0, (.nest 0 (.append (.nest 182 .nil) (.nest 4 .nil))))], [(10, (.nest 182 .nil))])]
set_option maxRecDepth 100000 in
theorem sg_159_8 {L : Nat} {xs : Nat → Int32} {vz : Value} {d : Nat} {μ : iv_M} {P : iv_P} {l1 l2 l3 : Int} (hL : L ≤ 3072) (hd : 6 ≤ d) (f0 : l3 ≥ 0)
    (h0 : l3 ≥ 160 → (0 ≤ l2 ∧ l2 < 2) → P (some (0, l2)) μ)
    (h1 : l3 ≥ 160 → ¬ (0 ≤ l2 ∧ l2 < 2) → False)
    (h2 : l3 < 160 → l2 = 0 → P (some (0, l2)) μ)
    (h3 : l3 < 160 → l2 ≠ 0 → (μ 182 4) = 19 → iv_G L xs vz d 159 44 [some (10, 182), some (0, l1), some (0, l2), some (0, l3), some (0, (μ 182 4))] [(10, 182)] μ P)
    (h4 : l3 < 160 → l2 ≠ 0 → (μ 182 4) ≠ 19 → (μ 182 4) ≠ 20 → (0 ≤ l2 ∧ l2 < 2) → P (some (0, l2)) μ)
    (h5 : l3 < 160 → l2 ≠ 0 → (μ 182 4) ≠ 19 → (μ 182 4) ≠ 20 → ¬ (0 ≤ l2 ∧ l2 < 2) → False)
    (h6 : l3 < 160 → l2 ≠ 0 → (μ 182 4) ≠ 19 → (μ 182 4) = 20 → iv_G L xs vz d 159 44 [some (10, 182), some (0, l1), some (0, l2), some (0, l3), some (0, (μ 182 4))] [(10, 182)] μ P)
    : iv_G L xs vz d 159 8 [some (10, 182), some (0, l1), some (0, l2), some (0, l3), none] [] μ P :=
  iv_ok hL (ρ := [l1, l2, l3]) (n := 5) (stops := [2, 8, 44, 49, 59]) (lv := [some (10, (.nest 182 .nil)), some (0, (.tag 0 .nil)), some (0, (.tag 1 .nil)), some (0, (.tag 2 .nil)), none]) (st := []) (I := [(3, (.tag 2 .nil), (.nest 0 .nil))]) (ls := sg_159_8_l) (by decide +kernel) hd (fun e he => by rcases List.mem_cons.mp he with rfl | he; exact f0; cases he) ⟨(fun _ => h0), (fun _ => h1), (fun _ => h2), (fun _ => h3), (fun _ => h4), (fun _ => h5), (fun _ => h6), trivial⟩
def sg_159_47_l : List iv_L := [([], [], 1, 159, 49, [some (10, (.nest 182 .nil)), some (0, (.tag 0 .nil)), some (0, (.tag 1 .nil)), some (0, (.tag 2 .nil)), some (0, (.tag 3 .nil))], [(0, (.tag 0 .nil)), (10, (.nest 182 .nil))])]
set_option maxRecDepth 100000 in
theorem sg_159_47 {L : Nat} {xs : Nat → Int32} {vz : Value} {d : Nat} {μ : iv_M} {P : iv_P} {l1 l2 l3 l4 : Int} (hL : L ≤ 3072) (hd : 6 ≤ d)
    (h0 : iv_G L xs vz d 159 49 [some (10, 182), some (0, l1), some (0, l2), some (0, l3), some (0, l4)] [(0, l1), (10, 182)] μ P)
    : iv_G L xs vz d 159 47 [some (10, 182), some (0, l1), some (0, l2), some (0, l3), some (0, l4)] [] μ P :=
  iv_ok hL (ρ := [l1, l2, l3, l4]) (n := 2) (stops := [2, 8, 44, 49, 59]) (lv := [some (10, (.nest 182 .nil)), some (0, (.tag 0 .nil)), some (0, (.tag 1 .nil)), some (0, (.tag 2 .nil)), some (0, (.tag 3 .nil))]) (st := []) (I := []) (ls := sg_159_47_l) (by decide +kernel) hd (fun e he => by cases he) ⟨h0, trivial⟩
def sg_159_52_l : List iv_L := [([], [], 1, 159, 59, [some (10, (.nest 182 .nil)), some (0, (.tag 0 .nil)), some (0, (.tag 4 .nil)), some (0, (.tag 2 .nil)), some (0, (.tag 3 .nil))], [(0, (.tag 3 .nil)), (11, (.nest 184 .nil))])]
set_option maxRecDepth 100000 in
theorem sg_159_52 {L : Nat} {xs : Nat → Int32} {vz : Value} {d : Nat} {μ : iv_M} {P : iv_P} {l1 l2 l3 l4 r : Int} (hL : L ≤ 3072) (hd : 6 ≤ d)
    (h0 : iv_G L xs vz d 159 59 [some (10, 182), some (0, l1), some (0, r), some (0, l3), some (0, l4)] [(0, l4), (11, 184)] μ P)
    : iv_G L xs vz d 159 52 [some (10, 182), some (0, l1), some (0, l2), some (0, l3), some (0, l4)] [(0, r)] μ P :=
  iv_ok hL (ρ := [l1, l2, l3, l4, r]) (n := 3) (stops := [2, 8, 44, 49, 59]) (lv := [some (10, (.nest 182 .nil)), some (0, (.tag 0 .nil)), some (0, (.tag 1 .nil)), some (0, (.tag 2 .nil)), some (0, (.tag 3 .nil))]) (st := [(0, (.tag 4 .nil))]) (I := []) (ls := sg_159_52_l) (by decide +kernel) hd (fun e he => by cases he) ⟨h0, trivial⟩
def sg_159_62_l : List iv_L := [([], [], 1, 159, 8, [some (10, (.nest 182 .nil)), some (0, (.tag 0 .nil)), some (0, (.tag 1 .nil)), some (0, (.tag 1 (.append (.tag 2 .nil) (.nest 1 .nil)))), some (0, (.tag 3 .nil))], [])]
set_option maxRecDepth 100000 in
theorem sg_159_62 {L : Nat} {xs : Nat → Int32} {vz : Value} {d : Nat} {μ : iv_M} {P : iv_P} {l1 l2 l3 l4 : Int} (hL : L ≤ 3072) (hd : 6 ≤ d)
    (h0 : iv_G L xs vz d 159 8 [some (10, 182), some (0, l1), some (0, l2), some (0, (iv_w (l3 + 1))), some (0, l4)] [] μ P)
    : iv_G L xs vz d 159 62 [some (10, 182), some (0, l1), some (0, l2), some (0, l3), some (0, l4)] [] μ P :=
  iv_ok hL (ρ := [l1, l2, l3, l4]) (n := 2) (stops := [2, 8, 44, 49, 59]) (lv := [some (10, (.nest 182 .nil)), some (0, (.tag 0 .nil)), some (0, (.tag 1 .nil)), some (0, (.tag 2 .nil)), some (0, (.tag 3 .nil))]) (st := []) (I := []) (ls := sg_159_62_l) (by decide +kernel) hd (fun e he => by cases he) ⟨h0, trivial⟩
def sg_158_0_l : List iv_L := [([], [], 1, 158, 2, [some (10, (.nest 182 .nil)), some (0, (.tag 0 .nil)), none, none], [(0, (.tag 0 .nil)), (10, (.nest 182 .nil))])]
set_option maxRecDepth 100000 in
theorem sg_158_0 {L : Nat} {xs : Nat → Int32} {vz : Value} {d : Nat} {μ : iv_M} {P : iv_P} {x0 : Int} (hL : L ≤ 3072) (hd : 6 ≤ d)
    (h0 : iv_G L xs vz d 158 2 [some (10, 182), some (0, x0), none, none] [(0, x0), (10, 182)] μ P)
    : iv_G L xs vz d 158 0 [some (10, 182), some (0, x0)] [] μ P :=
  iv_ok hL (ρ := [x0]) (n := 2) (stops := [2, 30, 35, 44]) (lv := [some (10, (.nest 182 .nil)), some (0, (.tag 0 .nil))]) (st := []) (I := []) (ls := sg_158_0_l) (by decide +kernel) hd (fun e he => by cases he) ⟨h0, trivial⟩
def sg_158_5_l : List iv_L := [([(4, (.tag 1 .nil), (.nest 0 .nil))], [], 2, 158, 28, [], [(0, (.tag 1 .nil))]), ([(4, (.nest 0 (.append (.nest 182 .nil) (.nest 4 .nil))), (.nest 21 .nil)), (5, (.tag 1 .nil), (.nest 0 .nil))], [], 1, 158, 30, [some (10, (.nest 182 .nil)), some (0, (.tag 0 .nil)), some (0, (.tag 1 .nil)), some (0, (.nest 0 (.append (.nest 182 .nil) (.nest 4 .nil))))], [(10, (.nest 182 .nil))]), ([(4, (.nest 0 (.append (.nest 182 .nil) (.nest 4 .nil))), (.nest 22 .nil)), (5, (.nest 0 (.append (.nest 182 .nil) (.nest 4 .nil))), (.nest 21 .nil)), (5, (.tag 1 .nil), (.nest 0 .nil))], [], 1, 158, 30, [some (10, (.nest 182 .nil)), some (0, (.tag 0 .nil)), some (0, (.tag 1 .nil)), some (0, (.nest 0 (.append (.nest 182 .nil) (.nest 4 .nil))))], [(10, (.nest 182 .nil))]), ([(6, (.tag 1 .nil), (.nest 2 .nil)), (5, (.nest 0 (.append (.nest 182 .nil) (.nest 4 .nil))), (.nest 22 .nil)), (5, (.nest 0 (.append (.nest 182 .nil) (.nest 4 .nil))), (.nest 21 .nil)), (5, (.tag 1 .nil), (.nest 0 .nil))], [], 2, 158, 28, [], [(0, (.tag 1 .nil))]), ([(7, (.tag 1 .nil), (.nest 2 .nil)), (5, (.nest 0 (.append (.nest 182 .nil) (.nest 4 .nil))), (.nest 22 .nil)), (5, (.nest 0 (.append (.nest 182 .nil) (.nest 4 .nil))), (.nest 21 .nil)), (5, (.tag 1 .nil), (.nest 0 .nil))], [], 0, 0, 0, [], [])]
set_option maxRecDepth 100000 in
theorem sg_158_5 {L : Nat} {xs : Nat → Int32} {vz : Value} {d : Nat} {μ : iv_M} {P : iv_P} {l1 r : Int} (hL : L ≤ 3072) (hd : 6 ≤ d)
    (h0 : r = 0 → P (some (0, r)) μ)
    (h1 : r ≠ 0 → (μ 182 4) = 21 → iv_G L xs vz d 158 30 [some (10, 182), some (0, l1), some (0, r), some (0, (μ 182 4))] [(10, 182)] μ P)
    (h2 : r ≠ 0 → (μ 182 4) ≠ 21 → (μ 182 4) = 22 → iv_G L xs vz d 158 30 [some (10, 182), some (0, l1), some (0, r), some (0, (μ 182 4))] [(10, 182)] μ P)
    (h3 : r ≠ 0 → (μ 182 4) ≠ 21 → (μ 182 4) ≠ 22 → (0 ≤ r ∧ r < 2) → P (some (0, r)) μ)
    (h4 : r ≠ 0 → (μ 182 4) ≠ 21 → (μ 182 4) ≠ 22 → ¬ (0 ≤ r ∧ r < 2) → False)
    : iv_G L xs vz d 158 5 [some (10, 182), some (0, l1), none, none] [(0, r)] μ P :=
  iv_ok hL (ρ := [l1, r]) (n := 4) (stops := [2, 30, 35, 44]) (lv := [some (10, (.nest 182 .nil)), some (0, (.tag 0 .nil)), none, none]) (st := [(0, (.tag 1 .nil))]) (I := []) (ls := sg_158_5_l) (by decide +kernel) hd (fun e he => by cases he) ⟨h0, h1, h2, h3, h4, trivial⟩
def sg_158_33_l : List iv_L := [([], [], 1, 158, 35, [some (10, (.nest 182 .nil)), some (0, (.tag 0 .nil)), some (0, (.tag 1 .nil)), some (0, (.tag 2 .nil))], [(0, (.tag 0 .nil)), (10, (.nest 182 .nil))])]
set_option maxRecDepth 100000 in
theorem sg_158_33 {L : Nat} {xs : Nat → Int32} {vz : Value} {d : Nat} {μ : iv_M} {P : iv_P} {l1 l2 l3 : Int} (hL : L ≤ 3072) (hd : 6 ≤ d)
    (h0 : iv_G L xs vz d 158 35 [some (10, 182), some (0, l1), some (0, l2), some (0, l3)] [(0, l1), (10, 182)] μ P)
    : iv_G L xs vz d 158 33 [some (10, 182), some (0, l1), some (0, l2), some (0, l3)] [] μ P :=
  iv_ok hL (ρ := [l1, l2, l3]) (n := 2) (stops := [2, 30, 35, 44]) (lv := [some (10, (.nest 182 .nil)), some (0, (.tag 0 .nil)), some (0, (.tag 1 .nil)), some (0, (.tag 2 .nil))]) (st := []) (I := []) (ls := sg_158_33_l) (by decide +kernel) hd (fun e he => by cases he) ⟨h0, trivial⟩
def sg_158_38_l : List iv_L := [([], [], 1, 158, 44, [some (10, (.nest 182 .nil)), some (0, (.tag 0 .nil)), some (0, (.tag 3 .nil)), some (0, (.tag 2 .nil))], [(0, (.tag 2 .nil)), (11, (.nest 184 .nil))])]
set_option maxRecDepth 100000 in
theorem sg_158_38 {L : Nat} {xs : Nat → Int32} {vz : Value} {d : Nat} {μ : iv_M} {P : iv_P} {l1 l2 l3 r : Int} (hL : L ≤ 3072) (hd : 6 ≤ d)
    (h0 : iv_G L xs vz d 158 44 [some (10, 182), some (0, l1), some (0, r), some (0, l3)] [(0, l3), (11, 184)] μ P)
    : iv_G L xs vz d 158 38 [some (10, 182), some (0, l1), some (0, l2), some (0, l3)] [(0, r)] μ P :=
  iv_ok hL (ρ := [l1, l2, l3, r]) (n := 3) (stops := [2, 30, 35, 44]) (lv := [some (10, (.nest 182 .nil)), some (0, (.tag 0 .nil)), some (0, (.tag 1 .nil)), some (0, (.tag 2 .nil))]) (st := [(0, (.tag 3 .nil))]) (I := []) (ls := sg_158_38_l) (by decide +kernel) hd (fun e he => by cases he) ⟨h0, trivial⟩
def sg_158_47_l : List iv_L := [([(6, (.tag 1 .nil), (.nest 2 .nil))], [], 2, 158, 48, [], [(0, (.tag 1 .nil))]), ([(7, (.tag 1 .nil), (.nest 2 .nil))], [], 0, 0, 0, [], [])]
set_option maxRecDepth 100000 in
theorem sg_158_47 {L : Nat} {xs : Nat → Int32} {vz : Value} {d : Nat} {μ : iv_M} {P : iv_P} {l1 l2 l3 : Int} (hL : L ≤ 3072) (hd : 6 ≤ d)
    (h0 : (0 ≤ l2 ∧ l2 < 2) → P (some (0, l2)) μ)
    (h1 : ¬ (0 ≤ l2 ∧ l2 < 2) → False)
    : iv_G L xs vz d 158 47 [some (10, 182), some (0, l1), some (0, l2), some (0, l3)] [] μ P :=
  iv_ok hL (ρ := [l1, l2, l3]) (n := 1) (stops := [2, 30, 35, 44]) (lv := [some (10, (.nest 182 .nil)), some (0, (.tag 0 .nil)), some (0, (.tag 1 .nil)), some (0, (.tag 2 .nil))]) (st := []) (I := []) (ls := sg_158_47_l) (by decide +kernel) hd (fun e he => by cases he) ⟨h0, h1, trivial⟩
def sg_157_0_l : List iv_L := [([(0, (.tag 0 .nil), (.nest 4 .nil)), (4, (.nest 0 (.append (.nest 182 .nil) (.nest 4 .nil))), (.nest 14 .nil))], [], 1, 157, 23, [some (10, (.nest 182 .nil)), some (0, (.tag 0 .nil)), none], [(10, (.nest 182 .nil))]), ([(3, (.tag 0 .nil), (.nest 4 .nil)), (4, (.nest 0 (.append (.nest 182 .nil) (.nest 4 .nil))), (.nest 14 .nil))], [], 2, 157, 21, [], [(0, (.nest 0 .nil))]), ([(5, (.nest 0 (.append (.nest 182 .nil) (.nest 4 .nil))), (.nest 14 .nil))], [], 1, 157, 11, [some (10, (.nest 182 .nil)), some (0, (.tag 0 .nil)), none], [(0, (.tag 0 .nil)), (10, (.nest 182 .nil))])]
set_option maxRecDepth 100000 in
theorem sg_157_0 {L : Nat} {xs : Nat → Int32} {vz : Value} {d : Nat} {μ : iv_M} {P : iv_P} {x0 : Int} (hL : L ≤ 3072) (hd : 6 ≤ d)
    (h0 : (μ 182 4) = 14 → x0 < 4 → iv_G L xs vz d 157 23 [some (10, 182), some (0, x0), none] [(10, 182)] μ P)
    (h1 : (μ 182 4) = 14 → x0 ≥ 4 → P (some (0, 0)) μ)
    (h2 : (μ 182 4) ≠ 14 → iv_G L xs vz d 157 11 [some (10, 182), some (0, x0), none] [(0, x0), (10, 182)] μ P)
    : iv_G L xs vz d 157 0 [some (10, 182), some (0, x0)] [] μ P :=
  iv_ok hL (ρ := [x0]) (n := 4) (stops := [11, 23, 30, 40]) (lv := [some (10, (.nest 182 .nil)), some (0, (.tag 0 .nil))]) (st := []) (I := []) (ls := sg_157_0_l) (by decide +kernel) hd (fun e he => by cases he) ⟨h0, h1, h2, trivial⟩
def sg_157_14_l : List iv_L := [([(6, (.tag 1 .nil), (.nest 2 .nil))], [], 2, 157, 14, [], [(0, (.tag 1 .nil))]), ([(7, (.tag 1 .nil), (.nest 2 .nil))], [], 0, 0, 0, [], [])]
set_option maxRecDepth 100000 in
theorem sg_157_14 {L : Nat} {xs : Nat → Int32} {vz : Value} {d : Nat} {μ : iv_M} {P : iv_P} {l1 r : Int} (hL : L ≤ 3072) (hd : 6 ≤ d)
    (h0 : (0 ≤ r ∧ r < 2) → P (some (0, r)) μ)
    (h1 : ¬ (0 ≤ r ∧ r < 2) → False)
    : iv_G L xs vz d 157 14 [some (10, 182), some (0, l1), none] [(0, r)] μ P :=
  iv_ok hL (ρ := [l1, r]) (n := 1) (stops := [11, 23, 30, 40]) (lv := [some (10, (.nest 182 .nil)), some (0, (.tag 0 .nil)), none]) (st := [(0, (.tag 1 .nil))]) (I := []) (ls := sg_157_14_l) (by decide +kernel) hd (fun e he => by cases he) ⟨h0, h1, trivial⟩
def sg_157_26_l : List iv_L := [([], [], 1, 157, 30, [some (10, (.nest 182 .nil)), some (0, (.tag 0 .nil)), none], [(0, (.tag 1 (.append (.tag 0 .nil) (.nest 1 .nil)))), (10, (.nest 182 .nil))])]
set_option maxRecDepth 100000 in
theorem sg_157_26 {L : Nat} {xs : Nat → Int32} {vz : Value} {d : Nat} {μ : iv_M} {P : iv_P} {l1 : Int} (hL : L ≤ 3072) (hd : 6 ≤ d)
    (h0 : iv_G L xs vz d 157 30 [some (10, 182), some (0, l1), none] [(0, (iv_w (l1 + 1))), (10, 182)] μ P)
    : iv_G L xs vz d 157 26 [some (10, 182), some (0, l1), none] [] μ P :=
  iv_ok hL (ρ := [l1]) (n := 3) (stops := [11, 23, 30, 40]) (lv := [some (10, (.nest 182 .nil)), some (0, (.tag 0 .nil)), none]) (st := []) (I := []) (ls := sg_157_26_l) (by decide +kernel) hd (fun e he => by cases he) ⟨h0, trivial⟩
def sg_157_33_l : List iv_L := [([], [], 1, 157, 40, [some (10, (.nest 182 .nil)), some (0, (.tag 0 .nil)), some (0, (.tag 1 .nil))], [(0, (.nest 14 .nil)), (11, (.nest 184 .nil))])]
set_option maxRecDepth 100000 in
theorem sg_157_33 {L : Nat} {xs : Nat → Int32} {vz : Value} {d : Nat} {μ : iv_M} {P : iv_P} {l1 r : Int} (hL : L ≤ 3072) (hd : 6 ≤ d)
    (h0 : iv_G L xs vz d 157 40 [some (10, 182), some (0, l1), some (0, r)] [(0, 14), (11, 184)] μ P)
    : iv_G L xs vz d 157 33 [some (10, 182), some (0, l1), none] [(0, r)] μ P :=
  iv_ok hL (ρ := [l1, r]) (n := 3) (stops := [11, 23, 30, 40]) (lv := [some (10, (.nest 182 .nil)), some (0, (.tag 0 .nil)), none]) (st := [(0, (.tag 1 .nil))]) (I := []) (ls := sg_157_33_l) (by decide +kernel) hd (fun e he => by cases he) ⟨h0, trivial⟩
def sg_157_43_l : List iv_L := [([(6, (.tag 1 .nil), (.nest 2 .nil))], [], 2, 157, 44, [], [(0, (.tag 1 .nil))]), ([(7, (.tag 1 .nil), (.nest 2 .nil))], [], 0, 0, 0, [], [])]
set_option maxRecDepth 100000 in
theorem sg_157_43 {L : Nat} {xs : Nat → Int32} {vz : Value} {d : Nat} {μ : iv_M} {P : iv_P} {l1 l2 : Int} (hL : L ≤ 3072) (hd : 6 ≤ d)
    (h0 : (0 ≤ l2 ∧ l2 < 2) → P (some (0, l2)) μ)
    (h1 : ¬ (0 ≤ l2 ∧ l2 < 2) → False)
    : iv_G L xs vz d 157 43 [some (10, 182), some (0, l1), some (0, l2)] [] μ P :=
  iv_ok hL (ρ := [l1, l2]) (n := 1) (stops := [11, 23, 30, 40]) (lv := [some (10, (.nest 182 .nil)), some (0, (.tag 0 .nil)), some (0, (.tag 1 .nil))]) (st := []) (I := []) (ls := sg_157_43_l) (by decide +kernel) hd (fun e he => by cases he) ⟨h0, h1, trivial⟩
def sg_156_0_l : List iv_L := [([], [], 1, 156, 2, [some (10, (.nest 182 .nil)), some (0, (.tag 0 .nil)), none, none], [(0, (.tag 0 .nil)), (10, (.nest 182 .nil))])]
set_option maxRecDepth 100000 in
theorem sg_156_0 {L : Nat} {xs : Nat → Int32} {vz : Value} {d : Nat} {μ : iv_M} {P : iv_P} {x0 : Int} (hL : L ≤ 3072) (hd : 6 ≤ d)
    (h0 : iv_G L xs vz d 156 2 [some (10, 182), some (0, x0), none, none] [(0, x0), (10, 182)] μ P)
    : iv_G L xs vz d 156 0 [some (10, 182), some (0, x0)] [] μ P :=
  iv_ok hL (ρ := [x0]) (n := 2) (stops := [2, 8, 29, 34, 44]) (lv := [some (10, (.nest 182 .nil)), some (0, (.tag 0 .nil))]) (st := []) (I := []) (ls := sg_156_0_l) (by decide +kernel) hd (fun e he => by cases he) ⟨h0, trivial⟩
def sg_156_5_l : List iv_L := [([], [], 1, 156, 8, [some (10, (.nest 182 .nil)), some (0, (.tag 0 .nil)), some (0, (.tag 1 .nil)), some (0, (.nest 0 .nil))], [])]
set_option maxRecDepth 100000 in
theorem sg_156_5 {L : Nat} {xs : Nat → Int32} {vz : Value} {d : Nat} {μ : iv_M} {P : iv_P} {l1 r : Int} (hL : L ≤ 3072) (hd : 6 ≤ d)
    (h0 : iv_G L xs vz d 156 8 [some (10, 182), some (0, l1), some (0, r), some (0, 0)] [] μ P)
    : iv_G L xs vz d 156 5 [some (10, 182), some (0, l1), none, none] [(0, r)] μ P :=
  iv_ok hL (ρ := [l1, r]) (n := 2) (stops := [2, 8, 29, 34, 44]) (lv := [some (10, (.nest 182 .nil)), some (0, (.tag 0 .nil)), none, none]) (st := [(0, (.tag 1 .nil))]) (I := []) (ls := sg_156_5_l) (by decide +kernel) hd (fun e he => by cases he) ⟨h0, trivial⟩
def sg_156_8_l : List iv_L := [([(6, (.tag 1 .nil), (.nest 2 .nil)), (3, (.tag 2 .nil), (.nest 160 .nil)), (3, (.tag 2 .nil), (.nest 0 .nil))], [], 2, 156, 54, [], [(0, (.tag 1 .nil))]), ([(7, (.tag 1 .nil), (.nest 2 .nil)), (3, (.tag 2 .nil), (.nest 160 .nil)), (3, (.tag 2 .nil), (.nest 0 .nil))], [], 0, 0, 0, [], []), ([(4, (.tag 1 .nil), (.nest 0 .nil)), (0, (.tag 2 .nil), (.nest 160 .nil)), (3, (.tag 2 .nil), (.nest 0 .nil))], [], 2, 156, 54, [], [(0, (.tag 1 .nil))]), ([(6, (.tag 1 .nil), (.nest 2 .nil)), (5, (.nest 0 (.append (.nest 182 .nil) (.nest 4 .nil))), (.nest 13 .nil)), (5, (.tag 1 .nil), (.nest 0 .nil)), (0, (.tag 2 .nil), (.nest 160 .nil)), (3, (.tag 2 .nil), (.nest 0 .nil))], [], 2, 156, 54, [], [(0, (.tag 1 .nil))]), ([(7, (.tag 1 .nil), (.nest 2 .nil)), (5, (.nest 0 (.append (.nest 182 .nil) (.nest 4 .nil))), (.nest 13 .nil)), (5, (.tag 1 .nil), (.nest 0 .nil)), (0, (.tag 2 .nil), (.nest 160 .nil)), (3, (.tag 2 .nil), (.nest 0 .nil))], [], 0, 0, 0, [], []), ([(4, (.nest 0 (.append (.nest 182 .nil) (.nest 4 .nil))), (.nest 13 .nil)), (5, (.tag 1 .nil), (.nest 0 .nil)), (0, (.tag 2 .nil), (.nest 160 .nil)), (3, (.tag 2 .nil), (.nest 0 .nil))], [], 1, 156, 29, [some (10, (.nest 182 .nil)), some (0, (.tag 0 .nil)), some (0, (.tag 1 .nil)), some (0, (.tag 2 .nil))], [(10, (.nest 182 .nil))])]
set_option maxRecDepth 100000 in
theorem sg_156_8 {L : Nat} {xs : Nat → Int32} {vz : Value} {d : Nat} {μ : iv_M} {P : iv_P} {l1 l2 l3 : Int} (hL : L ≤ 3072) (hd : 6 ≤ d) (f0 : l3 ≥ 0)
    (h0 : l3 ≥ 160 → (0 ≤ l2 ∧ l2 < 2) → P (some (0, l2)) μ)
    (h1 : l3 ≥ 160 → ¬ (0 ≤ l2 ∧ l2 < 2) → False)
    (h2 : l3 < 160 → l2 = 0 → P (some (0, l2)) μ)
    (h3 : l3 < 160 → l2 ≠ 0 → (μ 182 4) ≠ 13 → (0 ≤ l2 ∧ l2 < 2) → P (some (0, l2)) μ)
    (h4 : l3 < 160 → l2 ≠ 0 → (μ 182 4) ≠ 13 → ¬ (0 ≤ l2 ∧ l2 < 2) → False)
    (h5 : l3 < 160 → l2 ≠ 0 → (μ 182 4) = 13 → iv_G L xs vz d 156 29 [some (10, 182), some (0, l1), some (0, l2), some (0, l3)] [(10, 182)] μ P)
    : iv_G L xs vz d 156 8 [some (10, 182), some (0, l1), some (0, l2), some (0, l3)] [] μ P :=
  iv_ok hL (ρ := [l1, l2, l3]) (n := 4) (stops := [2, 8, 29, 34, 44]) (lv := [some (10, (.nest 182 .nil)), some (0, (.tag 0 .nil)), some (0, (.tag 1 .nil)), some (0, (.tag 2 .nil))]) (st := []) (I := [(3, (.tag 2 .nil), (.nest 0 .nil))]) (ls := sg_156_8_l) (by decide +kernel) hd (fun e he => by rcases List.mem_cons.mp he with rfl | he; exact f0; cases he) ⟨(fun _ => h0), (fun _ => h1), (fun _ => h2), (fun _ => h3), (fun _ => h4), (fun _ => h5), trivial⟩
def sg_156_32_l : List iv_L := [([], [], 1, 156, 34, [some (10, (.nest 182 .nil)), some (0, (.tag 0 .nil)), some (0, (.tag 1 .nil)), some (0, (.tag 2 .nil))], [(0, (.tag 0 .nil)), (10, (.nest 182 .nil))])]
set_option maxRecDepth 100000 in
theorem sg_156_32 {L : Nat} {xs : Nat → Int32} {vz : Value} {d : Nat} {μ : iv_M} {P : iv_P} {l1 l2 l3 : Int} (hL : L ≤ 3072) (hd : 6 ≤ d)
    (h0 : iv_G L xs vz d 156 34 [some (10, 182), some (0, l1), some (0, l2), some (0, l3)] [(0, l1), (10, 182)] μ P)
    : iv_G L xs vz d 156 32 [some (10, 182), some (0, l1), some (0, l2), some (0, l3)] [] μ P :=
  iv_ok hL (ρ := [l1, l2, l3]) (n := 2) (stops := [2, 8, 29, 34, 44]) (lv := [some (10, (.nest 182 .nil)), some (0, (.tag 0 .nil)), some (0, (.tag 1 .nil)), some (0, (.tag 2 .nil))]) (st := []) (I := []) (ls := sg_156_32_l) (by decide +kernel) hd (fun e he => by cases he) ⟨h0, trivial⟩
def sg_156_37_l : List iv_L := [([], [], 1, 156, 44, [some (10, (.nest 182 .nil)), some (0, (.tag 0 .nil)), some (0, (.tag 3 .nil)), some (0, (.tag 2 .nil))], [(0, (.nest 13 .nil)), (11, (.nest 184 .nil))])]
set_option maxRecDepth 100000 in
theorem sg_156_37 {L : Nat} {xs : Nat → Int32} {vz : Value} {d : Nat} {μ : iv_M} {P : iv_P} {l1 l2 l3 r : Int} (hL : L ≤ 3072) (hd : 6 ≤ d)
    (h0 : iv_G L xs vz d 156 44 [some (10, 182), some (0, l1), some (0, r), some (0, l3)] [(0, 13), (11, 184)] μ P)
    : iv_G L xs vz d 156 37 [some (10, 182), some (0, l1), some (0, l2), some (0, l3)] [(0, r)] μ P :=
  iv_ok hL (ρ := [l1, l2, l3, r]) (n := 3) (stops := [2, 8, 29, 34, 44]) (lv := [some (10, (.nest 182 .nil)), some (0, (.tag 0 .nil)), some (0, (.tag 1 .nil)), some (0, (.tag 2 .nil))]) (st := [(0, (.tag 3 .nil))]) (I := []) (ls := sg_156_37_l) (by decide +kernel) hd (fun e he => by cases he) ⟨h0, trivial⟩
def sg_156_47_l : List iv_L := [([], [], 1, 156, 8, [some (10, (.nest 182 .nil)), some (0, (.tag 0 .nil)), some (0, (.tag 1 .nil)), some (0, (.tag 1 (.append (.tag 2 .nil) (.nest 1 .nil))))], [])]
set_option maxRecDepth 100000 in
theorem sg_156_47 {L : Nat} {xs : Nat → Int32} {vz : Value} {d : Nat} {μ : iv_M} {P : iv_P} {l1 l2 l3 : Int} (hL : L ≤ 3072) (hd : 6 ≤ d)
    (h0 : iv_G L xs vz d 156 8 [some (10, 182), some (0, l1), some (0, l2), some (0, (iv_w (l3 + 1)))] [] μ P)
    : iv_G L xs vz d 156 47 [some (10, 182), some (0, l1), some (0, l2), some (0, l3)] [] μ P :=
  iv_ok hL (ρ := [l1, l2, l3]) (n := 2) (stops := [2, 8, 29, 34, 44]) (lv := [some (10, (.nest 182 .nil)), some (0, (.tag 0 .nil)), some (0, (.tag 1 .nil)), some (0, (.tag 2 .nil))]) (st := []) (I := []) (ls := sg_156_47_l) (by decide +kernel) hd (fun e he => by cases he) ⟨h0, trivial⟩
def sg_155_0_l : List iv_L := [([], [], 1, 155, 2, [some (10, (.nest 182 .nil)), some (0, (.tag 0 .nil)), none, none], [(0, (.tag 0 .nil)), (10, (.nest 182 .nil))])]
set_option maxRecDepth 100000 in
theorem sg_155_0 {L : Nat} {xs : Nat → Int32} {vz : Value} {d : Nat} {μ : iv_M} {P : iv_P} {x0 : Int} (hL : L ≤ 3072) (hd : 6 ≤ d)
    (h0 : iv_G L xs vz d 155 2 [some (10, 182), some (0, x0), none, none] [(0, x0), (10, 182)] μ P)
    : iv_G L xs vz d 155 0 [some (10, 182), some (0, x0)] [] μ P :=
  iv_ok hL (ρ := [x0]) (n := 2) (stops := [2, 8, 29, 34, 44]) (lv := [some (10, (.nest 182 .nil)), some (0, (.tag 0 .nil))]) (st := []) (I := []) (ls := sg_155_0_l) (by decide +kernel) hd (fun e he => by cases he) ⟨h0, trivial⟩
def sg_155_5_l : List iv_L := [([], [], 1, 155, 8, [some (10, (.nest 182 .nil)), some (0, (.tag 0 .nil)), some (0, (.tag 1 .nil)), some (0, (.nest 0 .nil))], [])]
set_option maxRecDepth 100000 in
theorem sg_155_5 {L : Nat} {xs : Nat → Int32} {vz : Value} {d : Nat} {μ : iv_M} {P : iv_P} {l1 r : Int} (hL : L ≤ 3072) (hd : 6 ≤ d)
    (h0 : iv_G L xs vz d 155 8 [some (10, 182), some (0, l1), some (0, r), some (0, 0)] [] μ P)
    : iv_G L xs vz d 155 5 [some (10, 182), some (0, l1), none, none] [(0, r)] μ P :=
  iv_ok hL (ρ := [l1, r]) (n := 2) (stops := [2, 8, 29, 34, 44]) (lv := [some (10, (.nest 182 .nil)), some (0, (.tag 0 .nil)), none, none]) (st := [(0, (.tag 1 .nil))]) (I := []) (ls := sg_155_5_l) (by decide +kernel) hd (fun e he => by cases he) ⟨h0, trivial⟩
def sg_155_8_l : List iv_L := [([(6, (.tag 1 .nil), (.nest 2 .nil)), (3, (.tag 2 .nil), (.nest 160 .nil)), (3, (.tag 2 .nil), (.nest 0 .nil))], [], 2, 155, 54, [], [(0, (.tag 1 .nil))]), ([(7, (.tag 1 .nil), (.nest 2 .nil)), (3, (.tag 2 .nil), (.nest 160 .nil)), (3, (.tag 2 .nil), (.nest 0 .nil))], [], 0, 0, 0, [], []), ([(4, (.tag 1 .nil), (.nest 0 .nil)), (0, (.tag 2 .nil), (.nest 160 .nil)), (3, (.tag 2 .nil), (.nest 0 .nil))], [], 2, 155, 54, [], [(0, (.tag 1 .nil))]), ([(6, (.tag 1 .nil), (.nest 2 .nil)), (5, (.nest 0 (.append (.nest 182 .nil) (.nest 4 .nil))), (.nest 12 .nil)), (5, (.tag 1 .nil), (.nest 0 .nil)), (0, (.tag 2 .nil), (.nest 160 .nil)), (3, (.tag 2 .nil), (.nest 0 .nil))], [], 2, 155, 54, [], [(0, (.tag 1 .nil))]), ([(7, (.tag 1 .nil), (.nest 2 .nil)), (5, (.nest 0 (.append (.nest 182 .nil) (.nest 4 .nil))), (.nest 12 .nil)), (5, (.tag 1 .nil), (.nest 0 .nil)), (0, (.tag 2 .nil), (.nest 160 .nil)), (3, (.tag 2 .nil), (.nest 0 .nil))], [], 0, 0, 0, [], []), ([(4, (.nest 0 (.append (.nest 182 .nil) (.nest 4 .nil))), (.nest 12 .nil)), (5, (.tag 1 .nil), (.nest 0 .nil)), (0, (.tag 2 .nil), (.nest 160 .nil)), (3, (.tag 2 .nil), (.nest 0 .nil))], [], 1, 155, 29, [some (10, (.nest 182 .nil)), some (0, (.tag 0 .nil)), some (0, (.tag 1 .nil)), some (0, (.tag 2 .nil))], [(10, (.nest 182 .nil))])]
set_option maxRecDepth 100000 in
theorem sg_155_8 {L : Nat} {xs : Nat → Int32} {vz : Value} {d : Nat} {μ : iv_M} {P : iv_P} {l1 l2 l3 : Int} (hL : L ≤ 3072) (hd : 6 ≤ d) (f0 : l3 ≥ 0)
    (h0 : l3 ≥ 160 → (0 ≤ l2 ∧ l2 < 2) → P (some (0, l2)) μ)
    (h1 : l3 ≥ 160 → ¬ (0 ≤ l2 ∧ l2 < 2) → False)
    (h2 : l3 < 160 → l2 = 0 → P (some (0, l2)) μ)
    (h3 : l3 < 160 → l2 ≠ 0 → (μ 182 4) ≠ 12 → (0 ≤ l2 ∧ l2 < 2) → P (some (0, l2)) μ)
    (h4 : l3 < 160 → l2 ≠ 0 → (μ 182 4) ≠ 12 → ¬ (0 ≤ l2 ∧ l2 < 2) → False)
    (h5 : l3 < 160 → l2 ≠ 0 → (μ 182 4) = 12 → iv_G L xs vz d 155 29 [some (10, 182), some (0, l1), some (0, l2), some (0, l3)] [(10, 182)] μ P)
    : iv_G L xs vz d 155 8 [some (10, 182), some (0, l1), some (0, l2), some (0, l3)] [] μ P :=
  iv_ok hL (ρ := [l1, l2, l3]) (n := 4) (stops := [2, 8, 29, 34, 44]) (lv := [some (10, (.nest 182 .nil)), some (0, (.tag 0 .nil)), some (0, (.tag 1 .nil)), some (0, (.tag 2 .nil))]) (st := []) (I := [(3, (.tag 2 .nil), (.nest 0 .nil))]) (ls := sg_155_8_l) (by decide +kernel) hd (fun e he => by rcases List.mem_cons.mp he with rfl | he; exact f0; cases he) ⟨(fun _ => h0), (fun _ => h1), (fun _ => h2), (fun _ => h3), (fun _ => h4), (fun _ => h5), trivial⟩
def sg_155_32_l : List iv_L := [([], [], 1, 155, 34, [some (10, (.nest 182 .nil)), some (0, (.tag 0 .nil)), some (0, (.tag 1 .nil)), some (0, (.tag 2 .nil))], [(0, (.tag 0 .nil)), (10, (.nest 182 .nil))])]
set_option maxRecDepth 100000 in
theorem sg_155_32 {L : Nat} {xs : Nat → Int32} {vz : Value} {d : Nat} {μ : iv_M} {P : iv_P} {l1 l2 l3 : Int} (hL : L ≤ 3072) (hd : 6 ≤ d)
    (h0 : iv_G L xs vz d 155 34 [some (10, 182), some (0, l1), some (0, l2), some (0, l3)] [(0, l1), (10, 182)] μ P)
    : iv_G L xs vz d 155 32 [some (10, 182), some (0, l1), some (0, l2), some (0, l3)] [] μ P :=
  iv_ok hL (ρ := [l1, l2, l3]) (n := 2) (stops := [2, 8, 29, 34, 44]) (lv := [some (10, (.nest 182 .nil)), some (0, (.tag 0 .nil)), some (0, (.tag 1 .nil)), some (0, (.tag 2 .nil))]) (st := []) (I := []) (ls := sg_155_32_l) (by decide +kernel) hd (fun e he => by cases he) ⟨h0, trivial⟩
def sg_155_37_l : List iv_L := [([], [], 1, 155, 44, [some (10, (.nest 182 .nil)), some (0, (.tag 0 .nil)), some (0, (.tag 3 .nil)), some (0, (.tag 2 .nil))], [(0, (.nest 12 .nil)), (11, (.nest 184 .nil))])]
set_option maxRecDepth 100000 in
theorem sg_155_37 {L : Nat} {xs : Nat → Int32} {vz : Value} {d : Nat} {μ : iv_M} {P : iv_P} {l1 l2 l3 r : Int} (hL : L ≤ 3072) (hd : 6 ≤ d)
    (h0 : iv_G L xs vz d 155 44 [some (10, 182), some (0, l1), some (0, r), some (0, l3)] [(0, 12), (11, 184)] μ P)
    : iv_G L xs vz d 155 37 [some (10, 182), some (0, l1), some (0, l2), some (0, l3)] [(0, r)] μ P :=
  iv_ok hL (ρ := [l1, l2, l3, r]) (n := 3) (stops := [2, 8, 29, 34, 44]) (lv := [some (10, (.nest 182 .nil)), some (0, (.tag 0 .nil)), some (0, (.tag 1 .nil)), some (0, (.tag 2 .nil))]) (st := [(0, (.tag 3 .nil))]) (I := []) (ls := sg_155_37_l) (by decide +kernel) hd (fun e he => by cases he) ⟨h0, trivial⟩
def sg_155_47_l : List iv_L := [([], [], 1, 155, 8, [some (10, (.nest 182 .nil)), some (0, (.tag 0 .nil)), some (0, (.tag 1 .nil)), some (0, (.tag 1 (.append (.tag 2 .nil) (.nest 1 .nil))))], [])]
set_option maxRecDepth 100000 in
theorem sg_155_47 {L : Nat} {xs : Nat → Int32} {vz : Value} {d : Nat} {μ : iv_M} {P : iv_P} {l1 l2 l3 : Int} (hL : L ≤ 3072) (hd : 6 ≤ d)
    (h0 : iv_G L xs vz d 155 8 [some (10, 182), some (0, l1), some (0, l2), some (0, (iv_w (l3 + 1)))] [] μ P)
    : iv_G L xs vz d 155 47 [some (10, 182), some (0, l1), some (0, l2), some (0, l3)] [] μ P :=
  iv_ok hL (ρ := [l1, l2, l3]) (n := 2) (stops := [2, 8, 29, 34, 44]) (lv := [some (10, (.nest 182 .nil)), some (0, (.tag 0 .nil)), some (0, (.tag 1 .nil)), some (0, (.tag 2 .nil))]) (st := []) (I := []) (ls := sg_155_47_l) (by decide +kernel) hd (fun e he => by cases he) ⟨h0, trivial⟩
def sg_161_0_l : List iv_L := [([(3, (.nest 0 (.append (.tag 0 .nil) (.nest 3 .nil))), (.nest 160 .nil))], [], 2, 161, 30, [], []), ([(6, (.nest 0 (.append (.tag 0 .nil) (.nest 3 .nil))), (.nest 160 .nil)), (0, (.nest 0 (.append (.tag 0 .nil) (.nest 3 .nil))), (.nest 160 .nil))], [[(.tag 41 (.append (.tag 0 .nil) (.nest 1 .nil))), (.nest 0 (.append (.tag 0 .nil) (.nest 3 .nil))), (.tag 1 .nil)], [(.tag 0 .nil), (.nest 3 .nil), (.tag 1 (.append (.nest 1 (.append (.tag 0 .nil) (.nest 3 .nil))) (.nest 1 .nil)))]], 2, 161, 30, [], []), ([(7, (.nest 0 (.append (.tag 0 .nil) (.nest 3 .nil))), (.nest 160 .nil)), (0, (.nest 0 (.append (.tag 0 .nil) (.nest 3 .nil))), (.nest 160 .nil))], [], 0, 0, 0, [], [])]
set_option maxRecDepth 100000 in
theorem sg_161_0 {L : Nat} {xs : Nat → Int32} {vz : Value} {d : Nat} {μ : iv_M} {P : iv_P} {p x0 : Int} (hL : L ≤ 3072) (hd : 6 ≤ d)
    (h0 : (μ p 3) ≥ 160 → P none μ)
    (h1 : (μ p 3) < 160 → (0 ≤ (μ p 3) ∧ (μ p 3) < 160) → P none (iv_upd (iv_upd μ (p + 1) (μ p 3) x0) p 3 (iv_w (((iv_upd μ (p + 1) (μ p 3) x0) p 3) + 1))))
    (h2 : (μ p 3) < 160 → ¬ (0 ≤ (μ p 3) ∧ (μ p 3) < 160) → False)
    : iv_G L xs vz d 161 0 [some (11, p), some (0, x0)] [] μ P :=
  iv_ok hL (ρ := [p, x0]) (n := 5) (stops := []) (lv := [some (11, (.tag 0 .nil)), some (0, (.tag 1 .nil))]) (st := []) (I := []) (ls := sg_161_0_l) (by decide +kernel) hd (fun e he => by cases he) ⟨h0, h1, h2, trivial⟩
def sg_162_0_l : List iv_L := [([(3, (.nest 0 (.append (.tag 0 .nil) (.nest 3 .nil))), (.nest 160 .nil))], [], 2, 162, 7, [], []), ([(6, (.nest 0 (.append (.tag 0 .nil) (.nest 3 .nil))), (.nest 160 .nil)), (0, (.nest 0 (.append (.tag 0 .nil) (.nest 3 .nil))), (.nest 160 .nil))], [[(.tag 41 (.append (.tag 0 .nil) (.nest 1 .nil))), (.nest 0 (.append (.tag 0 .nil) (.nest 3 .nil))), (.tag 2 (.append (.nest (-1) .nil) (.tag 1 .nil)))], [(.tag 0 .nil), (.nest 3 .nil), (.tag 1 (.append (.nest 1 (.append (.tag 0 .nil) (.nest 3 .nil))) (.nest 1 .nil)))]], 2, 162, 7, [], []), ([(7, (.nest 0 (.append (.tag 0 .nil) (.nest 3 .nil))), (.nest 160 .nil)), (0, (.nest 0 (.append (.tag 0 .nil) (.nest 3 .nil))), (.nest 160 .nil))], [], 0, 0, 0, [], [])]
set_option maxRecDepth 100000 in
theorem sg_162_0 {L : Nat} {xs : Nat → Int32} {vz : Value} {d : Nat} {μ : iv_M} {P : iv_P} {p x0 : Int} (hL : L ≤ 3072) (hd : 6 ≤ d)
    (h0 : (μ p 3) ≥ 160 → P none μ)
    (h1 : (μ p 3) < 160 → (0 ≤ (μ p 3) ∧ (μ p 3) < 160) → P none (iv_upd (iv_upd μ (p + 1) (μ p 3) (iv_w ((-1) - x0))) p 3 (iv_w (((iv_upd μ (p + 1) (μ p 3) (iv_w ((-1) - x0))) p 3) + 1))))
    (h2 : (μ p 3) < 160 → ¬ (0 ≤ (μ p 3) ∧ (μ p 3) < 160) → False)
    : iv_G L xs vz d 162 0 [some (11, p), some (0, x0)] [] μ P :=
  iv_ok hL (ρ := [p, x0]) (n := 5) (stops := []) (lv := [some (11, (.tag 0 .nil)), some (0, (.tag 1 .nil))]) (st := []) (I := []) (ls := sg_162_0_l) (by decide +kernel) hd (fun e he => by cases he) ⟨h0, h1, h2, trivial⟩
def sg_163_0_l : List iv_L := [([(0, (.tag 1 .nil), (.nest 0 .nil))], [], 2, 163, 19, [], []), ([(2, (.tag 1 .nil), (.nest 2 .nil)), (3, (.tag 1 .nil), (.nest 0 .nil))], [], 2, 163, 19, [], []), ([(1, (.tag 1 .nil), (.nest 2 .nil)), (3, (.tag 1 .nil), (.nest 0 .nil))], [[(.tag 41 (.append (.tag 0 .nil) (.nest 2 .nil))), (.tag 1 .nil), (.nest 0 (.append (.tag 0 .nil) (.nest 3 .nil)))]], 2, 163, 19, [], [])]
set_option maxRecDepth 100000 in
theorem sg_163_0 {L : Nat} {xs : Nat → Int32} {vz : Value} {d : Nat} {μ : iv_M} {P : iv_P} {p x0 : Int} (hL : L ≤ 3072) (hd : 6 ≤ d)
    (h0 : x0 < 0 → P none μ)
    (h1 : x0 ≥ 0 → x0 > 2 → P none μ)
    (h2 : x0 ≥ 0 → x0 ≤ 2 → P none (iv_upd μ (p + 2) x0 (μ p 3)))
    : iv_G L xs vz d 163 0 [some (11, p), some (0, x0)] [] μ P :=
  iv_ok hL (ρ := [p, x0]) (n := 5) (stops := []) (lv := [some (11, (.tag 0 .nil)), some (0, (.tag 1 .nil))]) (st := []) (I := []) (ls := sg_163_0_l) (by decide +kernel) hd (fun e he => by cases he) ⟨h0, h1, h2, trivial⟩
def sg_132_0_l : List iv_L := [([], [[(.tag 0 .nil), (.nest 0 .nil), (.nest 1 .nil)], [(.tag 0 .nil), (.nest 3 .nil), (.nest 0 .nil)]], 2, 132, 10, [], [])]
set_option maxRecDepth 100000 in
theorem sg_132_0 {L : Nat} {xs : Nat → Int32} {vz : Value} {d : Nat} {μ : iv_M} {P : iv_P} {p : Int} (hL : L ≤ 3072) (hd : 6 ≤ d)
    (h0 : P none (iv_upd (iv_upd μ p 0 1) p 3 0))
    : iv_G L xs vz d 132 0 [some (11, p)] [] μ P :=
  iv_ok hL (ρ := [p]) (n := 3) (stops := []) (lv := [some (11, (.tag 0 .nil))]) (st := []) (I := []) (ls := sg_132_0_l) (by decide +kernel) hd (fun e he => by cases he) ⟨h0, trivial⟩
def sg_164_0_l : List iv_L := [([(6, (.nest 0 (.append (.tag 1 .nil) (.nest 0 .nil))), (.nest 2 .nil))], [[(.tag 0 .nil), (.nest 0 .nil), (.nest 0 (.append (.tag 1 .nil) (.nest 0 .nil)))], [(.tag 0 .nil), (.nest 3 .nil), (.nest 1 (.append (.tag 1 .nil) (.nest 3 .nil)))], [(.tag 41 (.append (.tag 1 .nil) (.nest 1 .nil))), (.nest 0 .nil), (.tag 41 (.append (.tag 0 .nil) (.nest 1 .nil))), (.nest 0 .nil), (.nest 160 .nil)], [(.tag 41 (.append (.tag 1 .nil) (.nest 2 .nil))), (.nest 0 .nil), (.tag 41 (.append (.tag 0 .nil) (.nest 2 .nil))), (.nest 0 .nil), (.nest 3 .nil)]], 2, 164, 46, [], []), ([(7, (.nest 0 (.append (.tag 1 .nil) (.nest 0 .nil))), (.nest 2 .nil))], [], 0, 0, 0, [], [])]
set_option maxRecDepth 100000 in
theorem sg_164_0 {L : Nat} {xs : Nat → Int32} {vz : Value} {d : Nat} {μ : iv_M} {P : iv_P} {p q0 : Int} (hL : L ≤ 3072) (hd : 6 ≤ d)
    (h0 : (0 ≤ (μ q0 0) ∧ (μ q0 0) < 2) → P none (iv_cpy (iv_cpy (iv_upd (iv_upd μ p 0 (μ q0 0)) p 3 ((iv_upd μ p 0 (μ q0 0)) q0 3)) (q0 + 1) 0 (p + 1) 0 160) (q0 + 2) 0 (p + 2) 0 3))
    (h1 : ¬ (0 ≤ (μ q0 0) ∧ (μ q0 0) < 2) → False)
    : iv_G L xs vz d 164 0 [some (11, p), some (11, q0)] [] μ P :=
  iv_ok hL (ρ := [p, q0]) (n := 5) (stops := []) (lv := [some (11, (.tag 0 .nil)), some (11, (.tag 1 .nil))]) (st := []) (I := []) (ls := sg_164_0_l) (by decide +kernel) hd (fun e he => by cases he) ⟨h0, h1, trivial⟩
def sg_153_0_l : List iv_L := [([], [], 1, 153, 2, [some (10, (.nest 182 .nil)), some (0, (.tag 0 .nil)), some (0, (.tag 1 .nil)), none], [(0, (.tag 0 .nil)), (10, (.nest 182 .nil))])]
set_option maxRecDepth 100000 in
theorem sg_153_0 {L : Nat} {xs : Nat → Int32} {vz : Value} {d : Nat} {μ : iv_M} {P : iv_P} {x0 x1 : Int} (hL : L ≤ 3072) (hd : 6 ≤ d)
    (h0 : iv_G L xs vz d 153 2 [some (10, 182), some (0, x0), some (0, x1), none] [(0, x0), (10, 182)] μ P)
    : iv_G L xs vz d 153 0 [some (10, 182), some (0, x0), some (0, x1)] [] μ P :=
  iv_ok hL (ρ := [x0, x1]) (n := 2) (stops := [2, 10, 19, 36]) (lv := [some (10, (.nest 182 .nil)), some (0, (.tag 0 .nil)), some (0, (.tag 1 .nil))]) (st := []) (I := []) (ls := sg_153_0_l) (by decide +kernel) hd (fun e he => by cases he) ⟨h0, trivial⟩
def sg_153_5_l : List iv_L := [([(4, (.tag 2 .nil), (.nest 0 .nil))], [], 1, 153, 36, [some (10, (.nest 182 .nil)), some (0, (.tag 0 .nil)), some (0, (.tag 1 .nil)), some (0, (.nest 0 .nil))], [(0, (.tag 1 .nil)), (11, (.nest 184 .nil))]), ([(5, (.tag 2 .nil), (.nest 0 .nil))], [], 1, 153, 10, [some (10, (.nest 182 .nil)), some (0, (.tag 0 .nil)), some (0, (.tag 1 .nil)), none], [(0, (.nest 0 .nil)), (10, (.nest 182 .nil))])]
set_option maxRecDepth 100000 in
theorem sg_153_5 {L : Nat} {xs : Nat → Int32} {vz : Value} {d : Nat} {μ : iv_M} {P : iv_P} {l1 l2 r : Int} (hL : L ≤ 3072) (hd : 6 ≤ d)
    (h0 : r = 0 → iv_G L xs vz d 153 36 [some (10, 182), some (0, l1), some (0, l2), some (0, 0)] [(0, l2), (11, 184)] μ P)
    (h1 : r ≠ 0 → iv_G L xs vz d 153 10 [some (10, 182), some (0, l1), some (0, l2), none] [(0, 0), (10, 182)] μ P)
    : iv_G L xs vz d 153 5 [some (10, 182), some (0, l1), some (0, l2), none] [(0, r)] μ P :=
  iv_ok hL (ρ := [l1, l2, r]) (n := 3) (stops := [2, 10, 19, 36]) (lv := [some (10, (.nest 182 .nil)), some (0, (.tag 0 .nil)), some (0, (.tag 1 .nil)), none]) (st := [(0, (.tag 2 .nil))]) (I := []) (ls := sg_153_5_l) (by decide +kernel) hd (fun e he => by cases he) ⟨h0, h1, trivial⟩
def sg_153_13_l : List iv_L := [([(4, (.tag 2 .nil), (.nest 0 .nil))], [], 1, 153, 36, [some (10, (.nest 182 .nil)), some (0, (.tag 0 .nil)), some (0, (.tag 1 .nil)), some (0, (.nest 0 .nil))], [(0, (.tag 1 .nil)), (11, (.nest 184 .nil))]), ([(5, (.tag 2 .nil), (.nest 0 .nil))], [], 1, 153, 19, [some (10, (.nest 182 .nil)), some (0, (.tag 0 .nil)), some (0, (.tag 1 .nil)), none], [(0, (.nest 18 .nil)), (10, (.nest 182 .nil))])]
set_option maxRecDepth 100000 in
theorem sg_153_13 {L : Nat} {xs : Nat → Int32} {vz : Value} {d : Nat} {μ : iv_M} {P : iv_P} {l1 l2 r : Int} (hL : L ≤ 3072) (hd : 6 ≤ d)
    (h0 : r = 0 → iv_G L xs vz d 153 36 [some (10, 182), some (0, l1), some (0, l2), some (0, 0)] [(0, l2), (11, 184)] μ P)
    (h1 : r ≠ 0 → iv_G L xs vz d 153 19 [some (10, 182), some (0, l1), some (0, l2), none] [(0, 18), (10, 182)] μ P)
    : iv_G L xs vz d 153 13 [some (10, 182), some (0, l1), some (0, l2), none] [(0, r)] μ P :=
  iv_ok hL (ρ := [l1, l2, r]) (n := 3) (stops := [2, 10, 19, 36]) (lv := [some (10, (.nest 182 .nil)), some (0, (.tag 0 .nil)), some (0, (.tag 1 .nil)), none]) (st := [(0, (.tag 2 .nil))]) (I := []) (ls := sg_153_13_l) (by decide +kernel) hd (fun e he => by cases he) ⟨h0, h1, trivial⟩
def sg_153_22_l : List iv_L := [([(4, (.tag 2 .nil), (.nest 0 .nil))], [], 1, 153, 36, [some (10, (.nest 182 .nil)), some (0, (.tag 0 .nil)), some (0, (.tag 1 .nil)), some (0, (.nest 0 .nil))], [(0, (.tag 1 .nil)), (11, (.nest 184 .nil))]), ([(5, (.tag 2 .nil), (.nest 0 .nil))], [], 1, 153, 36, [some (10, (.nest 182 .nil)), some (0, (.tag 0 .nil)), some (0, (.tag 1 .nil)), some (0, (.nest 1 .nil))], [(0, (.tag 1 .nil)), (11, (.nest 184 .nil))])]
set_option maxRecDepth 100000 in
theorem sg_153_22 {L : Nat} {xs : Nat → Int32} {vz : Value} {d : Nat} {μ : iv_M} {P : iv_P} {l1 l2 r : Int} (hL : L ≤ 3072) (hd : 6 ≤ d)
    (h0 : r = 0 → iv_G L xs vz d 153 36 [some (10, 182), some (0, l1), some (0, l2), some (0, 0)] [(0, l2), (11, 184)] μ P)
    (h1 : r ≠ 0 → iv_G L xs vz d 153 36 [some (10, 182), some (0, l1), some (0, l2), some (0, 1)] [(0, l2), (11, 184)] μ P)
    : iv_G L xs vz d 153 22 [some (10, 182), some (0, l1), some (0, l2), none] [(0, r)] μ P :=
  iv_ok hL (ρ := [l1, l2, r]) (n := 3) (stops := [2, 10, 19, 36]) (lv := [some (10, (.nest 182 .nil)), some (0, (.tag 0 .nil)), some (0, (.tag 1 .nil)), none]) (st := [(0, (.tag 2 .nil))]) (I := []) (ls := sg_153_22_l) (by decide +kernel) hd (fun e he => by cases he) ⟨h0, h1, trivial⟩
def sg_153_39_l : List iv_L := [([(6, (.tag 2 .nil), (.nest 2 .nil))], [], 2, 153, 40, [], [(0, (.tag 2 .nil))]), ([(7, (.tag 2 .nil), (.nest 2 .nil))], [], 0, 0, 0, [], [])]
set_option maxRecDepth 100000 in
theorem sg_153_39 {L : Nat} {xs : Nat → Int32} {vz : Value} {d : Nat} {μ : iv_M} {P : iv_P} {l1 l2 l3 : Int} (hL : L ≤ 3072) (hd : 6 ≤ d)
    (h0 : (0 ≤ l3 ∧ l3 < 2) → P (some (0, l3)) μ)
    (h1 : ¬ (0 ≤ l3 ∧ l3 < 2) → False)
    : iv_G L xs vz d 153 39 [some (10, 182), some (0, l1), some (0, l2), some (0, l3)] [] μ P :=
  iv_ok hL (ρ := [l1, l2, l3]) (n := 1) (stops := [2, 10, 19, 36]) (lv := [some (10, (.nest 182 .nil)), some (0, (.tag 0 .nil)), some (0, (.tag 1 .nil)), some (0, (.tag 2 .nil))]) (st := []) (I := []) (ls := sg_153_39_l) (by decide +kernel) hd (fun e he => by cases he) ⟨h0, h1, trivial⟩
def sg_131_0_l : List iv_L := [([], [[(.nest 182 .nil), (.nest 3 .nil), (.nest 0 .nil)]], 1, 131, 9, [some (10, (.nest 182 .nil)), none], [(11, (.nest 184 .nil))])]
set_option maxRecDepth 100000 in
theorem sg_131_0 {L : Nat} {xs : Nat → Int32} {vz : Value} {d : Nat} {μ : iv_M} {P : iv_P} (hL : L ≤ 3072) (hd : 6 ≤ d)
    (h0 : iv_G L xs vz d 131 9 [some (10, 182), none] [(11, 184)] (iv_upd μ 182 3 0) P)
    : iv_G L xs vz d 131 0 [some (10, 182)] [] μ P :=
  iv_ok hL (ρ := []) (n := 3) (stops := [9, 13, 20, 30, 40]) (lv := [some (10, (.nest 182 .nil))]) (st := []) (I := []) (ls := sg_131_0_l) (by decide +kernel) hd (fun e he => by cases he) ⟨h0, trivial⟩
def sg_131_12_l : List iv_L := [([], [], 1, 131, 13, [some (10, (.nest 182 .nil)), none], [(10, (.nest 182 .nil))])]
set_option maxRecDepth 100000 in
theorem sg_131_12 {L : Nat} {xs : Nat → Int32} {vz : Value} {d : Nat} {μ : iv_M} {P : iv_P} (hL : L ≤ 3072) (hd : 6 ≤ d)
    (h0 : iv_G L xs vz d 131 13 [some (10, 182), none] [(10, 182)] μ P)
    : iv_G L xs vz d 131 12 [some (10, 182), none] [] μ P :=
  iv_ok hL (ρ := []) (n := 1) (stops := [9, 13, 20, 30, 40]) (lv := [some (10, (.nest 182 .nil)), none]) (st := []) (I := []) (ls := sg_131_12_l) (by decide +kernel) hd (fun e he => by cases he) ⟨h0, trivial⟩
def sg_131_16_l : List iv_L := [([], [], 1, 131, 20, [some (10, (.nest 182 .nil)), none], [(0, (.nest 0 .nil)), (0, (.nest 9 .nil)), (10, (.nest 182 .nil))])]
set_option maxRecDepth 100000 in
theorem sg_131_16 {L : Nat} {xs : Nat → Int32} {vz : Value} {d : Nat} {μ : iv_M} {P : iv_P} (hL : L ≤ 3072) (hd : 6 ≤ d)
    (h0 : iv_G L xs vz d 131 20 [some (10, 182), none] [(0, 0), (0, 9), (10, 182)] μ P)
    : iv_G L xs vz d 131 16 [some (10, 182), none] [] μ P :=
  iv_ok hL (ρ := []) (n := 2) (stops := [9, 13, 20, 30, 40]) (lv := [some (10, (.nest 182 .nil)), none]) (st := []) (I := []) (ls := sg_131_16_l) (by decide +kernel) hd (fun e he => by cases he) ⟨h0, trivial⟩
def sg_131_23_l : List iv_L := [([(4, (.tag 0 .nil), (.nest 0 .nil))], [[(.nest 182 .nil), (.nest 1 .nil), (.nest 0 .nil)]], 2, 131, 78, [], [(0, (.nest 1 (.append (.nest 182 .nil) (.nest 5 .nil))))]), ([(5, (.tag 0 .nil), (.nest 0 .nil))], [], 1, 131, 30, [some (10, (.nest 182 .nil)), none], [(0, (.nest 1 .nil)), (0, (.nest 10 .nil)), (10, (.nest 182 .nil))])]
set_option maxRecDepth 100000 in
theorem sg_131_23 {L : Nat} {xs : Nat → Int32} {vz : Value} {d : Nat} {μ : iv_M} {P : iv_P} {r : Int} (hL : L ≤ 3072) (hd : 6 ≤ d)
    (h0 : r = 0 → P (some (0, ((iv_upd μ 182 1 0) 182 5))) (iv_upd μ 182 1 0))
    (h1 : r ≠ 0 → iv_G L xs vz d 131 30 [some (10, 182), none] [(0, 1), (0, 10), (10, 182)] μ P)
    : iv_G L xs vz d 131 23 [some (10, 182), none] [(0, r)] μ P :=
  iv_ok hL (ρ := [r]) (n := 4) (stops := [9, 13, 20, 30, 40]) (lv := [some (10, (.nest 182 .nil)), none]) (st := [(0, (.tag 0 .nil))]) (I := []) (ls := sg_131_23_l) (by decide +kernel) hd (fun e he => by cases he) ⟨h0, h1, trivial⟩
def sg_131_33_l : List iv_L := [([(4, (.tag 0 .nil), (.nest 0 .nil))], [[(.nest 182 .nil), (.nest 1 .nil), (.nest 0 .nil)]], 2, 131, 78, [], [(0, (.nest 1 (.append (.nest 182 .nil) (.nest 5 .nil))))]), ([(5, (.tag 0 .nil), (.nest 0 .nil))], [], 1, 131, 40, [some (10, (.nest 182 .nil)), none], [(0, (.nest 2 .nil)), (0, (.nest 11 .nil)), (10, (.nest 182 .nil))])]
set_option maxRecDepth 100000 in
theorem sg_131_33 {L : Nat} {xs : Nat → Int32} {vz : Value} {d : Nat} {μ : iv_M} {P : iv_P} {r : Int} (hL : L ≤ 3072) (hd : 6 ≤ d)
    (h0 : r = 0 → P (some (0, ((iv_upd μ 182 1 0) 182 5))) (iv_upd μ 182 1 0))
    (h1 : r ≠ 0 → iv_G L xs vz d 131 40 [some (10, 182), none] [(0, 2), (0, 11), (10, 182)] μ P)
    : iv_G L xs vz d 131 33 [some (10, 182), none] [(0, r)] μ P :=
  iv_ok hL (ρ := [r]) (n := 4) (stops := [9, 13, 20, 30, 40]) (lv := [some (10, (.nest 182 .nil)), none]) (st := [(0, (.tag 0 .nil))]) (I := []) (ls := sg_131_33_l) (by decide +kernel) hd (fun e he => by cases he) ⟨h0, h1, trivial⟩
def sg_131_43_l : List iv_L := [([(4, (.tag 0 .nil), (.nest 0 .nil))], [[(.nest 182 .nil), (.nest 1 .nil), (.nest 0 .nil)]], 2, 131, 78, [], [(0, (.nest 1 (.append (.nest 182 .nil) (.nest 5 .nil))))]), ([(5, (.nest 0 (.append (.nest 182 .nil) (.nest 4 .nil))), (.nest 23 .nil)), (5, (.tag 0 .nil), (.nest 0 .nil))], [[(.nest 182 .nil), (.nest 1 .nil), (.nest 0 .nil)]], 2, 131, 78, [], [(0, (.nest 1 (.append (.nest 182 .nil) (.nest 5 .nil))))]), ([(4, (.nest 0 (.append (.nest 182 .nil) (.nest 4 .nil))), (.nest 23 .nil)), (5, (.tag 0 .nil), (.nest 0 .nil))], [[(.nest 182 .nil), (.nest 1 .nil), (.nest 0 .nil)]], 2, 131, 78, [], [(0, (.nest (-1) .nil))])]
set_option maxRecDepth 100000 in
theorem sg_131_43 {L : Nat} {xs : Nat → Int32} {vz : Value} {d : Nat} {μ : iv_M} {P : iv_P} {r : Int} (hL : L ≤ 3072) (hd : 6 ≤ d)
    (h0 : r = 0 → P (some (0, ((iv_upd μ 182 1 0) 182 5))) (iv_upd μ 182 1 0))
    (h1 : r ≠ 0 → (μ 182 4) ≠ 23 → P (some (0, ((iv_upd μ 182 1 0) 182 5))) (iv_upd μ 182 1 0))
    (h2 : r ≠ 0 → (μ 182 4) = 23 → P (some (0, (-1))) (iv_upd μ 182 1 0))
    : iv_G L xs vz d 131 43 [some (10, 182), none] [(0, r)] μ P :=
  iv_ok hL (ρ := [r]) (n := 4) (stops := [9, 13, 20, 30, 40]) (lv := [some (10, (.nest 182 .nil)), none]) (st := [(0, (.tag 0 .nil))]) (I := []) (ls := sg_131_43_l) (by decide +kernel) hd (fun e he => by cases he) ⟨h0, h1, h2, trivial⟩
def sg_130_0_l : List iv_L := [([(0, (.tag 0 .nil), (.nest 0 .nil))], [[(.nest 38 .nil), (.nest 7 .nil), (.tag 1 (.append (.nest 0 (.append (.nest 38 .nil) (.nest 7 .nil))) (.nest 1 .nil)))]], 2, 130, 13, [], [(0, (.nest (-100001) .nil))]), ([(2, (.tag 0 .nil), (.nest 4 .nil)), (3, (.tag 0 .nil), (.nest 0 .nil))], [[(.nest 38 .nil), (.nest 7 .nil), (.tag 1 (.append (.nest 0 (.append (.nest 38 .nil) (.nest 7 .nil))) (.nest 1 .nil)))]], 2, 130, 13, [], [(0, (.nest (-100001) .nil))]), ([(1, (.tag 0 .nil), (.nest 4 .nil)), (3, (.tag 0 .nil), (.nest 0 .nil))], [], 1, 130, 18, [some (13, (.nest 38 .nil)), some (0, (.tag 0 .nil)), none], [(10, (.nest 182 .nil))])]
set_option maxRecDepth 100000 in
theorem sg_130_0 {L : Nat} {xs : Nat → Int32} {vz : Value} {d : Nat} {μ : iv_M} {P : iv_P} {x0 : Int} (hL : L ≤ 3072) (hd : 6 ≤ d)
    (h0 : x0 < 0 → P (some (0, (-100001))) (iv_upd μ 38 7 (iv_w ((μ 38 7) + 1))))
    (h1 : x0 ≥ 0 → x0 > 4 → P (some (0, (-100001))) (iv_upd μ 38 7 (iv_w ((μ 38 7) + 1))))
    (h2 : x0 ≥ 0 → x0 ≤ 4 → iv_G L xs vz d 130 18 [some (13, 38), some (0, x0), none] [(10, 182)] μ P)
    : iv_G L xs vz d 130 0 [some (13, 38), some (0, x0)] [] μ P :=
  iv_ok hL (ρ := [x0]) (n := 5) (stops := [18, 41]) (lv := [some (13, (.nest 38 .nil)), some (0, (.tag 0 .nil))]) (st := []) (I := []) (ls := sg_130_0_l) (by decide +kernel) hd (fun e he => by cases he) ⟨h0, h1, h2, trivial⟩
def sg_130_21_l : List iv_L := [([(3, (.tag 1 .nil), (.nest 0 .nil))], [], 2, 130, 45, [], [(0, (.tag 1 .nil))]), ([(0, (.tag 0 .nil), (.nest 0 .nil)), (0, (.tag 1 .nil), (.nest 0 .nil))], [], 1, 130, 41, [some (13, (.nest 38 .nil)), some (0, (.tag 0 .nil)), some (0, (.tag 1 .nil))], [(11, (.nest 184 .nil)), (11, (.nest 91 .nil))]), ([(2, (.tag 0 .nil), (.nest 4 .nil)), (3, (.tag 0 .nil), (.nest 0 .nil)), (0, (.tag 1 .nil), (.nest 0 .nil))], [], 1, 130, 41, [some (13, (.nest 38 .nil)), some (0, (.tag 0 .nil)), some (0, (.tag 1 .nil))], [(11, (.nest 184 .nil)), (11, (.nest 91 .nil))]), ([(1, (.tag 0 .nil), (.nest 4 .nil)), (3, (.tag 0 .nil), (.nest 0 .nil)), (0, (.tag 1 .nil), (.nest 0 .nil))], [], 1, 130, 41, [some (13, (.nest 38 .nil)), some (0, (.tag 0 .nil)), some (0, (.tag 1 .nil))], [(11, (.nest 184 .nil)), (11, (.tag 41 (.append (.tag 42 (.append (.tag 0 .nil) (.nest 3 .nil))) (.nest 91 .nil))))])]
set_option maxRecDepth 100000 in
theorem sg_130_21 {L : Nat} {xs : Nat → Int32} {vz : Value} {d : Nat} {μ : iv_M} {P : iv_P} {l1 r : Int} (hL : L ≤ 3072) (hd : 6 ≤ d)
    (h0 : r ≥ 0 → P (some (0, r)) μ)
    (h1 : r < 0 → l1 < 0 → iv_G L xs vz d 130 41 [some (13, 38), some (0, l1), some (0, r)] [(11, 184), (11, 91)] μ P)
    (h2 : r < 0 → l1 ≥ 0 → l1 > 4 → iv_G L xs vz d 130 41 [some (13, 38), some (0, l1), some (0, r)] [(11, 184), (11, 91)] μ P)
    (h3 : r < 0 → l1 ≥ 0 → l1 ≤ 4 → iv_G L xs vz d 130 41 [some (13, 38), some (0, l1), some (0, r)] [(11, 184), (11, ((l1 * 3) + 91))] μ P)
    : iv_G L xs vz d 130 21 [some (13, 38), some (0, l1), none] [(0, r)] μ P :=
  iv_ok hL (ρ := [l1, r]) (n := 6) (stops := [18, 41]) (lv := [some (13, (.nest 38 .nil)), some (0, (.tag 0 .nil)), none]) (st := [(0, (.tag 1 .nil))]) (I := []) (ls := sg_130_21_l) (by decide +kernel) hd (fun e he => by cases he) ⟨h0, h1, h2, h3, trivial⟩
def sg_130_44_l : List iv_L := [([], [], 2, 130, 45, [], [(0, (.tag 1 .nil))])]
set_option maxRecDepth 100000 in
theorem sg_130_44 {L : Nat} {xs : Nat → Int32} {vz : Value} {d : Nat} {μ : iv_M} {P : iv_P} {l1 l2 : Int} (hL : L ≤ 3072) (hd : 6 ≤ d)
    (h0 : P (some (0, l2)) μ)
    : iv_G L xs vz d 130 44 [some (13, 38), some (0, l1), some (0, l2)] [] μ P :=
  iv_ok hL (ρ := [l1, l2]) (n := 1) (stops := [18, 41]) (lv := [some (13, (.nest 38 .nil)), some (0, (.tag 0 .nil)), some (0, (.tag 1 .nil))]) (st := []) (I := []) (ls := sg_130_44_l) (by decide +kernel) hd (fun e he => by cases he) ⟨h0, trivial⟩
