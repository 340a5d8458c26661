def sg_290_0_l : List iv_L := [([(3, (.tag 0 .nil), (.nest 0 (.append (.nest 195 .nil) (.nest 6 .nil)))), (3, (.nest 0 (.append (.nest 195 .nil) (.nest 6 .nil))), (.nest 0 .nil)), (1, (.nest 0 (.append (.nest 195 .nil) (.nest 6 .nil))), (.nest 160 .nil))], [], 2, 290, 22, [], [(0, (.nest (-1) .nil))]), ([(6, (.tag 0 .nil), (.nest 160 .nil)), (0, (.tag 0 .nil), (.nest 0 (.append (.nest 195 .nil) (.nest 6 .nil)))), (3, (.nest 0 (.append (.nest 195 .nil) (.nest 6 .nil))), (.nest 0 .nil)), (1, (.nest 0 (.append (.nest 195 .nil) (.nest 6 .nil))), (.nest 160 .nil))], [], 2, 290, 22, [], [(0, (.tag 4 (.append (.nest 0 (.append (.nest 199 .nil) (.tag 0 .nil))) (.nest 255 .nil))))]), ([(7, (.tag 0 .nil), (.nest 160 .nil)), (0, (.tag 0 .nil), (.nest 0 (.append (.nest 195 .nil) (.nest 6 .nil)))), (3, (.nest 0 (.append (.nest 195 .nil) (.nest 6 .nil))), (.nest 0 .nil)), (1, (.nest 0 (.append (.nest 195 .nil) (.nest 6 .nil))), (.nest 160 .nil))], [], 0, 0, 0, [], [])]
set_option maxRecDepth 100000 in
theorem sg_290_0 {L : Nat} {xs : Nat → Int32} {vz : Value} {d : Nat} {μ : iv_M} {P : iv_P} {x0 : Int} (hL : L ≤ 3072) (hd : 6 ≤ d) (f0 : (μ 195 6) ≥ 0) (f1 : (μ 195 6) ≤ 160)
    (h0 : x0 ≥ (μ 195 6) → P (some (0, (-1))) μ)
    (h1 : x0 < (μ 195 6) → (0 ≤ x0 ∧ x0 < 160) → P (some (0, (iv_and (μ 199 x0) 255))) μ)
    (h2 : x0 < (μ 195 6) → ¬ (0 ≤ x0 ∧ x0 < 160) → False)
    : iv_G L xs vz d 290 0 [some (14, 195), some (0, x0)] [] μ P :=
  iv_ok hL (ρ := [x0]) (n := 4) (stops := []) (lv := [some (14, (.nest 195 .nil)), some (0, (.tag 0 .nil))]) (st := []) (I := [(3, (.nest 0 (.append (.nest 195 .nil) (.nest 6 .nil))), (.nest 0 .nil)), (1, (.nest 0 (.append (.nest 195 .nil) (.nest 6 .nil))), (.nest 160 .nil))]) (ls := sg_290_0_l) (by decide +kernel) hd (fun e he => by rcases List.mem_cons.mp he with rfl | he; exact f0; rcases List.mem_cons.mp he with rfl | he; exact f1; cases he) ⟨(fun _ _ => h0), (fun _ _ => h1), (fun _ _ => h2), trivial⟩
def sg_291_0_l : List iv_L := [([(0, (.tag 0 .nil), (.nest 97 .nil))], [], 2, 291, 17, [], [(0, (.nest 0 .nil))]), ([(2, (.tag 0 .nil), (.nest 122 .nil)), (3, (.tag 0 .nil), (.nest 97 .nil))], [], 2, 291, 17, [], [(0, (.nest 0 .nil))]), ([(1, (.tag 0 .nil), (.nest 122 .nil)), (3, (.tag 0 .nil), (.nest 97 .nil))], [], 2, 291, 17, [], [(0, (.nest 1 .nil))])]
set_option maxRecDepth 100000 in
theorem sg_291_0 {L : Nat} {xs : Nat → Int32} {vz : Value} {d : Nat} {μ : iv_M} {P : iv_P} {x0 : Int} (hL : L ≤ 3072) (hd : 6 ≤ d)
    (h0 : x0 < 97 → P (some (0, 0)) μ)
    (h1 : x0 ≥ 97 → x0 > 122 → P (some (0, 0)) μ)
    (h2 : x0 ≥ 97 → x0 ≤ 122 → P (some (0, 1)) μ)
    : iv_G L xs vz d 291 0 [some (0, x0)] [] μ P :=
  iv_ok hL (ρ := [x0]) (n := 4) (stops := []) (lv := [some (0, (.tag 0 .nil))]) (st := []) (I := []) (ls := sg_291_0_l) (by decide +kernel) hd (fun e he => by cases he) ⟨h0, h1, h2, trivial⟩
def sg_293_0_l : List iv_L := [([(0, (.tag 0 .nil), (.nest 48 .nil))], [], 2, 293, 17, [], [(0, (.nest 0 .nil))]), ([(2, (.tag 0 .nil), (.nest 57 .nil)), (3, (.tag 0 .nil), (.nest 48 .nil))], [], 2, 293, 17, [], [(0, (.nest 0 .nil))]), ([(1, (.tag 0 .nil), (.nest 57 .nil)), (3, (.tag 0 .nil), (.nest 48 .nil))], [], 2, 293, 17, [], [(0, (.nest 1 .nil))])]
set_option maxRecDepth 100000 in
theorem sg_293_0 {L : Nat} {xs : Nat → Int32} {vz : Value} {d : Nat} {μ : iv_M} {P : iv_P} {x0 : Int} (hL : L ≤ 3072) (hd : 6 ≤ d)
    (h0 : x0 < 48 → P (some (0, 0)) μ)
    (h1 : x0 ≥ 48 → x0 > 57 → P (some (0, 0)) μ)
    (h2 : x0 ≥ 48 → x0 ≤ 57 → P (some (0, 1)) μ)
    : iv_G L xs vz d 293 0 [some (0, x0)] [] μ P :=
  iv_ok hL (ρ := [x0]) (n := 4) (stops := []) (lv := [some (0, (.tag 0 .nil))]) (st := []) (I := []) (ls := sg_293_0_l) (by decide +kernel) hd (fun e he => by cases he) ⟨h0, h1, h2, trivial⟩
def sg_294_0_l : List iv_L := [([(4, (.tag 0 .nil), (.nest 40 .nil))], [], 2, 294, 47, [], [(0, (.nest 1 .nil))]), ([(4, (.tag 0 .nil), (.nest 41 .nil)), (5, (.tag 0 .nil), (.nest 40 .nil))], [], 2, 294, 47, [], [(0, (.nest 1 .nil))]), ([(4, (.tag 0 .nil), (.nest 59 .nil)), (5, (.tag 0 .nil), (.nest 41 .nil)), (5, (.tag 0 .nil), (.nest 40 .nil))], [], 2, 294, 47, [], [(0, (.nest 1 .nil))]), ([(4, (.tag 0 .nil), (.nest 43 .nil)), (5, (.tag 0 .nil), (.nest 59 .nil)), (5, (.tag 0 .nil), (.nest 41 .nil)), (5, (.tag 0 .nil), (.nest 40 .nil))], [], 2, 294, 47, [], [(0, (.nest 1 .nil))]), ([(4, (.tag 0 .nil), (.nest 45 .nil)), (5, (.tag 0 .nil), (.nest 43 .nil)), (5, (.tag 0 .nil), (.nest 59 .nil)), (5, (.tag 0 .nil), (.nest 41 .nil)), (5, (.tag 0 .nil), (.nest 40 .nil))], [], 2, 294, 47, [], [(0, (.nest 1 .nil))]), ([(4, (.tag 0 .nil), (.nest 60 .nil)), (5, (.tag 0 .nil), (.nest 45 .nil)), (5, (.tag 0 .nil), (.nest 43 .nil)), (5, (.tag 0 .nil), (.nest 59 .nil)), (5, (.tag 0 .nil), (.nest 41 .nil)), (5, (.tag 0 .nil), (.nest 40 .nil))], [], 2, 294, 47, [], [(0, (.nest 1 .nil))]), ([(5, (.tag 0 .nil), (.nest 61 .nil)), (5, (.tag 0 .nil), (.nest 60 .nil)), (5, (.tag 0 .nil), (.nest 45 .nil)), (5, (.tag 0 .nil), (.nest 43 .nil)), (5, (.tag 0 .nil), (.nest 59 .nil)), (5, (.tag 0 .nil), (.nest 41 .nil)), (5, (.tag 0 .nil), (.nest 40 .nil))], [], 2, 294, 47, [], [(0, (.nest 0 .nil))]), ([(4, (.tag 0 .nil), (.nest 61 .nil)), (5, (.tag 0 .nil), (.nest 60 .nil)), (5, (.tag 0 .nil), (.nest 45 .nil)), (5, (.tag 0 .nil), (.nest 43 .nil)), (5, (.tag 0 .nil), (.nest 59 .nil)), (5, (.tag 0 .nil), (.nest 41 .nil)), (5, (.tag 0 .nil), (.nest 40 .nil))], [], 2, 294, 47, [], [(0, (.nest 1 .nil))])]
set_option maxRecDepth 100000 in
theorem sg_294_0 {L : Nat} {xs : Nat → Int32} {vz : Value} {d : Nat} {μ : iv_M} {P : iv_P} {x0 : Int} (hL : L ≤ 3072) (hd : 6 ≤ d)
    (h0 : x0 = 40 → P (some (0, 1)) μ)
    (h1 : x0 ≠ 40 → x0 = 41 → P (some (0, 1)) μ)
    (h2 : x0 ≠ 40 → x0 ≠ 41 → x0 = 59 → P (some (0, 1)) μ)
    (h3 : x0 ≠ 40 → x0 ≠ 41 → x0 ≠ 59 → x0 = 43 → P (some (0, 1)) μ)
    (h4 : x0 ≠ 40 → x0 ≠ 41 → x0 ≠ 59 → x0 ≠ 43 → x0 = 45 → P (some (0, 1)) μ)
    (h5 : x0 ≠ 40 → x0 ≠ 41 → x0 ≠ 59 → x0 ≠ 43 → x0 ≠ 45 → x0 = 60 → P (some (0, 1)) μ)
    (h6 : x0 ≠ 40 → x0 ≠ 41 → x0 ≠ 59 → x0 ≠ 43 → x0 ≠ 45 → x0 ≠ 60 → x0 ≠ 61 → P (some (0, 0)) μ)
    (h7 : x0 ≠ 40 → x0 ≠ 41 → x0 ≠ 59 → x0 ≠ 43 → x0 ≠ 45 → x0 ≠ 60 → x0 = 61 → P (some (0, 1)) μ)
    : iv_G L xs vz d 294 0 [some (0, x0)] [] μ P :=
  iv_ok hL (ρ := [x0]) (n := 5) (stops := []) (lv := [some (0, (.tag 0 .nil))]) (st := []) (I := []) (ls := sg_294_0_l) (by decide +kernel) hd (fun e he => by cases he) ⟨h0, h1, h2, h3, h4, h5, h6, h7, trivial⟩
def sg_289_0_l : List iv_L := [([], [[(.nest 195 .nil), (.nest 12 .nil), (.nest 0 (.append (.nest 195 .nil) (.nest 13 .nil)))]], 1, 289, 8, [some (14, (.nest 195 .nil)), none], [])]
set_option maxRecDepth 100000 in
theorem sg_289_0 {L : Nat} {xs : Nat → Int32} {vz : Value} {d : Nat} {μ : iv_M} {P : iv_P} (hL : L ≤ 3072) (hd : 6 ≤ d)
    (h0 : iv_G L xs vz d 289 8 [some (14, 195), none] [] (iv_upd μ 195 12 (μ 195 13)) P)
    : iv_G L xs vz d 289 0 [some (14, 195)] [] μ P :=
  iv_ok hL (ρ := []) (n := 3) (stops := [8, 13, 47, 64, 70, 75, 78, 99, 109, 120, 125, 128, 160, 229]) (lv := [some (14, (.nest 195 .nil))]) (st := []) (I := []) (ls := sg_289_0_l) (by decide +kernel) hd (fun e he => by cases he) ⟨h0, trivial⟩
def sg_289_8_l : List iv_L := [([], [], 1, 289, 13, [some (14, (.nest 195 .nil)), none], [(0, (.nest 0 (.append (.nest 195 .nil) (.nest 12 .nil)))), (14, (.nest 195 .nil))])]
set_option maxRecDepth 100000 in
theorem sg_289_8 {L : Nat} {xs : Nat → Int32} {vz : Value} {d : Nat} {μ : iv_M} {P : iv_P} (hL : L ≤ 3072) (hd : 6 ≤ d)
    (h0 : iv_G L xs vz d 289 13 [some (14, 195), none] [(0, (μ 195 12)), (14, 195)] μ P)
    : iv_G L xs vz d 289 8 [some (14, 195), none] [] μ P :=
  iv_ok hL (ρ := []) (n := 2) (stops := [8, 13, 47, 64, 70, 75, 78, 99, 109, 120, 125, 128, 160, 229]) (lv := [some (14, (.nest 195 .nil)), none]) (st := []) (I := []) (ls := sg_289_8_l) (by decide +kernel) hd (fun e he => by cases he) ⟨h0, trivial⟩
def sg_289_16_l : List iv_L := [([(5, (.tag 0 .nil), (.nest 32 .nil))], [[(.nest 195 .nil), (.nest 13 .nil), (.nest 0 (.append (.nest 195 .nil) (.nest 12 .nil)))]], 1, 289, 47, [some (14, (.nest 195 .nil)), none], [(0, (.nest 1 (.append (.nest 195 .nil) (.nest 12 .nil)))), (14, (.nest 195 .nil))]), ([(4, (.tag 0 .nil), (.nest 32 .nil))], [[(.nest 195 .nil), (.nest 12 .nil), (.tag 1 (.append (.nest 0 (.append (.nest 195 .nil) (.nest 12 .nil))) (.nest 1 .nil)))]], 1, 289, 8, [some (14, (.nest 195 .nil)), none], [])]
set_option maxRecDepth 100000 in
theorem sg_289_16 {L : Nat} {xs : Nat → Int32} {vz : Value} {d : Nat} {μ : iv_M} {P : iv_P} {r : Int} (hL : L ≤ 3072) (hd : 6 ≤ d)
    (h0 : r ≠ 32 → iv_G L xs vz d 289 47 [some (14, 195), none] [(0, ((iv_upd μ 195 13 (μ 195 12)) 195 12)), (14, 195)] (iv_upd μ 195 13 (μ 195 12)) P)
    (h1 : r = 32 → iv_G L xs vz d 289 8 [some (14, 195), none] [] (iv_upd μ 195 12 (iv_w ((μ 195 12) + 1))) P)
    : iv_G L xs vz d 289 16 [some (14, 195), none] [(0, r)] μ P :=
  iv_ok hL (ρ := [r]) (n := 4) (stops := [8, 13, 47, 64, 70, 75, 78, 99, 109, 120, 125, 128, 160, 229]) (lv := [some (14, (.nest 195 .nil)), none]) (st := [(0, (.tag 0 .nil))]) (I := []) (ls := sg_289_16_l) (by decide +kernel) hd (fun e he => by cases he) ⟨h0, h1, trivial⟩
def sg_289_50_l : List iv_L := [([(3, (.tag 0 .nil), (.nest 0 .nil))], [], 1, 289, 64, [some (14, (.nest 195 .nil)), some (0, (.tag 0 .nil))], [(0, (.tag 0 .nil))]), ([(0, (.tag 0 .nil), (.nest 0 .nil))], [[(.nest 195 .nil), (.nest 14 .nil), (.nest 0 .nil)]], 2, 289, 247, [], [])]
set_option maxRecDepth 100000 in
theorem sg_289_50 {L : Nat} {xs : Nat → Int32} {vz : Value} {d : Nat} {μ : iv_M} {P : iv_P} {r : Int} (hL : L ≤ 3072) (hd : 6 ≤ d)
    (h0 : r ≥ 0 → iv_G L xs vz d 289 64 [some (14, 195), some (0, r)] [(0, r)] μ P)
    (h1 : r < 0 → P none (iv_upd μ 195 14 0))
    : iv_G L xs vz d 289 50 [some (14, 195), none] [(0, r)] μ P :=
  iv_ok hL (ρ := [r]) (n := 3) (stops := [8, 13, 47, 64, 70, 75, 78, 99, 109, 120, 125, 128, 160, 229]) (lv := [some (14, (.nest 195 .nil)), none]) (st := [(0, (.tag 0 .nil))]) (I := []) (ls := sg_289_50_l) (by decide +kernel) hd (fun e he => by cases he) ⟨h0, h1, trivial⟩
def sg_289_67_l : List iv_L := [([(4, (.tag 1 .nil), (.nest 0 .nil))], [], 1, 289, 109, [some (14, (.nest 195 .nil)), some (0, (.tag 0 .nil))], [(0, (.tag 0 .nil))]), ([(5, (.tag 1 .nil), (.nest 0 .nil))], [], 1, 289, 70, [some (14, (.nest 195 .nil)), some (0, (.tag 0 .nil))], [])]
set_option maxRecDepth 100000 in
theorem sg_289_67 {L : Nat} {xs : Nat → Int32} {vz : Value} {d : Nat} {μ : iv_M} {P : iv_P} {l1 r : Int} (hL : L ≤ 3072) (hd : 6 ≤ d)
    (h0 : r = 0 → iv_G L xs vz d 289 109 [some (14, 195), some (0, l1)] [(0, l1)] μ P)
    (h1 : r ≠ 0 → iv_G L xs vz d 289 70 [some (14, 195), some (0, l1)] [] μ P)
    : iv_G L xs vz d 289 67 [some (14, 195), some (0, l1)] [(0, r)] μ P :=
  iv_ok hL (ρ := [l1, r]) (n := 2) (stops := [8, 13, 47, 64, 70, 75, 78, 99, 109, 120, 125, 128, 160, 229]) (lv := [some (14, (.nest 195 .nil)), some (0, (.tag 0 .nil))]) (st := [(0, (.tag 1 .nil))]) (I := []) (ls := sg_289_67_l) (by decide +kernel) hd (fun e he => by cases he) ⟨h0, h1, trivial⟩
def sg_289_70_l : List iv_L := [([], [], 1, 289, 75, [some (14, (.nest 195 .nil)), some (0, (.tag 0 .nil))], [(0, (.nest 0 (.append (.nest 195 .nil) (.nest 13 .nil)))), (14, (.nest 195 .nil))])]
set_option maxRecDepth 100000 in
theorem sg_289_70 {L : Nat} {xs : Nat → Int32} {vz : Value} {d : Nat} {μ : iv_M} {P : iv_P} {l1 : Int} (hL : L ≤ 3072) (hd : 6 ≤ d)
    (h0 : iv_G L xs vz d 289 75 [some (14, 195), some (0, l1)] [(0, (μ 195 13)), (14, 195)] μ P)
    : iv_G L xs vz d 289 70 [some (14, 195), some (0, l1)] [] μ P :=
  iv_ok hL (ρ := [l1]) (n := 2) (stops := [8, 13, 47, 64, 70, 75, 78, 99, 109, 120, 125, 128, 160, 229]) (lv := [some (14, (.nest 195 .nil)), some (0, (.tag 0 .nil))]) (st := []) (I := []) (ls := sg_289_70_l) (by decide +kernel) hd (fun e he => by cases he) ⟨h0, trivial⟩
def sg_289_81_l : List iv_L := [([(4, (.tag 1 .nil), (.nest 0 .nil))], [], 1, 289, 99, [some (14, (.nest 195 .nil)), some (0, (.tag 0 .nil))], [(14, (.nest 195 .nil)), (14, (.nest 195 .nil))]), ([(5, (.tag 1 .nil), (.nest 0 .nil))], [[(.nest 195 .nil), (.nest 13 .nil), (.tag 1 (.append (.nest 0 (.append (.nest 195 .nil) (.nest 13 .nil))) (.nest 1 .nil)))]], 1, 289, 70, [some (14, (.nest 195 .nil)), some (0, (.tag 0 .nil))], [])]
set_option maxRecDepth 100000 in
theorem sg_289_81 {L : Nat} {xs : Nat → Int32} {vz : Value} {d : Nat} {μ : iv_M} {P : iv_P} {l1 r : Int} (hL : L ≤ 3072) (hd : 6 ≤ d)
    (h0 : r = 0 → iv_G L xs vz d 289 99 [some (14, 195), some (0, l1)] [(14, 195), (14, 195)] μ P)
    (h1 : r ≠ 0 → iv_G L xs vz d 289 70 [some (14, 195), some (0, l1)] [] (iv_upd μ 195 13 (iv_w ((μ 195 13) + 1))) P)
    : iv_G L xs vz d 289 81 [some (14, 195), some (0, l1)] [(0, r)] μ P :=
  iv_ok hL (ρ := [l1, r]) (n := 4) (stops := [8, 13, 47, 64, 70, 75, 78, 99, 109, 120, 125, 128, 160, 229]) (lv := [some (14, (.nest 195 .nil)), some (0, (.tag 0 .nil))]) (st := [(0, (.tag 1 .nil))]) (I := []) (ls := sg_289_81_l) (by decide +kernel) hd (fun e he => by cases he) ⟨h0, h1, trivial⟩
def sg_289_102_l : List iv_L := [([], [[(.nest 195 .nil), (.nest 14 .nil), (.tag 1 .nil)]], 2, 289, 247, [], [])]
set_option maxRecDepth 100000 in
theorem sg_289_102 {L : Nat} {xs : Nat → Int32} {vz : Value} {d : Nat} {μ : iv_M} {P : iv_P} {l1 r : Int} (hL : L ≤ 3072) (hd : 6 ≤ d)
    (h0 : P none (iv_upd μ 195 14 r))
    : iv_G L xs vz d 289 102 [some (14, 195), some (0, l1)] [(0, r), (14, 195)] μ P :=
  iv_ok hL (ρ := [l1, r]) (n := 2) (stops := [8, 13, 47, 64, 70, 75, 78, 99, 109, 120, 125, 128, 160, 229]) (lv := [some (14, (.nest 195 .nil)), some (0, (.tag 0 .nil))]) (st := [(0, (.tag 1 .nil)), (14, (.nest 195 .nil))]) (I := []) (ls := sg_289_102_l) (by decide +kernel) hd (fun e he => by cases he) ⟨h0, trivial⟩
def sg_289_112_l : List iv_L := [([(4, (.tag 1 .nil), (.nest 0 .nil))], [[(.nest 195 .nil), (.nest 13 .nil), (.tag 1 (.append (.nest 0 (.append (.nest 195 .nil) (.nest 13 .nil))) (.nest 1 .nil)))]], 1, 289, 229, [some (14, (.nest 195 .nil)), some (0, (.tag 0 .nil))], [(0, (.tag 0 .nil)), (14, (.nest 195 .nil))]), ([(5, (.tag 1 .nil), (.nest 0 .nil))], [[(.nest 195 .nil), (.nest 15 .nil), (.nest 0 .nil)]], 1, 289, 120, [some (14, (.nest 195 .nil)), some (0, (.tag 0 .nil))], [])]
set_option maxRecDepth 100000 in
theorem sg_289_112 {L : Nat} {xs : Nat → Int32} {vz : Value} {d : Nat} {μ : iv_M} {P : iv_P} {l1 r : Int} (hL : L ≤ 3072) (hd : 6 ≤ d)
    (h0 : r = 0 → iv_G L xs vz d 289 229 [some (14, 195), some (0, l1)] [(0, l1), (14, 195)] (iv_upd μ 195 13 (iv_w ((μ 195 13) + 1))) P)
    (h1 : r ≠ 0 → iv_G L xs vz d 289 120 [some (14, 195), some (0, l1)] [] (iv_upd μ 195 15 0) P)
    : iv_G L xs vz d 289 112 [some (14, 195), some (0, l1)] [(0, r)] μ P :=
  iv_ok hL (ρ := [l1, r]) (n := 4) (stops := [8, 13, 47, 64, 70, 75, 78, 99, 109, 120, 125, 128, 160, 229]) (lv := [some (14, (.nest 195 .nil)), some (0, (.tag 0 .nil))]) (st := [(0, (.tag 1 .nil))]) (I := []) (ls := sg_289_112_l) (by decide +kernel) hd (fun e he => by cases he) ⟨h0, h1, trivial⟩
def sg_289_120_l : List iv_L := [([], [], 1, 289, 125, [some (14, (.nest 195 .nil)), some (0, (.tag 0 .nil))], [(0, (.nest 0 (.append (.nest 195 .nil) (.nest 13 .nil)))), (14, (.nest 195 .nil))])]
set_option maxRecDepth 100000 in
theorem sg_289_120 {L : Nat} {xs : Nat → Int32} {vz : Value} {d : Nat} {μ : iv_M} {P : iv_P} {l1 : Int} (hL : L ≤ 3072) (hd : 6 ≤ d)
    (h0 : iv_G L xs vz d 289 125 [some (14, 195), some (0, l1)] [(0, (μ 195 13)), (14, 195)] μ P)
    : iv_G L xs vz d 289 120 [some (14, 195), some (0, l1)] [] μ P :=
  iv_ok hL (ρ := [l1]) (n := 2) (stops := [8, 13, 47, 64, 70, 75, 78, 99, 109, 120, 125, 128, 160, 229]) (lv := [some (14, (.nest 195 .nil)), some (0, (.tag 0 .nil))]) (st := []) (I := []) (ls := sg_289_120_l) (by decide +kernel) hd (fun e he => by cases he) ⟨h0, trivial⟩
def sg_289_131_l : List iv_L := [([(1, (.tag 2 (.append (.nest 0 (.append (.nest 195 .nil) (.nest 13 .nil))) (.nest 0 (.append (.nest 195 .nil) (.nest 12 .nil))))), (.nest 4 .nil)), (4, (.tag 1 .nil), (.nest 0 .nil))], [[(.nest 195 .nil), (.nest 14 .nil), (.nest 50 .nil)]], 2, 289, 247, [], []), ([(2, (.tag 2 (.append (.nest 0 (.append (.nest 195 .nil) (.nest 13 .nil))) (.nest 0 (.append (.nest 195 .nil) (.nest 12 .nil))))), (.nest 4 .nil)), (4, (.tag 1 .nil), (.nest 0 .nil))], [[(.nest 195 .nil), (.nest 14 .nil), (.nest 60 .nil)]], 2, 289, 247, [], []), ([(3, (.tag 2 (.append (.nest 0 (.append (.nest 195 .nil) (.nest 13 .nil))) (.nest 0 (.append (.nest 195 .nil) (.nest 12 .nil))))), (.nest 4 .nil)), (5, (.tag 1 .nil), (.nest 0 .nil))], [[(.nest 195 .nil), (.nest 15 .nil), (.nest 0 (.append (.nest 195 .nil) (.nest 15 .nil)))], [(.nest 195 .nil), (.nest 13 .nil), (.tag 1 (.append (.nest 1 (.append (.nest 195 .nil) (.nest 13 .nil))) (.nest 1 .nil)))]], 1, 289, 120, [some (14, (.nest 195 .nil)), some (0, (.tag 0 .nil))], []), ([(0, (.tag 2 (.append (.nest 0 (.append (.nest 195 .nil) (.nest 13 .nil))) (.nest 0 (.append (.nest 195 .nil) (.nest 12 .nil))))), (.nest 4 .nil)), (5, (.tag 1 .nil), (.nest 0 .nil))], [], 1, 289, 160, [some (14, (.nest 195 .nil)), some (0, (.tag 0 .nil))], [(0, (.nest 0 (.append (.nest 195 .nil) (.nest 13 .nil)))), (14, (.nest 195 .nil)), (0, (.tag 3 (.append (.nest 10 .nil) (.nest 0 (.append (.nest 195 .nil) (.nest 15 .nil)))))), (14, (.nest 195 .nil))])]
set_option maxRecDepth 100000 in
theorem sg_289_131 {L : Nat} {xs : Nat → Int32} {vz : Value} {d : Nat} {μ : iv_M} {P : iv_P} {l1 r : Int} (hL : L ≤ 3072) (hd : 6 ≤ d)
    (h0 : r = 0 → (iv_w ((μ 195 13) - (μ 195 12))) ≤ 4 → P none (iv_upd μ 195 14 50))
    (h1 : r = 0 → (iv_w ((μ 195 13) - (μ 195 12))) > 4 → P none (iv_upd μ 195 14 60))
    (h2 : r ≠ 0 → (iv_w ((μ 195 13) - (μ 195 12))) ≥ 4 → iv_G L xs vz d 289 120 [some (14, 195), some (0, l1)] [] (iv_upd (iv_upd μ 195 15 (μ 195 15)) 195 13 (iv_w (((iv_upd μ 195 15 (μ 195 15)) 195 13) + 1))) P)
    (h3 : r ≠ 0 → (iv_w ((μ 195 13) - (μ 195 12))) < 4 → iv_G L xs vz d 289 160 [some (14, 195), some (0, l1)] [(0, (μ 195 13)), (14, 195), (0, (iv_w (10 * (μ 195 15)))), (14, 195)] μ P)
    : iv_G L xs vz d 289 131 [some (14, 195), some (0, l1)] [(0, r)] μ P :=
  iv_ok hL (ρ := [l1, r]) (n := 5) (stops := [8, 13, 47, 64, 70, 75, 78, 99, 109, 120, 125, 128, 160, 229]) (lv := [some (14, (.nest 195 .nil)), some (0, (.tag 0 .nil))]) (st := [(0, (.tag 1 .nil))]) (I := []) (ls := sg_289_131_l) (by decide +kernel) hd (fun e he => by cases he) ⟨h0, h1, h2, h3, trivial⟩
def sg_289_163_l : List iv_L := [([], [[(.nest 195 .nil), (.nest 15 .nil), (.tag 2 (.append (.tag 1 (.append (.tag 2 .nil) (.tag 1 .nil))) (.nest 48 .nil)))], [(.nest 195 .nil), (.nest 13 .nil), (.tag 1 (.append (.nest 1 (.append (.nest 195 .nil) (.nest 13 .nil))) (.nest 1 .nil)))]], 1, 289, 120, [some (14, (.nest 195 .nil)), some (0, (.tag 0 .nil))], [])]
set_option maxRecDepth 100000 in
theorem sg_289_163 {L : Nat} {xs : Nat → Int32} {vz : Value} {d : Nat} {μ : iv_M} {P : iv_P} {l1 r s1 : Int} (hL : L ≤ 3072) (hd : 6 ≤ d)
    (h0 : iv_G L xs vz d 289 120 [some (14, 195), some (0, l1)] [] (iv_upd (iv_upd μ 195 15 (iv_w ((iv_w (s1 + r)) - 48))) 195 13 (iv_w (((iv_upd μ 195 15 (iv_w ((iv_w (s1 + r)) - 48))) 195 13) + 1))) P)
    : iv_G L xs vz d 289 163 [some (14, 195), some (0, l1)] [(0, r), (0, s1), (14, 195)] μ P :=
  iv_ok hL (ρ := [l1, r, s1]) (n := 4) (stops := [8, 13, 47, 64, 70, 75, 78, 99, 109, 120, 125, 128, 160, 229]) (lv := [some (14, (.nest 195 .nil)), some (0, (.tag 0 .nil))]) (st := [(0, (.tag 1 .nil)), (0, (.tag 2 .nil)), (14, (.nest 195 .nil))]) (I := []) (ls := sg_289_163_l) (by decide +kernel) hd (fun e he => by cases he) ⟨h0, trivial⟩
def sg_289_232_l : List iv_L := [([(4, (.tag 1 .nil), (.nest 0 .nil))], [[(.nest 195 .nil), (.nest 14 .nil), (.nest 60 .nil)]], 2, 289, 247, [], []), ([(5, (.tag 1 .nil), (.nest 0 .nil))], [[(.nest 195 .nil), (.nest 14 .nil), (.tag 1 (.append (.nest 100 .nil) (.tag 0 .nil)))]], 2, 289, 247, [], [])]
set_option maxRecDepth 100000 in
theorem sg_289_232 {L : Nat} {xs : Nat → Int32} {vz : Value} {d : Nat} {μ : iv_M} {P : iv_P} {l1 r : Int} (hL : L ≤ 3072) (hd : 6 ≤ d)
    (h0 : r = 0 → P none (iv_upd μ 195 14 60))
    (h1 : r ≠ 0 → P none (iv_upd μ 195 14 (iv_w (100 + l1))))
    : iv_G L xs vz d 289 232 [some (14, 195), some (0, l1)] [(0, r), (14, 195)] μ P :=
  iv_ok hL (ρ := [l1, r]) (n := 3) (stops := [8, 13, 47, 64, 70, 75, 78, 99, 109, 120, 125, 128, 160, 229]) (lv := [some (14, (.nest 195 .nil)), some (0, (.tag 0 .nil))]) (st := [(0, (.tag 1 .nil)), (14, (.nest 195 .nil))]) (I := []) (ls := sg_289_232_l) (by decide +kernel) hd (fun e he => by cases he) ⟨h0, h1, trivial⟩
def sg_292_0_l : List iv_L := [([], [], 1, 292, 2, [some (14, (.nest 195 .nil)), some (0, (.nest 0 .nil)), none, none], [])]
set_option maxRecDepth 100000 in
theorem sg_292_0 {L : Nat} {xs : Nat → Int32} {vz : Value} {d : Nat} {μ : iv_M} {P : iv_P} (hL : L ≤ 3072) (hd : 6 ≤ d)
    (h0 : iv_G L xs vz d 292 2 [some (14, 195), some (0, 0), none, none] [] μ P)
    : iv_G L xs vz d 292 0 [some (14, 195)] [] μ P :=
  iv_ok hL (ρ := []) (n := 2) (stops := [2, 46, 60]) (lv := [some (14, (.nest 195 .nil))]) (st := []) (I := []) (ls := sg_292_0_l) (by decide +kernel) hd (fun e he => by cases he) ⟨h0, trivial⟩
def sg_292_2_l : List iv_L := [([(3, (.tag 0 .nil), (.nest 15 .nil)), (3, (.tag 0 .nil), (.nest 0 .nil))], [], 2, 292, 112, [], [(0, (.nest 60 .nil))]), ([(5, (.tag 2 (.append (.nest 0 (.append (.nest 201 .nil) (.tag 41 (.append (.tag 0 .nil) (.nest 1 .nil))))) (.nest 0 (.append (.nest 201 .nil) (.tag 0 .nil))))), (.tag 2 (.append (.nest 0 (.append (.nest 195 .nil) (.nest 13 .nil))) (.nest 0 (.append (.nest 195 .nil) (.nest 12 .nil)))))), (0, (.tag 0 .nil), (.nest 15 .nil)), (3, (.tag 0 .nil), (.nest 0 .nil))], [], 1, 292, 46, [some (14, (.nest 195 .nil)), some (0, (.tag 0 .nil)), some (0, (.nest 0 .nil)), some (0, (.nest 0 (.append (.nest 195 .nil) (.nest 12 .nil))))], []), ([(4, (.tag 2 (.append (.nest 0 (.append (.nest 201 .nil) (.tag 41 (.append (.tag 0 .nil) (.nest 1 .nil))))) (.nest 0 (.append (.nest 201 .nil) (.tag 0 .nil))))), (.tag 2 (.append (.nest 0 (.append (.nest 195 .nil) (.nest 13 .nil))) (.nest 0 (.append (.nest 195 .nil) (.nest 12 .nil)))))), (0, (.tag 0 .nil), (.nest 15 .nil)), (3, (.tag 0 .nil), (.nest 0 .nil))], [], 1, 292, 46, [some (14, (.nest 195 .nil)), some (0, (.tag 0 .nil)), some (0, (.nest 1 .nil)), some (0, (.nest 0 (.append (.nest 195 .nil) (.nest 12 .nil))))], [])]
set_option maxRecDepth 100000 in
theorem sg_292_2 {L : Nat} {xs : Nat → Int32} {vz : Value} {d : Nat} {μ : iv_M} {P : iv_P} {l1 : Int} (hL : L ≤ 3072) (hd : 6 ≤ d) (f0 : l1 ≥ 0)
    (h0 : l1 ≥ 15 → P (some (0, 60)) μ)
    (h1 : l1 < 15 → (iv_w ((μ 201 (l1 + 1)) - (μ 201 l1))) ≠ (iv_w ((μ 195 13) - (μ 195 12))) → iv_G L xs vz d 292 46 [some (14, 195), some (0, l1), some (0, 0), some (0, (μ 195 12))] [] μ P)
    (h2 : l1 < 15 → (iv_w ((μ 201 (l1 + 1)) - (μ 201 l1))) = (iv_w ((μ 195 13) - (μ 195 12))) → iv_G L xs vz d 292 46 [some (14, 195), some (0, l1), some (0, 1), some (0, (μ 195 12))] [] μ P)
    : iv_G L xs vz d 292 2 [some (14, 195), some (0, l1), none, none] [] μ P :=
  iv_ok hL (ρ := [l1]) (n := 5) (stops := [2, 46, 60]) (lv := [some (14, (.nest 195 .nil)), some (0, (.tag 0 .nil)), none, none]) (st := []) (I := [(3, (.tag 0 .nil), (.nest 0 .nil))]) (ls := sg_292_2_l) (by decide +kernel) hd (fun e he => by rcases List.mem_cons.mp he with rfl | he; exact f0; cases he) ⟨(fun _ => h0), (fun _ => h1), (fun _ => h2), trivial⟩
def sg_292_46_l : List iv_L := [([(4, (.tag 1 .nil), (.nest 0 .nil)), (3, (.tag 2 .nil), (.nest 0 (.append (.nest 195 .nil) (.nest 13 .nil)))), (3, (.tag 0 .nil), (.nest 0 .nil))], [], 1, 292, 2, [some (14, (.nest 195 .nil)), some (0, (.tag 1 (.append (.tag 0 .nil) (.nest 1 .nil)))), some (0, (.tag 1 .nil)), some (0, (.tag 2 .nil))], []), ([(5, (.tag 1 .nil), (.nest 0 .nil)), (3, (.tag 2 .nil), (.nest 0 (.append (.nest 195 .nil) (.nest 13 .nil)))), (3, (.tag 0 .nil), (.nest 0 .nil))], [], 2, 292, 103, [], [(0, (.tag 1 (.append (.tag 0 .nil) (.nest 1 .nil))))]), ([(4, (.tag 1 .nil), (.nest 0 .nil)), (0, (.tag 2 .nil), (.nest 0 (.append (.nest 195 .nil) (.nest 13 .nil)))), (3, (.tag 0 .nil), (.nest 0 .nil))], [], 1, 292, 2, [some (14, (.nest 195 .nil)), some (0, (.tag 1 (.append (.tag 0 .nil) (.nest 1 .nil)))), some (0, (.tag 1 .nil)), some (0, (.tag 2 .nil))], []), ([(5, (.tag 1 .nil), (.nest 0 .nil)), (0, (.tag 2 .nil), (.nest 0 (.append (.nest 195 .nil) (.nest 13 .nil)))), (3, (.tag 0 .nil), (.nest 0 .nil))], [], 1, 292, 60, [some (14, (.nest 195 .nil)), some (0, (.tag 0 .nil)), some (0, (.tag 1 .nil)), some (0, (.tag 2 .nil))], [(0, (.tag 2 .nil)), (14, (.nest 195 .nil))])]
set_option maxRecDepth 100000 in
theorem sg_292_46 {L : Nat} {xs : Nat → Int32} {vz : Value} {d : Nat} {μ : iv_M} {P : iv_P} {l1 l2 l3 : Int} (hL : L ≤ 3072) (hd : 6 ≤ d) (f0 : l1 ≥ 0)
    (h0 : l3 ≥ (μ 195 13) → l2 = 0 → iv_G L xs vz d 292 2 [some (14, 195), some (0, (iv_w (l1 + 1))), some (0, l2), some (0, l3)] [] μ P)
    (h1 : l3 ≥ (μ 195 13) → l2 ≠ 0 → P (some (0, (iv_w (l1 + 1)))) μ)
    (h2 : l3 < (μ 195 13) → l2 = 0 → iv_G L xs vz d 292 2 [some (14, 195), some (0, (iv_w (l1 + 1))), some (0, l2), some (0, l3)] [] μ P)
    (h3 : l3 < (μ 195 13) → l2 ≠ 0 → iv_G L xs vz d 292 60 [some (14, 195), some (0, l1), some (0, l2), some (0, l3)] [(0, l3), (14, 195)] μ P)
    : iv_G L xs vz d 292 46 [some (14, 195), some (0, l1), some (0, l2), some (0, l3)] [] μ P :=
  iv_ok hL (ρ := [l1, l2, l3]) (n := 4) (stops := [2, 46, 60]) (lv := [some (14, (.nest 195 .nil)), some (0, (.tag 0 .nil)), some (0, (.tag 1 .nil)), some (0, (.tag 2 .nil))]) (st := []) (I := [(3, (.tag 0 .nil), (.nest 0 .nil))]) (ls := sg_292_46_l) (by decide +kernel) hd (fun e he => by rcases List.mem_cons.mp he with rfl | he; exact f0; cases he) ⟨(fun _ => h0), (fun _ => h1), (fun _ => h2), (fun _ => h3), trivial⟩
def sg_292_63_l : List iv_L := [([(5, (.tag 3 .nil), (.nest 0 (.append (.nest 200 .nil) (.tag 2 (.append (.tag 1 (.append (.nest 0 (.append (.nest 201 .nil) (.tag 0 .nil))) (.tag 2 .nil))) (.nest 0 (.append (.nest 195 .nil) (.nest 12 .nil)))))))), (6, (.tag 2 (.append (.tag 1 (.append (.nest 0 (.append (.nest 201 .nil) (.tag 0 .nil))) (.tag 2 .nil))) (.nest 0 (.append (.nest 195 .nil) (.nest 12 .nil))))), (.nest 59 .nil)), (6, (.tag 0 .nil), (.nest 16 .nil))], [], 1, 292, 46, [some (14, (.nest 195 .nil)), some (0, (.tag 0 .nil)), some (0, (.nest 0 .nil)), some (0, (.tag 1 (.append (.tag 2 .nil) (.nest 1 .nil))))], []), ([(4, (.tag 3 .nil), (.nest 0 (.append (.nest 200 .nil) (.tag 2 (.append (.tag 1 (.append (.nest 0 (.append (.nest 201 .nil) (.tag 0 .nil))) (.tag 2 .nil))) (.nest 0 (.append (.nest 195 .nil) (.nest 12 .nil)))))))), (6, (.tag 2 (.append (.tag 1 (.append (.nest 0 (.append (.nest 201 .nil) (.tag 0 .nil))) (.tag 2 .nil))) (.nest 0 (.append (.nest 195 .nil) (.nest 12 .nil))))), (.nest 59 .nil)), (6, (.tag 0 .nil), (.nest 16 .nil))], [], 1, 292, 46, [some (14, (.nest 195 .nil)), some (0, (.tag 0 .nil)), some (0, (.nest 1 .nil)), some (0, (.tag 1 (.append (.tag 2 .nil) (.nest 1 .nil))))], []), ([(7, (.tag 2 (.append (.tag 1 (.append (.nest 0 (.append (.nest 201 .nil) (.tag 0 .nil))) (.tag 2 .nil))) (.nest 0 (.append (.nest 195 .nil) (.nest 12 .nil))))), (.nest 59 .nil)), (6, (.tag 0 .nil), (.nest 16 .nil))], [], 0, 0, 0, [], []), ([(7, (.tag 0 .nil), (.nest 16 .nil))], [], 0, 0, 0, [], [])]
set_option maxRecDepth 100000 in
theorem sg_292_63 {L : Nat} {xs : Nat → Int32} {vz : Value} {d : Nat} {μ : iv_M} {P : iv_P} {l1 l2 l3 r : Int} (hL : L ≤ 3072) (hd : 6 ≤ d)
    (h0 : (0 ≤ l1 ∧ l1 < 16) → (0 ≤ (iv_w ((iv_w ((μ 201 l1) + l3)) - (μ 195 12))) ∧ (iv_w ((iv_w ((μ 201 l1) + l3)) - (μ 195 12))) < 59) → r ≠ (μ 200 (iv_w ((iv_w ((μ 201 l1) + l3)) - (μ 195 12)))) → iv_G L xs vz d 292 46 [some (14, 195), some (0, l1), some (0, 0), some (0, (iv_w (l3 + 1)))] [] μ P)
    (h1 : (0 ≤ l1 ∧ l1 < 16) → (0 ≤ (iv_w ((iv_w ((μ 201 l1) + l3)) - (μ 195 12))) ∧ (iv_w ((iv_w ((μ 201 l1) + l3)) - (μ 195 12))) < 59) → r = (μ 200 (iv_w ((iv_w ((μ 201 l1) + l3)) - (μ 195 12)))) → iv_G L xs vz d 292 46 [some (14, 195), some (0, l1), some (0, 1), some (0, (iv_w (l3 + 1)))] [] μ P)
    (h2 : (0 ≤ l1 ∧ l1 < 16) → ¬ (0 ≤ (iv_w ((iv_w ((μ 201 l1) + l3)) - (μ 195 12))) ∧ (iv_w ((iv_w ((μ 201 l1) + l3)) - (μ 195 12))) < 59) → False)
    (h3 : ¬ (0 ≤ l1 ∧ l1 < 16) → False)
    : iv_G L xs vz d 292 63 [some (14, 195), some (0, l1), some (0, l2), some (0, l3)] [(0, r)] μ P :=
  iv_ok hL (ρ := [l1, l2, l3, r]) (n := 5) (stops := [2, 46, 60]) (lv := [some (14, (.nest 195 .nil)), some (0, (.tag 0 .nil)), some (0, (.tag 1 .nil)), some (0, (.tag 2 .nil))]) (st := [(0, (.tag 3 .nil))]) (I := []) (ls := sg_292_63_l) (by decide +kernel) hd (fun e he => by cases he) ⟨h0, h1, h2, h3, trivial⟩
def sg_296_0_l : List iv_L := [([], [], 1, 296, 4, [some (14, (.nest 195 .nil)), some (0, (.tag 0 .nil)), some (0, (.nest 0 .nil)), some (0, (.nest 0 .nil))], [])]
set_option maxRecDepth 100000 in
theorem sg_296_0 {L : Nat} {xs : Nat → Int32} {vz : Value} {d : Nat} {μ : iv_M} {P : iv_P} {x0 : Int} (hL : L ≤ 3072) (hd : 6 ≤ d)
    (h0 : iv_G L xs vz d 296 4 [some (14, 195), some (0, x0), some (0, 0), some (0, 0)] [] μ P)
    : iv_G L xs vz d 296 0 [some (14, 195), some (0, x0)] [] μ P :=
  iv_ok hL (ρ := [x0]) (n := 3) (stops := [4]) (lv := [some (14, (.nest 195 .nil)), some (0, (.tag 0 .nil))]) (st := []) (I := []) (ls := sg_296_0_l) (by decide +kernel) hd (fun e he => by cases he) ⟨h0, trivial⟩
def sg_296_4_l : List iv_L := [([(3, (.tag 2 .nil), (.nest 0 (.append (.nest 195 .nil) (.nest 17 .nil)))), (3, (.tag 2 .nil), (.nest 0 .nil))], [], 2, 296, 37, [], [(0, (.tag 1 .nil))]), ([(5, (.nest 0 (.append (.nest 203 .nil) (.tag 2 .nil))), (.tag 0 .nil)), (6, (.tag 2 .nil), (.nest 200 .nil)), (0, (.tag 2 .nil), (.nest 0 (.append (.nest 195 .nil) (.nest 17 .nil)))), (3, (.tag 2 .nil), (.nest 0 .nil))], [], 1, 296, 4, [some (14, (.nest 195 .nil)), some (0, (.tag 0 .nil)), some (0, (.tag 1 (.append (.tag 1 .nil) (.nest 0 .nil)))), some (0, (.tag 41 (.append (.tag 2 .nil) (.nest 1 .nil))))], []), ([(4, (.nest 0 (.append (.nest 203 .nil) (.tag 2 .nil))), (.tag 0 .nil)), (6, (.tag 2 .nil), (.nest 200 .nil)), (0, (.tag 2 .nil), (.nest 0 (.append (.nest 195 .nil) (.nest 17 .nil)))), (3, (.tag 2 .nil), (.nest 0 .nil))], [], 1, 296, 4, [some (14, (.nest 195 .nil)), some (0, (.tag 0 .nil)), some (0, (.tag 1 (.append (.tag 1 .nil) (.nest 1 .nil)))), some (0, (.tag 41 (.append (.tag 2 .nil) (.nest 1 .nil))))], []), ([(7, (.tag 2 .nil), (.nest 200 .nil)), (0, (.tag 2 .nil), (.nest 0 (.append (.nest 195 .nil) (.nest 17 .nil)))), (3, (.tag 2 .nil), (.nest 0 .nil))], [], 0, 0, 0, [], [])]
set_option maxRecDepth 100000 in
theorem sg_296_4 {L : Nat} {xs : Nat → Int32} {vz : Value} {d : Nat} {μ : iv_M} {P : iv_P} {l1 l2 l3 : Int} (hL : L ≤ 3072) (hd : 6 ≤ d) (f0 : l3 ≥ 0)
    (h0 : l3 ≥ (μ 195 17) → P (some (0, l2)) μ)
    (h1 : l3 < (μ 195 17) → (0 ≤ l3 ∧ l3 < 200) → (μ 203 l3) ≠ l1 → iv_G L xs vz d 296 4 [some (14, 195), some (0, l1), some (0, (iv_w (l2 + 0))), some (0, (l3 + 1))] [] μ P)
    (h2 : l3 < (μ 195 17) → (0 ≤ l3 ∧ l3 < 200) → (μ 203 l3) = l1 → iv_G L xs vz d 296 4 [some (14, 195), some (0, l1), some (0, (iv_w (l2 + 1))), some (0, (l3 + 1))] [] μ P)
    (h3 : l3 < (μ 195 17) → ¬ (0 ≤ l3 ∧ l3 < 200) → False)
    : iv_G L xs vz d 296 4 [some (14, 195), some (0, l1), some (0, l2), some (0, l3)] [] μ P :=
  iv_ok hL (ρ := [l1, l2, l3]) (n := 5) (stops := [4]) (lv := [some (14, (.nest 195 .nil)), some (0, (.tag 0 .nil)), some (0, (.tag 1 .nil)), some (0, (.tag 2 .nil))]) (st := []) (I := [(3, (.tag 2 .nil), (.nest 0 .nil))]) (ls := sg_296_4_l) (by decide +kernel) hd (fun e he => by rcases List.mem_cons.mp he with rfl | he; exact f0; cases he) ⟨(fun _ => h0), (fun _ => h1), (fun _ => h2), (fun _ => h3), trivial⟩
def sg_297_0_l : List iv_L := [([(6, (.nest 0 (.append (.nest 195 .nil) (.nest 16 .nil))), (.nest 489 .nil))], [[(.nest 202 .nil), (.nest 0 (.append (.nest 195 .nil) (.nest 16 .nil))), (.tag 0 .nil)], [(.nest 195 .nil), (.nest 16 .nil), (.tag 1 (.append (.nest 1 (.append (.nest 195 .nil) (.nest 16 .nil))) (.nest 1 .nil)))]], 2, 297, 20, [], []), ([(7, (.nest 0 (.append (.nest 195 .nil) (.nest 16 .nil))), (.nest 489 .nil))], [], 0, 0, 0, [], [])]
set_option maxRecDepth 100000 in
theorem sg_297_0 {L : Nat} {xs : Nat → Int32} {vz : Value} {d : Nat} {μ : iv_M} {P : iv_P} {x0 : Int} (hL : L ≤ 3072) (hd : 6 ≤ d)
    (h0 : (0 ≤ (μ 195 16) ∧ (μ 195 16) < 489) → P none (iv_upd (iv_upd μ 202 (μ 195 16) x0) 195 16 (iv_w (((iv_upd μ 202 (μ 195 16) x0) 195 16) + 1))))
    (h1 : ¬ (0 ≤ (μ 195 16) ∧ (μ 195 16) < 489) → False)
    : iv_G L xs vz d 297 0 [some (14, 195), some (0, x0)] [] μ P :=
  iv_ok hL (ρ := [x0]) (n := 4) (stops := []) (lv := [some (14, (.nest 195 .nil)), some (0, (.tag 0 .nil))]) (st := []) (I := []) (ls := sg_297_0_l) (by decide +kernel) hd (fun e he => by cases he) ⟨h0, h1, trivial⟩
def sg_298_0_l : List iv_L := [([(1, (.nest 0 (.append (.nest 195 .nil) (.nest 17 .nil))), (.nest 0 .nil))], [], 2, 298, 54, [], []), ([(6, (.tag 2 (.append (.nest 0 (.append (.nest 195 .nil) (.nest 17 .nil))) (.nest 1 .nil))), (.nest 200 .nil)), (2, (.nest 0 (.append (.nest 195 .nil) (.nest 17 .nil))), (.nest 0 .nil))], [], 1, 298, 18, [some (14, (.nest 195 .nil)), some (0, (.tag 0 .nil))], [(0, (.nest 0 (.append (.nest 203 .nil) (.tag 2 (.append (.nest 0 (.append (.nest 195 .nil) (.nest 17 .nil))) (.nest 1 .nil))))))]), ([(7, (.tag 2 (.append (.nest 0 (.append (.nest 195 .nil) (.nest 17 .nil))) (.nest 1 .nil))), (.nest 200 .nil)), (2, (.nest 0 (.append (.nest 195 .nil) (.nest 17 .nil))), (.nest 0 .nil))], [], 0, 0, 0, [], [])]
set_option maxRecDepth 100000 in
theorem sg_298_0 {L : Nat} {xs : Nat → Int32} {vz : Value} {d : Nat} {μ : iv_M} {P : iv_P} {x0 : Int} (hL : L ≤ 3072) (hd : 6 ≤ d)
    (h0 : (μ 195 17) ≤ 0 → P none μ)
    (h1 : (μ 195 17) > 0 → (0 ≤ (iv_w ((μ 195 17) - 1)) ∧ (iv_w ((μ 195 17) - 1)) < 200) → iv_G L xs vz d 298 18 [some (14, 195), some (0, x0)] [(0, (μ 203 (iv_w ((μ 195 17) - 1))))] μ P)
    (h2 : (μ 195 17) > 0 → ¬ (0 ≤ (iv_w ((μ 195 17) - 1)) ∧ (iv_w ((μ 195 17) - 1)) < 200) → False)
    : iv_G L xs vz d 298 0 [some (14, 195), some (0, x0)] [] μ P :=
  iv_ok hL (ρ := [x0]) (n := 4) (stops := [0, 18, 48]) (lv := [some (14, (.nest 195 .nil)), some (0, (.tag 0 .nil))]) (st := []) (I := []) (ls := sg_298_0_l) (by decide +kernel) hd (fun e he => by cases he) ⟨h0, h1, h2, trivial⟩
def sg_298_21_l : List iv_L := [([(0, (.tag 1 .nil), (.tag 0 .nil))], [], 2, 298, 54, [], []), ([(6, (.nest 1 (.append (.nest 195 .nil) (.nest 17 .nil))), (.nest 200 .nil)), (3, (.tag 1 .nil), (.tag 0 .nil))], [[(.nest 195 .nil), (.nest 17 .nil), (.tag 2 (.append (.nest 0 (.append (.nest 195 .nil) (.nest 17 .nil))) (.nest 1 .nil)))]], 1, 298, 48, [some (14, (.nest 195 .nil)), some (0, (.tag 0 .nil))], [(0, (.tag 2 (.append (.nest (-100) .nil) (.nest 1 (.append (.nest 203 .nil) (.nest 1 (.append (.nest 195 .nil) (.nest 17 .nil)))))))), (14, (.nest 195 .nil))]), ([(7, (.nest 1 (.append (.nest 195 .nil) (.nest 17 .nil))), (.nest 200 .nil)), (3, (.tag 1 .nil), (.tag 0 .nil))], [[(.nest 195 .nil), (.nest 17 .nil), (.tag 2 (.append (.nest 0 (.append (.nest 195 .nil) (.nest 17 .nil))) (.nest 1 .nil)))]], 0, 0, 0, [], [])]
set_option maxRecDepth 100000 in
theorem sg_298_21 {L : Nat} {xs : Nat → Int32} {vz : Value} {d : Nat} {μ : iv_M} {P : iv_P} {l1 r : Int} (hL : L ≤ 3072) (hd : 6 ≤ d)
    (h0 : r < l1 → P none μ)
    (h1 : r ≥ l1 → (0 ≤ ((iv_upd μ 195 17 (iv_w ((μ 195 17) - 1))) 195 17) ∧ ((iv_upd μ 195 17 (iv_w ((μ 195 17) - 1))) 195 17) < 200) → iv_G L xs vz d 298 48 [some (14, 195), some (0, l1)] [(0, (iv_w ((-100) - ((iv_upd μ 195 17 (iv_w ((μ 195 17) - 1))) 203 ((iv_upd μ 195 17 (iv_w ((μ 195 17) - 1))) 195 17))))), (14, 195)] (iv_upd μ 195 17 (iv_w ((μ 195 17) - 1))) P)
    (h2 : r ≥ l1 → ¬ (0 ≤ ((iv_upd μ 195 17 (iv_w ((μ 195 17) - 1))) 195 17) ∧ ((iv_upd μ 195 17 (iv_w ((μ 195 17) - 1))) 195 17) < 200) → False)
    : iv_G L xs vz d 298 21 [some (14, 195), some (0, l1)] [(0, r)] μ P :=
  iv_ok hL (ρ := [l1, r]) (n := 5) (stops := [0, 18, 48]) (lv := [some (14, (.nest 195 .nil)), some (0, (.tag 0 .nil))]) (st := [(0, (.tag 1 .nil))]) (I := []) (ls := sg_298_21_l) (by decide +kernel) hd (fun e he => by cases he) ⟨h0, h1, h2, trivial⟩
def sg_298_51_l : List iv_L := [([], [], 1, 298, 0, [some (14, (.nest 195 .nil)), some (0, (.tag 0 .nil))], [])]
set_option maxRecDepth 100000 in
theorem sg_298_51 {L : Nat} {xs : Nat → Int32} {vz : Value} {d : Nat} {μ : iv_M} {P : iv_P} {l1 : Int} (hL : L ≤ 3072) (hd : 6 ≤ d)
    (h0 : iv_G L xs vz d 298 0 [some (14, 195), some (0, l1)] [] μ P)
    : iv_G L xs vz d 298 51 [some (14, 195), some (0, l1)] [] μ P :=
  iv_ok hL (ρ := [l1]) (n := 1) (stops := [0, 18, 48]) (lv := [some (14, (.nest 195 .nil)), some (0, (.tag 0 .nil))]) (st := []) (I := []) (ls := sg_298_51_l) (by decide +kernel) hd (fun e he => by cases he) ⟨h0, trivial⟩
def sg_299_0_l : List iv_L := [([(4, (.tag 0 .nil), (.nest 160 .nil)), (5, (.tag 0 .nil), (.nest 15 .nil)), (5, (.tag 0 .nil), (.nest 14 .nil)), (5, (.tag 0 .nil), (.nest 13 .nil))], [], 2, 299, 67, [], [(0, (.nest 4 .nil))]), ([(4, (.tag 0 .nil), (.nest 143 .nil)), (5, (.tag 0 .nil), (.nest 161 .nil)), (5, (.tag 0 .nil), (.nest 160 .nil)), (5, (.tag 0 .nil), (.nest 15 .nil)), (5, (.tag 0 .nil), (.nest 14 .nil)), (5, (.tag 0 .nil), (.nest 13 .nil))], [], 2, 299, 67, [], [(0, (.nest 5 .nil))]), ([(5, (.tag 0 .nil), (.nest 145 .nil)), (5, (.tag 0 .nil), (.nest 143 .nil)), (5, (.tag 0 .nil), (.nest 161 .nil)), (5, (.tag 0 .nil), (.nest 160 .nil)), (5, (.tag 0 .nil), (.nest 15 .nil)), (5, (.tag 0 .nil), (.nest 14 .nil)), (5, (.tag 0 .nil), (.nest 13 .nil))], [], 2, 299, 67, [], [(0, (.nest 0 .nil))]), ([(4, (.tag 0 .nil), (.nest 145 .nil)), (5, (.tag 0 .nil), (.nest 143 .nil)), (5, (.tag 0 .nil), (.nest 161 .nil)), (5, (.tag 0 .nil), (.nest 160 .nil)), (5, (.tag 0 .nil), (.nest 15 .nil)), (5, (.tag 0 .nil), (.nest 14 .nil)), (5, (.tag 0 .nil), (.nest 13 .nil))], [], 2, 299, 67, [], [(0, (.nest 5 .nil))]), ([(4, (.tag 0 .nil), (.nest 161 .nil)), (5, (.tag 0 .nil), (.nest 160 .nil)), (5, (.tag 0 .nil), (.nest 15 .nil)), (5, (.tag 0 .nil), (.nest 14 .nil)), (5, (.tag 0 .nil), (.nest 13 .nil))], [], 2, 299, 67, [], [(0, (.nest 4 .nil))]), ([(4, (.tag 0 .nil), (.nest 15 .nil)), (5, (.tag 0 .nil), (.nest 14 .nil)), (5, (.tag 0 .nil), (.nest 13 .nil))], [], 2, 299, 67, [], [(0, (.nest 3 .nil))]), ([(4, (.tag 0 .nil), (.nest 14 .nil)), (5, (.tag 0 .nil), (.nest 13 .nil))], [], 2, 299, 67, [], [(0, (.nest 2 .nil))]), ([(4, (.tag 0 .nil), (.nest 13 .nil))], [], 2, 299, 67, [], [(0, (.nest 1 .nil))])]
set_option maxRecDepth 100000 in
theorem sg_299_0 {L : Nat} {xs : Nat → Int32} {vz : Value} {d : Nat} {μ : iv_M} {P : iv_P} {x0 : Int} (hL : L ≤ 3072) (hd : 6 ≤ d)
    (h0 : x0 ≠ 13 → x0 ≠ 14 → x0 ≠ 15 → x0 = 160 → P (some (0, 4)) μ)
    (h1 : x0 ≠ 13 → x0 ≠ 14 → x0 ≠ 15 → x0 ≠ 160 → x0 ≠ 161 → x0 = 143 → P (some (0, 5)) μ)
    (h2 : x0 ≠ 13 → x0 ≠ 14 → x0 ≠ 15 → x0 ≠ 160 → x0 ≠ 161 → x0 ≠ 143 → x0 ≠ 145 → P (some (0, 0)) μ)
    (h3 : x0 ≠ 13 → x0 ≠ 14 → x0 ≠ 15 → x0 ≠ 160 → x0 ≠ 161 → x0 ≠ 143 → x0 = 145 → P (some (0, 5)) μ)
    (h4 : x0 ≠ 13 → x0 ≠ 14 → x0 ≠ 15 → x0 ≠ 160 → x0 = 161 → P (some (0, 4)) μ)
    (h5 : x0 ≠ 13 → x0 ≠ 14 → x0 = 15 → P (some (0, 3)) μ)
    (h6 : x0 ≠ 13 → x0 = 14 → P (some (0, 2)) μ)
    (h7 : x0 = 13 → P (some (0, 1)) μ)
    : iv_G L xs vz d 299 0 [some (0, x0)] [] μ P :=
  iv_ok hL (ρ := [x0]) (n := 5) (stops := []) (lv := [some (0, (.tag 0 .nil))]) (st := []) (I := []) (ls := sg_299_0_l) (by decide +kernel) hd (fun e he => by cases he) ⟨h0, h1, h2, h3, h4, h5, h6, h7, trivial⟩
def sg_300_0_l : List iv_L := [([], [], 1, 300, 7, [some (14, (.nest 195 .nil)), some (0, (.tag 2 (.append (.nest 0 (.append (.nest 195 .nil) (.nest 17 .nil))) (.nest 1 .nil))))], [])]
set_option maxRecDepth 100000 in
theorem sg_300_0 {L : Nat} {xs : Nat → Int32} {vz : Value} {d : Nat} {μ : iv_M} {P : iv_P} (hL : L ≤ 3072) (hd : 6 ≤ d)
    (h0 : iv_G L xs vz d 300 7 [some (14, 195), some (0, (iv_w ((μ 195 17) - 1)))] [] μ P)
    : iv_G L xs vz d 300 0 [some (14, 195)] [] μ P :=
  iv_ok hL (ρ := []) (n := 3) (stops := [7, 17, 40]) (lv := [some (14, (.nest 195 .nil))]) (st := []) (I := []) (ls := sg_300_0_l) (by decide +kernel) hd (fun e he => by cases he) ⟨h0, trivial⟩
def sg_300_7_l : List iv_L := [([(0, (.tag 0 .nil), (.nest 0 .nil))], [], 2, 300, 52, [], [(0, (.nest 0 .nil))]), ([(6, (.tag 0 .nil), (.nest 200 .nil)), (3, (.tag 0 .nil), (.nest 0 .nil))], [], 1, 300, 17, [some (14, (.nest 195 .nil)), some (0, (.tag 0 .nil))], [(0, (.nest 0 (.append (.nest 203 .nil) (.tag 0 .nil))))]), ([(7, (.tag 0 .nil), (.nest 200 .nil)), (3, (.tag 0 .nil), (.nest 0 .nil))], [], 0, 0, 0, [], [])]
set_option maxRecDepth 100000 in
theorem sg_300_7 {L : Nat} {xs : Nat → Int32} {vz : Value} {d : Nat} {μ : iv_M} {P : iv_P} {l1 : Int} (hL : L ≤ 3072) (hd : 6 ≤ d)
    (h0 : l1 < 0 → P (some (0, 0)) μ)
    (h1 : l1 ≥ 0 → (0 ≤ l1 ∧ l1 < 200) → iv_G L xs vz d 300 17 [some (14, 195), some (0, l1)] [(0, (μ 203 l1))] μ P)
    (h2 : l1 ≥ 0 → ¬ (0 ≤ l1 ∧ l1 < 200) → False)
    : iv_G L xs vz d 300 7 [some (14, 195), some (0, l1)] [] μ P :=
  iv_ok hL (ρ := [l1]) (n := 3) (stops := [7, 17, 40]) (lv := [some (14, (.nest 195 .nil)), some (0, (.tag 0 .nil))]) (st := []) (I := []) (ls := sg_300_7_l) (by decide +kernel) hd (fun e he => by cases he) ⟨h0, h1, h2, trivial⟩
def sg_300_20_l : List iv_L := [([(0, (.tag 0 .nil), (.nest 0 .nil)), (1, (.tag 1 .nil), (.nest 4 .nil))], [], 2, 300, 52, [], [(0, (.nest 0 .nil))]), ([(6, (.tag 0 .nil), (.nest 200 .nil)), (3, (.tag 0 .nil), (.nest 0 .nil)), (1, (.tag 1 .nil), (.nest 4 .nil))], [], 1, 300, 40, [some (14, (.nest 195 .nil)), some (0, (.tag 0 .nil))], [(0, (.nest 0 (.append (.nest 203 .nil) (.tag 0 .nil))))]), ([(7, (.tag 0 .nil), (.nest 200 .nil)), (3, (.tag 0 .nil), (.nest 0 .nil)), (1, (.tag 1 .nil), (.nest 4 .nil))], [], 0, 0, 0, [], []), ([(2, (.tag 1 .nil), (.nest 4 .nil))], [], 1, 300, 7, [some (14, (.nest 195 .nil)), some (0, (.tag 1 (.append (.tag 0 .nil) (.nest (-1) .nil))))], [])]
set_option maxRecDepth 100000 in
theorem sg_300_20 {L : Nat} {xs : Nat → Int32} {vz : Value} {d : Nat} {μ : iv_M} {P : iv_P} {l1 r : Int} (hL : L ≤ 3072) (hd : 6 ≤ d)
    (h0 : r ≤ 4 → l1 < 0 → P (some (0, 0)) μ)
    (h1 : r ≤ 4 → l1 ≥ 0 → (0 ≤ l1 ∧ l1 < 200) → iv_G L xs vz d 300 40 [some (14, 195), some (0, l1)] [(0, (μ 203 l1))] μ P)
    (h2 : r ≤ 4 → l1 ≥ 0 → ¬ (0 ≤ l1 ∧ l1 < 200) → False)
    (h3 : r > 4 → iv_G L xs vz d 300 7 [some (14, 195), some (0, (iv_w (l1 + (-1))))] [] μ P)
    : iv_G L xs vz d 300 20 [some (14, 195), some (0, l1)] [(0, r)] μ P :=
  iv_ok hL (ρ := [l1, r]) (n := 4) (stops := [7, 17, 40]) (lv := [some (14, (.nest 195 .nil)), some (0, (.tag 0 .nil))]) (st := [(0, (.tag 1 .nil))]) (I := []) (ls := sg_300_20_l) (by decide +kernel) hd (fun e he => by cases he) ⟨h0, h1, h2, h3, trivial⟩
def sg_300_43_l : List iv_L := [([(5, (.tag 1 .nil), (.nest 4 .nil))], [], 2, 300, 52, [], [(0, (.nest 0 .nil))]), ([(4, (.tag 1 .nil), (.nest 4 .nil))], [], 2, 300, 52, [], [(0, (.nest 1 .nil))])]
set_option maxRecDepth 100000 in
theorem sg_300_43 {L : Nat} {xs : Nat → Int32} {vz : Value} {d : Nat} {μ : iv_M} {P : iv_P} {l1 r : Int} (hL : L ≤ 3072) (hd : 6 ≤ d)
    (h0 : r ≠ 4 → P (some (0, 0)) μ)
    (h1 : r = 4 → P (some (0, 1)) μ)
    : iv_G L xs vz d 300 43 [some (14, 195), some (0, l1)] [(0, r)] μ P :=
  iv_ok hL (ρ := [l1, r]) (n := 3) (stops := [7, 17, 40]) (lv := [some (14, (.nest 195 .nil)), some (0, (.tag 0 .nil))]) (st := [(0, (.tag 1 .nil))]) (I := []) (ls := sg_300_43_l) (by decide +kernel) hd (fun e he => by cases he) ⟨h0, h1, trivial⟩
def sg_295_0_l : List iv_L := [([], [[(.nest 195 .nil), (.nest 16 .nil), (.tag 1 (.append (.tag 3 (.append (.nest 163 .nil) (.tag 0 .nil))) (.nest 1 .nil)))], [(.nest 195 .nil), (.nest 17 .nil), (.nest 0 .nil)]], 1, 295, 20, [some (14, (.nest 195 .nil)), some (0, (.tag 0 .nil)), some (0, (.nest 1 .nil)), some (0, (.nest 1 .nil)), none], [])]
set_option maxRecDepth 100000 in
theorem sg_295_0 {L : Nat} {xs : Nat → Int32} {vz : Value} {d : Nat} {μ : iv_M} {P : iv_P} {x0 : Int} (hL : L ≤ 3072) (hd : 6 ≤ d)
    (h0 : iv_G L xs vz d 295 20 [some (14, 195), some (0, x0), some (0, 1), some (0, 1), none] [] (iv_upd (iv_upd μ 195 16 (iv_w ((iv_w (163 * x0)) + 1))) 195 17 0) P)
    : iv_G L xs vz d 295 0 [some (14, 195), some (0, x0)] [] μ P :=
  iv_ok hL (ρ := [x0]) (n := 4) (stops := [20, 21, 67, 73, 158, 185, 193, 223, 231, 275, 292, 303]) (lv := [some (14, (.nest 195 .nil)), some (0, (.tag 0 .nil))]) (st := []) (I := []) (ls := sg_295_0_l) (by decide +kernel) hd (fun e he => by cases he) ⟨h0, trivial⟩
def sg_295_20_l : List iv_L := [([], [], 1, 295, 21, [some (14, (.nest 195 .nil)), some (0, (.tag 0 .nil)), some (0, (.tag 1 .nil)), some (0, (.tag 2 .nil)), none], [(14, (.nest 195 .nil))])]
set_option maxRecDepth 100000 in
theorem sg_295_20 {L : Nat} {xs : Nat → Int32} {vz : Value} {d : Nat} {μ : iv_M} {P : iv_P} {l1 l2 l3 : Int} (hL : L ≤ 3072) (hd : 6 ≤ d)
    (h0 : iv_G L xs vz d 295 21 [some (14, 195), some (0, l1), some (0, l2), some (0, l3), none] [(14, 195)] μ P)
    : iv_G L xs vz d 295 20 [some (14, 195), some (0, l1), some (0, l2), some (0, l3), none] [] μ P :=
  iv_ok hL (ρ := [l1, l2, l3]) (n := 1) (stops := [20, 21, 67, 73, 158, 185, 193, 223, 231, 275, 292, 303]) (lv := [some (14, (.nest 195 .nil)), some (0, (.tag 0 .nil)), some (0, (.tag 1 .nil)), some (0, (.tag 2 .nil)), none]) (st := []) (I := []) (ls := sg_295_20_l) (by decide +kernel) hd (fun e he => by cases he) ⟨h0, trivial⟩
def sg_295_24_l : List iv_L := [([(5, (.nest 0 (.append (.nest 195 .nil) (.nest 14 .nil))), (.nest 15 .nil)), (5, (.nest 0 (.append (.nest 195 .nil) (.nest 14 .nil))), (.nest 159 .nil)), (5, (.nest 0 (.append (.nest 195 .nil) (.nest 14 .nil))), (.nest 141 .nil)), (4, (.tag 1 .nil), (.nest 0 .nil))], [], 1, 295, 275, [some (14, (.nest 195 .nil)), some (0, (.tag 0 .nil)), some (0, (.tag 1 .nil)), some (0, (.tag 2 .nil)), none], [(0, (.nest 0 (.append (.nest 195 .nil) (.nest 14 .nil))))]), ([(4, (.nest 0 (.append (.nest 195 .nil) (.nest 14 .nil))), (.nest 15 .nil)), (5, (.nest 0 (.append (.nest 195 .nil) (.nest 14 .nil))), (.nest 159 .nil)), (5, (.nest 0 (.append (.nest 195 .nil) (.nest 14 .nil))), (.nest 141 .nil)), (4, (.tag 1 .nil), (.nest 0 .nil))], [], 2, 295, 299, [], [(0, (.nest 0 .nil))]), ([(4, (.nest 0 (.append (.nest 195 .nil) (.nest 14 .nil))), (.nest 159 .nil)), (5, (.nest 0 (.append (.nest 195 .nil) (.nest 14 .nil))), (.nest 141 .nil)), (4, (.tag 1 .nil), (.nest 0 .nil))], [], 1, 295, 223, [some (14, (.nest 195 .nil)), some (0, (.tag 0 .nil)), some (0, (.tag 1 .nil)), some (0, (.tag 2 .nil)), none], [(0, (.nest 140 .nil)), (14, (.nest 195 .nil))]), ([(4, (.nest 0 (.append (.nest 195 .nil) (.nest 14 .nil))), (.nest 141 .nil)), (4, (.tag 1 .nil), (.nest 0 .nil))], [], 1, 295, 185, [some (14, (.nest 195 .nil)), some (0, (.tag 0 .nil)), some (0, (.tag 1 .nil)), some (0, (.tag 2 .nil)), none], [(0, (.nest 140 .nil)), (14, (.nest 195 .nil))]), ([(4, (.nest 0 (.append (.nest 195 .nil) (.nest 14 .nil))), (.nest 140 .nil)), (5, (.tag 1 .nil), (.nest 0 .nil))], [], 1, 295, 67, [some (14, (.nest 195 .nil)), some (0, (.tag 0 .nil)), some (0, (.tag 1 .nil)), some (0, (.tag 2 .nil)), some (0, (.nest 1 .nil))], [(0, (.nest 140 .nil)), (14, (.nest 195 .nil))]), ([(4, (.nest 0 (.append (.nest 195 .nil) (.nest 14 .nil))), (.nest 50 .nil)), (5, (.nest 0 (.append (.nest 195 .nil) (.nest 14 .nil))), (.nest 15 .nil)), (5, (.nest 0 (.append (.nest 195 .nil) (.nest 14 .nil))), (.nest 140 .nil)), (5, (.tag 1 .nil), (.nest 0 .nil))], [], 1, 295, 158, [some (14, (.nest 195 .nil)), some (0, (.tag 0 .nil)), some (0, (.tag 1 .nil)), some (0, (.tag 2 .nil)), some (0, (.nest 0 .nil))], [(0, (.nest 0 (.append (.nest 195 .nil) (.nest 15 .nil)))), (14, (.nest 195 .nil))]), ([(0, (.nest 0 (.append (.nest 195 .nil) (.nest 14 .nil))), (.nest 1 .nil)), (5, (.nest 0 (.append (.nest 195 .nil) (.nest 14 .nil))), (.nest 50 .nil)), (5, (.nest 0 (.append (.nest 195 .nil) (.nest 14 .nil))), (.nest 15 .nil)), (5, (.nest 0 (.append (.nest 195 .nil) (.nest 14 .nil))), (.nest 140 .nil)), (5, (.tag 1 .nil), (.nest 0 .nil))], [], 2, 295, 167, [], [(0, (.nest 0 .nil))]), ([(2, (.nest 0 (.append (.nest 195 .nil) (.nest 14 .nil))), (.nest 9 .nil)), (3, (.nest 0 (.append (.nest 195 .nil) (.nest 14 .nil))), (.nest 1 .nil)), (5, (.nest 0 (.append (.nest 195 .nil) (.nest 14 .nil))), (.nest 50 .nil)), (5, (.nest 0 (.append (.nest 195 .nil) (.nest 14 .nil))), (.nest 15 .nil)), (5, (.nest 0 (.append (.nest 195 .nil) (.nest 14 .nil))), (.nest 140 .nil)), (5, (.tag 1 .nil), (.nest 0 .nil))], [], 2, 295, 167, [], [(0, (.nest 0 .nil))]), ([(1, (.nest 0 (.append (.nest 195 .nil) (.nest 14 .nil))), (.nest 9 .nil)), (3, (.nest 0 (.append (.nest 195 .nil) (.nest 14 .nil))), (.nest 1 .nil)), (5, (.nest 0 (.append (.nest 195 .nil) (.nest 14 .nil))), (.nest 50 .nil)), (5, (.nest 0 (.append (.nest 195 .nil) (.nest 14 .nil))), (.nest 15 .nil)), (5, (.nest 0 (.append (.nest 195 .nil) (.nest 14 .nil))), (.nest 140 .nil)), (5, (.tag 1 .nil), (.nest 0 .nil))], [], 1, 295, 158, [some (14, (.nest 195 .nil)), some (0, (.tag 0 .nil)), some (0, (.tag 1 .nil)), some (0, (.tag 2 .nil)), some (0, (.nest 0 .nil))], [(0, (.tag 12 (.append (.nest 0 (.append (.nest 195 .nil) (.nest 14 .nil))) (.nest 0 .nil)))), (14, (.nest 195 .nil))]), ([(4, (.tag 2 .nil), (.nest 0 .nil)), (4, (.nest 0 (.append (.nest 195 .nil) (.nest 14 .nil))), (.nest 15 .nil)), (5, (.nest 0 (.append (.nest 195 .nil) (.nest 14 .nil))), (.nest 140 .nil)), (5, (.tag 1 .nil), (.nest 0 .nil))], [], 2, 295, 167, [], [(0, (.nest 0 .nil))]), ([(5, (.tag 2 .nil), (.nest 0 .nil)), (4, (.nest 0 (.append (.nest 195 .nil) (.nest 14 .nil))), (.nest 15 .nil)), (5, (.nest 0 (.append (.nest 195 .nil) (.nest 14 .nil))), (.nest 140 .nil)), (5, (.tag 1 .nil), (.nest 0 .nil))], [], 1, 295, 67, [some (14, (.nest 195 .nil)), some (0, (.tag 0 .nil)), some (0, (.tag 1 .nil)), some (0, (.tag 2 .nil)), some (0, (.nest 1 .nil))], [(0, (.nest 140 .nil)), (14, (.nest 195 .nil))])]
set_option maxRecDepth 100000 in
theorem sg_295_24 {L : Nat} {xs : Nat → Int32} {vz : Value} {d : Nat} {μ : iv_M} {P : iv_P} {l1 l2 l3 : Int} (hL : L ≤ 3072) (hd : 6 ≤ d)
    (h0 : l2 = 0 → (μ 195 14) ≠ 141 → (μ 195 14) ≠ 159 → (μ 195 14) ≠ 15 → iv_G L xs vz d 295 275 [some (14, 195), some (0, l1), some (0, l2), some (0, l3), none] [(0, (μ 195 14))] μ P)
    (h1 : l2 = 0 → (μ 195 14) ≠ 141 → (μ 195 14) ≠ 159 → (μ 195 14) = 15 → P (some (0, 0)) μ)
    (h2 : l2 = 0 → (μ 195 14) ≠ 141 → (μ 195 14) = 159 → iv_G L xs vz d 295 223 [some (14, 195), some (0, l1), some (0, l2), some (0, l3), none] [(0, 140), (14, 195)] μ P)
    (h3 : l2 = 0 → (μ 195 14) = 141 → iv_G L xs vz d 295 185 [some (14, 195), some (0, l1), some (0, l2), some (0, l3), none] [(0, 140), (14, 195)] μ P)
    (h4 : l2 ≠ 0 → (μ 195 14) = 140 → iv_G L xs vz d 295 67 [some (14, 195), some (0, l1), some (0, l2), some (0, l3), some (0, 1)] [(0, 140), (14, 195)] μ P)
    (h5 : l2 ≠ 0 → (μ 195 14) ≠ 140 → (μ 195 14) ≠ 15 → (μ 195 14) = 50 → iv_G L xs vz d 295 158 [some (14, 195), some (0, l1), some (0, l2), some (0, l3), some (0, 0)] [(0, (μ 195 15)), (14, 195)] μ P)
    (h6 : l2 ≠ 0 → (μ 195 14) ≠ 140 → (μ 195 14) ≠ 15 → (μ 195 14) ≠ 50 → (μ 195 14) < 1 → P (some (0, 0)) μ)
    (h7 : l2 ≠ 0 → (μ 195 14) ≠ 140 → (μ 195 14) ≠ 15 → (μ 195 14) ≠ 50 → (μ 195 14) ≥ 1 → (μ 195 14) > 9 → P (some (0, 0)) μ)
    (h8 : l2 ≠ 0 → (μ 195 14) ≠ 140 → (μ 195 14) ≠ 15 → (μ 195 14) ≠ 50 → (μ 195 14) ≥ 1 → (μ 195 14) ≤ 9 → iv_G L xs vz d 295 158 [some (14, 195), some (0, l1), some (0, l2), some (0, l3), some (0, 0)] [(0, (iv_w (-(μ 195 14)))), (14, 195)] μ P)
    (h9 : l2 ≠ 0 → (μ 195 14) ≠ 140 → (μ 195 14) = 15 → l3 = 0 → P (some (0, 0)) μ)
    (h10 : l2 ≠ 0 → (μ 195 14) ≠ 140 → (μ 195 14) = 15 → l3 ≠ 0 → iv_G L xs vz d 295 67 [some (14, 195), some (0, l1), some (0, l2), some (0, l3), some (0, 1)] [(0, 140), (14, 195)] μ P)
    : iv_G L xs vz d 295 24 [some (14, 195), some (0, l1), some (0, l2), some (0, l3), none] [] μ P :=
  iv_ok hL (ρ := [l1, l2, l3]) (n := 6) (stops := [20, 21, 67, 73, 158, 185, 193, 223, 231, 275, 292, 303]) (lv := [some (14, (.nest 195 .nil)), some (0, (.tag 0 .nil)), some (0, (.tag 1 .nil)), some (0, (.tag 2 .nil)), none]) (st := []) (I := []) (ls := sg_295_24_l) (by decide +kernel) hd (fun e he => by cases he) ⟨h0, h1, h2, h3, h4, h5, h6, h7, h8, h9, h10, trivial⟩
def sg_295_70_l : List iv_L := [([], [], 1, 295, 73, [some (14, (.nest 195 .nil)), some (0, (.tag 0 .nil)), some (0, (.tag 1 .nil)), some (0, (.tag 2 .nil)), some (0, (.tag 3 .nil))], [(0, (.nest 15 .nil)), (14, (.nest 195 .nil)), (0, (.tag 4 .nil))])]
set_option maxRecDepth 100000 in
theorem sg_295_70 {L : Nat} {xs : Nat → Int32} {vz : Value} {d : Nat} {μ : iv_M} {P : iv_P} {l1 l2 l3 l4 r : Int} (hL : L ≤ 3072) (hd : 6 ≤ d)
    (h0 : iv_G L xs vz d 295 73 [some (14, 195), some (0, l1), some (0, l2), some (0, l3), some (0, l4)] [(0, 15), (14, 195), (0, r)] μ P)
    : iv_G L xs vz d 295 70 [some (14, 195), some (0, l1), some (0, l2), some (0, l3), some (0, l4)] [(0, r)] μ P :=
  iv_ok hL (ρ := [l1, l2, l3, l4, r]) (n := 2) (stops := [20, 21, 67, 73, 158, 185, 193, 223, 231, 275, 292, 303]) (lv := [some (14, (.nest 195 .nil)), some (0, (.tag 0 .nil)), some (0, (.tag 1 .nil)), some (0, (.tag 2 .nil)), some (0, (.tag 3 .nil))]) (st := [(0, (.tag 4 .nil))]) (I := []) (ls := sg_295_70_l) (by decide +kernel) hd (fun e he => by cases he) ⟨h0, trivial⟩
def sg_295_76_l : List iv_L := [([(5, (.tag 3 .nil), (.nest 0 .nil)), (3, (.tag 1 (.append (.tag 5 .nil) (.tag 4 .nil))), (.nest 4 .nil))], [], 2, 295, 167, [], [(0, (.nest 0 .nil))]), ([(4, (.nest 0 (.append (.nest 195 .nil) (.nest 14 .nil))), (.nest 50 .nil)), (4, (.tag 3 .nil), (.nest 0 .nil)), (3, (.tag 1 (.append (.tag 5 .nil) (.tag 4 .nil))), (.nest 4 .nil))], [], 1, 295, 158, [some (14, (.nest 195 .nil)), some (0, (.tag 0 .nil)), some (0, (.tag 1 .nil)), some (0, (.tag 2 .nil)), some (0, (.tag 3 .nil))], [(0, (.nest 0 (.append (.nest 195 .nil) (.nest 15 .nil)))), (14, (.nest 195 .nil))]), ([(0, (.nest 0 (.append (.nest 195 .nil) (.nest 14 .nil))), (.nest 1 .nil)), (5, (.nest 0 (.append (.nest 195 .nil) (.nest 14 .nil))), (.nest 50 .nil)), (4, (.tag 3 .nil), (.nest 0 .nil)), (3, (.tag 1 (.append (.tag 5 .nil) (.tag 4 .nil))), (.nest 4 .nil))], [], 2, 295, 167, [], [(0, (.nest 0 .nil))]), ([(2, (.nest 0 (.append (.nest 195 .nil) (.nest 14 .nil))), (.nest 9 .nil)), (3, (.nest 0 (.append (.nest 195 .nil) (.nest 14 .nil))), (.nest 1 .nil)), (5, (.nest 0 (.append (.nest 195 .nil) (.nest 14 .nil))), (.nest 50 .nil)), (4, (.tag 3 .nil), (.nest 0 .nil)), (3, (.tag 1 (.append (.tag 5 .nil) (.tag 4 .nil))), (.nest 4 .nil))], [], 2, 295, 167, [], [(0, (.nest 0 .nil))]), ([(1, (.nest 0 (.append (.nest 195 .nil) (.nest 14 .nil))), (.nest 9 .nil)), (3, (.nest 0 (.append (.nest 195 .nil) (.nest 14 .nil))), (.nest 1 .nil)), (5, (.nest 0 (.append (.nest 195 .nil) (.nest 14 .nil))), (.nest 50 .nil)), (4, (.tag 3 .nil), (.nest 0 .nil)), (3, (.tag 1 (.append (.tag 5 .nil) (.tag 4 .nil))), (.nest 4 .nil))], [], 1, 295, 158, [some (14, (.nest 195 .nil)), some (0, (.tag 0 .nil)), some (0, (.tag 1 .nil)), some (0, (.tag 2 .nil)), some (0, (.tag 3 .nil))], [(0, (.tag 12 (.append (.nest 0 (.append (.nest 195 .nil) (.nest 14 .nil))) (.nest 0 .nil)))), (14, (.nest 195 .nil))]), ([(6, (.nest 0 (.append (.nest 195 .nil) (.nest 17 .nil))), (.nest 200 .nil)), (0, (.tag 1 (.append (.tag 5 .nil) (.tag 4 .nil))), (.nest 4 .nil))], [[(.nest 203 .nil), (.nest 0 (.append (.nest 195 .nil) (.nest 17 .nil))), (.nest 0 (.append (.nest 195 .nil) (.nest 14 .nil)))], [(.nest 195 .nil), (.nest 17 .nil), (.tag 1 (.append (.nest 1 (.append (.nest 195 .nil) (.nest 17 .nil))) (.nest 1 .nil)))]], 1, 295, 20, [some (14, (.nest 195 .nil)), some (0, (.tag 0 .nil)), some (0, (.tag 1 .nil)), some (0, (.nest 1 .nil)), some (0, (.tag 3 .nil))], []), ([(7, (.nest 0 (.append (.nest 195 .nil) (.nest 17 .nil))), (.nest 200 .nil)), (0, (.tag 1 (.append (.tag 5 .nil) (.tag 4 .nil))), (.nest 4 .nil))], [], 0, 0, 0, [], [])]
set_option maxRecDepth 100000 in
theorem sg_295_76 {L : Nat} {xs : Nat → Int32} {vz : Value} {d : Nat} {μ : iv_M} {P : iv_P} {l1 l2 l3 l4 r s1 : Int} (hL : L ≤ 3072) (hd : 6 ≤ d)
    (h0 : (iv_w (s1 + r)) ≥ 4 → l4 ≠ 0 → P (some (0, 0)) μ)
    (h1 : (iv_w (s1 + r)) ≥ 4 → l4 = 0 → (μ 195 14) = 50 → iv_G L xs vz d 295 158 [some (14, 195), some (0, l1), some (0, l2), some (0, l3), some (0, l4)] [(0, (μ 195 15)), (14, 195)] μ P)
    (h2 : (iv_w (s1 + r)) ≥ 4 → l4 = 0 → (μ 195 14) ≠ 50 → (μ 195 14) < 1 → P (some (0, 0)) μ)
    (h3 : (iv_w (s1 + r)) ≥ 4 → l4 = 0 → (μ 195 14) ≠ 50 → (μ 195 14) ≥ 1 → (μ 195 14) > 9 → P (some (0, 0)) μ)
    (h4 : (iv_w (s1 + r)) ≥ 4 → l4 = 0 → (μ 195 14) ≠ 50 → (μ 195 14) ≥ 1 → (μ 195 14) ≤ 9 → iv_G L xs vz d 295 158 [some (14, 195), some (0, l1), some (0, l2), some (0, l3), some (0, l4)] [(0, (iv_w (-(μ 195 14)))), (14, 195)] μ P)
    (h5 : (iv_w (s1 + r)) < 4 → (0 ≤ (μ 195 17) ∧ (μ 195 17) < 200) → iv_G L xs vz d 295 20 [some (14, 195), some (0, l1), some (0, l2), some (0, 1), some (0, l4)] [] (iv_upd (iv_upd μ 203 (μ 195 17) (μ 195 14)) 195 17 (iv_w (((iv_upd μ 203 (μ 195 17) (μ 195 14)) 195 17) + 1))) P)
    (h6 : (iv_w (s1 + r)) < 4 → ¬ (0 ≤ (μ 195 17) ∧ (μ 195 17) < 200) → False)
    : iv_G L xs vz d 295 76 [some (14, 195), some (0, l1), some (0, l2), some (0, l3), some (0, l4)] [(0, r), (0, s1)] μ P :=
  iv_ok hL (ρ := [l1, l2, l3, l4, r, s1]) (n := 6) (stops := [20, 21, 67, 73, 158, 185, 193, 223, 231, 275, 292, 303]) (lv := [some (14, (.nest 195 .nil)), some (0, (.tag 0 .nil)), some (0, (.tag 1 .nil)), some (0, (.tag 2 .nil)), some (0, (.tag 3 .nil))]) (st := [(0, (.tag 4 .nil)), (0, (.tag 5 .nil))]) (I := []) (ls := sg_295_76_l) (by decide +kernel) hd (fun e he => by cases he) ⟨h0, h1, h2, h3, h4, h5, h6, trivial⟩
def sg_295_161_l : List iv_L := [([], [], 1, 295, 20, [some (14, (.nest 195 .nil)), some (0, (.tag 0 .nil)), some (0, (.nest 0 .nil)), some (0, (.tag 2 .nil)), some (0, (.tag 3 .nil))], [])]
set_option maxRecDepth 100000 in
theorem sg_295_161 {L : Nat} {xs : Nat → Int32} {vz : Value} {d : Nat} {μ : iv_M} {P : iv_P} {l1 l2 l3 l4 : Int} (hL : L ≤ 3072) (hd : 6 ≤ d)
    (h0 : iv_G L xs vz d 295 20 [some (14, 195), some (0, l1), some (0, 0), some (0, l3), some (0, l4)] [] μ P)
    : iv_G L xs vz d 295 161 [some (14, 195), some (0, l1), some (0, l2), some (0, l3), some (0, l4)] [] μ P :=
  iv_ok hL (ρ := [l1, l2, l3, l4]) (n := 3) (stops := [20, 21, 67, 73, 158, 185, 193, 223, 231, 275, 292, 303]) (lv := [some (14, (.nest 195 .nil)), some (0, (.tag 0 .nil)), some (0, (.tag 1 .nil)), some (0, (.tag 2 .nil)), some (0, (.tag 3 .nil))]) (st := []) (I := []) (ls := sg_295_161_l) (by decide +kernel) hd (fun e he => by cases he) ⟨h0, trivial⟩
def sg_295_188_l : List iv_L := [([(5, (.nest 0 (.append (.nest 195 .nil) (.nest 14 .nil))), (.nest 15 .nil)), (5, (.nest 0 (.append (.nest 195 .nil) (.nest 14 .nil))), (.nest 159 .nil)), (1, (.tag 3 .nil), (.nest 0 .nil))], [], 1, 295, 275, [some (14, (.nest 195 .nil)), some (0, (.tag 0 .nil)), some (0, (.tag 1 .nil)), some (0, (.tag 2 .nil)), none], [(0, (.nest 0 (.append (.nest 195 .nil) (.nest 14 .nil))))]), ([(4, (.nest 0 (.append (.nest 195 .nil) (.nest 14 .nil))), (.nest 15 .nil)), (5, (.nest 0 (.append (.nest 195 .nil) (.nest 14 .nil))), (.nest 159 .nil)), (1, (.tag 3 .nil), (.nest 0 .nil))], [], 2, 295, 299, [], [(0, (.nest 0 .nil))]), ([(4, (.nest 0 (.append (.nest 195 .nil) (.nest 14 .nil))), (.nest 159 .nil)), (1, (.tag 3 .nil), (.nest 0 .nil))], [], 1, 295, 223, [some (14, (.nest 195 .nil)), some (0, (.tag 0 .nil)), some (0, (.tag 1 .nil)), some (0, (.tag 2 .nil)), none], [(0, (.nest 140 .nil)), (14, (.nest 195 .nil))]), ([(2, (.tag 3 .nil), (.nest 0 .nil))], [], 1, 295, 193, [some (14, (.nest 195 .nil)), some (0, (.tag 0 .nil)), some (0, (.tag 1 .nil)), some (0, (.tag 2 .nil)), none], [(0, (.nest 1 .nil)), (14, (.nest 195 .nil))])]
set_option maxRecDepth 100000 in
theorem sg_295_188 {L : Nat} {xs : Nat → Int32} {vz : Value} {d : Nat} {μ : iv_M} {P : iv_P} {l1 l2 l3 r : Int} (hL : L ≤ 3072) (hd : 6 ≤ d)
    (h0 : r ≤ 0 → (μ 195 14) ≠ 159 → (μ 195 14) ≠ 15 → iv_G L xs vz d 295 275 [some (14, 195), some (0, l1), some (0, l2), some (0, l3), none] [(0, (μ 195 14))] μ P)
    (h1 : r ≤ 0 → (μ 195 14) ≠ 159 → (μ 195 14) = 15 → P (some (0, 0)) μ)
    (h2 : r ≤ 0 → (μ 195 14) = 159 → iv_G L xs vz d 295 223 [some (14, 195), some (0, l1), some (0, l2), some (0, l3), none] [(0, 140), (14, 195)] μ P)
    (h3 : r > 0 → iv_G L xs vz d 295 193 [some (14, 195), some (0, l1), some (0, l2), some (0, l3), none] [(0, 1), (14, 195)] μ P)
    : iv_G L xs vz d 295 188 [some (14, 195), some (0, l1), some (0, l2), some (0, l3), none] [(0, r)] μ P :=
  iv_ok hL (ρ := [l1, l2, l3, r]) (n := 4) (stops := [20, 21, 67, 73, 158, 185, 193, 223, 231, 275, 292, 303]) (lv := [some (14, (.nest 195 .nil)), some (0, (.tag 0 .nil)), some (0, (.tag 1 .nil)), some (0, (.tag 2 .nil)), none]) (st := [(0, (.tag 3 .nil))]) (I := []) (ls := sg_295_188_l) (by decide +kernel) hd (fun e he => by cases he) ⟨h0, h1, h2, h3, trivial⟩
def sg_295_196_l : List iv_L := [([], [[(.nest 195 .nil), (.nest 17 .nil), (.tag 2 (.append (.nest 0 (.append (.nest 195 .nil) (.nest 17 .nil))) (.nest 1 .nil)))]], 1, 295, 20, [some (14, (.nest 195 .nil)), some (0, (.tag 0 .nil)), some (0, (.tag 1 .nil)), some (0, (.tag 2 .nil)), none], [])]
set_option maxRecDepth 100000 in
theorem sg_295_196 {L : Nat} {xs : Nat → Int32} {vz : Value} {d : Nat} {μ : iv_M} {P : iv_P} {l1 l2 l3 : Int} (hL : L ≤ 3072) (hd : 6 ≤ d)
    (h0 : iv_G L xs vz d 295 20 [some (14, 195), some (0, l1), some (0, l2), some (0, l3), none] [] (iv_upd μ 195 17 (iv_w ((μ 195 17) - 1))) P)
    : iv_G L xs vz d 295 196 [some (14, 195), some (0, l1), some (0, l2), some (0, l3), none] [] μ P :=
  iv_ok hL (ρ := [l1, l2, l3]) (n := 3) (stops := [20, 21, 67, 73, 158, 185, 193, 223, 231, 275, 292, 303]) (lv := [some (14, (.nest 195 .nil)), some (0, (.tag 0 .nil)), some (0, (.tag 1 .nil)), some (0, (.tag 2 .nil)), none]) (st := []) (I := []) (ls := sg_295_196_l) (by decide +kernel) hd (fun e he => by cases he) ⟨h0, trivial⟩
def sg_295_226_l : List iv_L := [([(5, (.nest 0 (.append (.nest 195 .nil) (.nest 14 .nil))), (.nest 15 .nil)), (5, (.tag 3 .nil), (.nest 0 .nil))], [], 1, 295, 275, [some (14, (.nest 195 .nil)), some (0, (.tag 0 .nil)), some (0, (.tag 1 .nil)), some (0, (.tag 2 .nil)), none], [(0, (.nest 0 (.append (.nest 195 .nil) (.nest 14 .nil))))]), ([(4, (.nest 0 (.append (.nest 195 .nil) (.nest 14 .nil))), (.nest 15 .nil)), (5, (.tag 3 .nil), (.nest 0 .nil))], [], 2, 295, 299, [], [(0, (.nest 0 .nil))]), ([(4, (.tag 3 .nil), (.nest 0 .nil))], [], 1, 295, 231, [some (14, (.nest 195 .nil)), some (0, (.tag 0 .nil)), some (0, (.tag 1 .nil)), some (0, (.tag 2 .nil)), none], [(0, (.nest 1 .nil)), (14, (.nest 195 .nil))])]
set_option maxRecDepth 100000 in
theorem sg_295_226 {L : Nat} {xs : Nat → Int32} {vz : Value} {d : Nat} {μ : iv_M} {P : iv_P} {l1 l2 l3 r : Int} (hL : L ≤ 3072) (hd : 6 ≤ d)
    (h0 : r ≠ 0 → (μ 195 14) ≠ 15 → iv_G L xs vz d 295 275 [some (14, 195), some (0, l1), some (0, l2), some (0, l3), none] [(0, (μ 195 14))] μ P)
    (h1 : r ≠ 0 → (μ 195 14) = 15 → P (some (0, 0)) μ)
    (h2 : r = 0 → iv_G L xs vz d 295 231 [some (14, 195), some (0, l1), some (0, l2), some (0, l3), none] [(0, 1), (14, 195)] μ P)
    : iv_G L xs vz d 295 226 [some (14, 195), some (0, l1), some (0, l2), some (0, l3), none] [(0, r)] μ P :=
  iv_ok hL (ρ := [l1, l2, l3, r]) (n := 4) (stops := [20, 21, 67, 73, 158, 185, 193, 223, 231, 275, 292, 303]) (lv := [some (14, (.nest 195 .nil)), some (0, (.tag 0 .nil)), some (0, (.tag 1 .nil)), some (0, (.tag 2 .nil)), none]) (st := [(0, (.tag 3 .nil))]) (I := []) (ls := sg_295_226_l) (by decide +kernel) hd (fun e he => by cases he) ⟨h0, h1, h2, trivial⟩
def sg_295_234_l : List iv_L := [([(6, (.tag 3 (.append (.nest 163 .nil) (.tag 0 .nil))), (.nest 489 .nil))], [[(.nest 202 .nil), (.tag 3 (.append (.nest 163 .nil) (.tag 0 .nil))), (.tag 2 (.append (.tag 2 (.append (.nest 0 (.append (.nest 195 .nil) (.nest 16 .nil))) (.tag 3 (.append (.nest 163 .nil) (.tag 0 .nil))))) (.nest 1 .nil)))]], 2, 295, 257, [], [(0, (.nest 1 .nil))]), ([(7, (.tag 3 (.append (.nest 163 .nil) (.tag 0 .nil))), (.nest 489 .nil))], [], 0, 0, 0, [], [])]
set_option maxRecDepth 100000 in
theorem sg_295_234 {L : Nat} {xs : Nat → Int32} {vz : Value} {d : Nat} {μ : iv_M} {P : iv_P} {l1 l2 l3 : Int} (hL : L ≤ 3072) (hd : 6 ≤ d)
    (h0 : (0 ≤ (iv_w (163 * l1)) ∧ (iv_w (163 * l1)) < 489) → P (some (0, 1)) (iv_upd μ 202 (iv_w (163 * l1)) (iv_w ((iv_w ((μ 195 16) - (iv_w (163 * l1)))) - 1))))
    (h1 : ¬ (0 ≤ (iv_w (163 * l1)) ∧ (iv_w (163 * l1)) < 489) → False)
    : iv_G L xs vz d 295 234 [some (14, 195), some (0, l1), some (0, l2), some (0, l3), none] [] μ P :=
  iv_ok hL (ρ := [l1, l2, l3]) (n := 4) (stops := [20, 21, 67, 73, 158, 185, 193, 223, 231, 275, 292, 303]) (lv := [some (14, (.nest 195 .nil)), some (0, (.tag 0 .nil)), some (0, (.tag 1 .nil)), some (0, (.tag 2 .nil)), none]) (st := []) (I := []) (ls := sg_295_234_l) (by decide +kernel) hd (fun e he => by cases he) ⟨h0, h1, trivial⟩
def sg_295_278_l : List iv_L := [([(4, (.tag 3 .nil), (.nest 0 .nil))], [], 2, 295, 299, [], [(0, (.nest 0 .nil))]), ([(5, (.tag 3 .nil), (.nest 4 .nil)), (5, (.tag 3 .nil), (.nest 0 .nil))], [], 1, 295, 303, [some (14, (.nest 195 .nil)), some (0, (.tag 0 .nil)), some (0, (.tag 1 .nil)), some (0, (.tag 2 .nil)), some (0, (.tag 3 .nil))], [(0, (.tag 3 .nil)), (14, (.nest 195 .nil))]), ([(4, (.tag 3 .nil), (.nest 4 .nil)), (5, (.tag 3 .nil), (.nest 0 .nil))], [], 1, 295, 292, [some (14, (.nest 195 .nil)), some (0, (.tag 0 .nil)), some (0, (.tag 1 .nil)), some (0, (.tag 2 .nil)), some (0, (.tag 3 .nil))], [(14, (.nest 195 .nil))])]
set_option maxRecDepth 100000 in
theorem sg_295_278 {L : Nat} {xs : Nat → Int32} {vz : Value} {d : Nat} {μ : iv_M} {P : iv_P} {l1 l2 l3 r : Int} (hL : L ≤ 3072) (hd : 6 ≤ d)
    (h0 : r = 0 → P (some (0, 0)) μ)
    (h1 : r ≠ 0 → r ≠ 4 → iv_G L xs vz d 295 303 [some (14, 195), some (0, l1), some (0, l2), some (0, l3), some (0, r)] [(0, r), (14, 195)] μ P)
    (h2 : r ≠ 0 → r = 4 → iv_G L xs vz d 295 292 [some (14, 195), some (0, l1), some (0, l2), some (0, l3), some (0, r)] [(14, 195)] μ P)
    : iv_G L xs vz d 295 278 [some (14, 195), some (0, l1), some (0, l2), some (0, l3), none] [(0, r)] μ P :=
  iv_ok hL (ρ := [l1, l2, l3, r]) (n := 4) (stops := [20, 21, 67, 73, 158, 185, 193, 223, 231, 275, 292, 303]) (lv := [some (14, (.nest 195 .nil)), some (0, (.tag 0 .nil)), some (0, (.tag 1 .nil)), some (0, (.tag 2 .nil)), none]) (st := [(0, (.tag 3 .nil))]) (I := []) (ls := sg_295_278_l) (by decide +kernel) hd (fun e he => by cases he) ⟨h0, h1, h2, trivial⟩
def sg_295_295_l : List iv_L := [([(4, (.tag 4 .nil), (.nest 0 .nil))], [], 1, 295, 303, [some (14, (.nest 195 .nil)), some (0, (.tag 0 .nil)), some (0, (.tag 1 .nil)), some (0, (.tag 2 .nil)), some (0, (.tag 3 .nil))], [(0, (.tag 3 .nil)), (14, (.nest 195 .nil))]), ([(5, (.tag 4 .nil), (.nest 0 .nil))], [], 2, 295, 299, [], [(0, (.nest 0 .nil))])]
set_option maxRecDepth 100000 in
theorem sg_295_295 {L : Nat} {xs : Nat → Int32} {vz : Value} {d : Nat} {μ : iv_M} {P : iv_P} {l1 l2 l3 l4 r : Int} (hL : L ≤ 3072) (hd : 6 ≤ d)
    (h0 : r = 0 → iv_G L xs vz d 295 303 [some (14, 195), some (0, l1), some (0, l2), some (0, l3), some (0, l4)] [(0, l4), (14, 195)] μ P)
    (h1 : r ≠ 0 → P (some (0, 0)) μ)
    : iv_G L xs vz d 295 295 [some (14, 195), some (0, l1), some (0, l2), some (0, l3), some (0, l4)] [(0, r)] μ P :=
  iv_ok hL (ρ := [l1, l2, l3, l4, r]) (n := 2) (stops := [20, 21, 67, 73, 158, 185, 193, 223, 231, 275, 292, 303]) (lv := [some (14, (.nest 195 .nil)), some (0, (.tag 0 .nil)), some (0, (.tag 1 .nil)), some (0, (.tag 2 .nil)), some (0, (.tag 3 .nil))]) (st := [(0, (.tag 4 .nil))]) (I := []) (ls := sg_295_295_l) (by decide +kernel) hd (fun e he => by cases he) ⟨h0, h1, trivial⟩
def sg_295_306_l : List iv_L := [([(3, (.tag 3 .nil), (.nest 3 .nil)), (6, (.nest 0 (.append (.nest 195 .nil) (.nest 17 .nil))), (.nest 200 .nil))], [[(.nest 203 .nil), (.nest 0 (.append (.nest 195 .nil) (.nest 17 .nil))), (.nest 0 (.append (.nest 195 .nil) (.nest 14 .nil)))], [(.nest 195 .nil), (.nest 17 .nil), (.tag 1 (.append (.nest 1 (.append (.nest 195 .nil) (.nest 17 .nil))) (.nest 1 .nil)))]], 1, 295, 20, [some (14, (.nest 195 .nil)), some (0, (.tag 0 .nil)), some (0, (.nest 1 .nil)), some (0, (.nest 0 .nil)), some (0, (.tag 3 .nil))], []), ([(0, (.tag 3 .nil), (.nest 3 .nil)), (6, (.nest 0 (.append (.nest 195 .nil) (.nest 17 .nil))), (.nest 200 .nil))], [[(.nest 203 .nil), (.nest 0 (.append (.nest 195 .nil) (.nest 17 .nil))), (.nest 0 (.append (.nest 195 .nil) (.nest 14 .nil)))], [(.nest 195 .nil), (.nest 17 .nil), (.tag 1 (.append (.nest 1 (.append (.nest 195 .nil) (.nest 17 .nil))) (.nest 1 .nil)))]], 1, 295, 20, [some (14, (.nest 195 .nil)), some (0, (.tag 0 .nil)), some (0, (.nest 1 .nil)), some (0, (.nest 1 .nil)), some (0, (.tag 3 .nil))], []), ([(7, (.nest 0 (.append (.nest 195 .nil) (.nest 17 .nil))), (.nest 200 .nil))], [], 0, 0, 0, [], [])]
set_option maxRecDepth 100000 in
theorem sg_295_306 {L : Nat} {xs : Nat → Int32} {vz : Value} {d : Nat} {μ : iv_M} {P : iv_P} {l1 l2 l3 l4 : Int} (hL : L ≤ 3072) (hd : 6 ≤ d)
    (h0 : (0 ≤ (μ 195 17) ∧ (μ 195 17) < 200) → l4 ≥ 3 → iv_G L xs vz d 295 20 [some (14, 195), some (0, l1), some (0, 1), some (0, 0), some (0, l4)] [] (iv_upd (iv_upd μ 203 (μ 195 17) (μ 195 14)) 195 17 (iv_w (((iv_upd μ 203 (μ 195 17) (μ 195 14)) 195 17) + 1))) P)
    (h1 : (0 ≤ (μ 195 17) ∧ (μ 195 17) < 200) → l4 < 3 → iv_G L xs vz d 295 20 [some (14, 195), some (0, l1), some (0, 1), some (0, 1), some (0, l4)] [] (iv_upd (iv_upd μ 203 (μ 195 17) (μ 195 14)) 195 17 (iv_w (((iv_upd μ 203 (μ 195 17) (μ 195 14)) 195 17) + 1))) P)
    (h2 : ¬ (0 ≤ (μ 195 17) ∧ (μ 195 17) < 200) → False)
    : iv_G L xs vz d 295 306 [some (14, 195), some (0, l1), some (0, l2), some (0, l3), some (0, l4)] [] μ P :=
  iv_ok hL (ρ := [l1, l2, l3, l4]) (n := 5) (stops := [20, 21, 67, 73, 158, 185, 193, 223, 231, 275, 292, 303]) (lv := [some (14, (.nest 195 .nil)), some (0, (.tag 0 .nil)), some (0, (.tag 1 .nil)), some (0, (.tag 2 .nil)), some (0, (.tag 3 .nil))]) (st := []) (I := []) (ls := sg_295_306_l) (by decide +kernel) hd (fun e he => by cases he) ⟨h0, h1, h2, trivial⟩
def sg_288_0_l : List iv_L := [([], [[(.nest 195 .nil), (.nest 13 .nil), (.nest 0 .nil)]], 1, 288, 7, [some (14, (.nest 195 .nil)), some (0, (.nest 0 .nil))], [])]
set_option maxRecDepth 100000 in
theorem sg_288_0 {L : Nat} {xs : Nat → Int32} {vz : Value} {d : Nat} {μ : iv_M} {P : iv_P} (hL : L ≤ 3072) (hd : 6 ≤ d)
    (h0 : iv_G L xs vz d 288 7 [some (14, 195), some (0, 0)] [] (iv_upd μ 195 13 0) P)
    : iv_G L xs vz d 288 0 [some (14, 195)] [] μ P :=
  iv_ok hL (ρ := []) (n := 3) (stops := [7, 13, 29, 44]) (lv := [some (14, (.nest 195 .nil))]) (st := []) (I := []) (ls := sg_288_0_l) (by decide +kernel) hd (fun e he => by cases he) ⟨h0, trivial⟩
def sg_288_7_l : List iv_L := [([(3, (.tag 0 .nil), (.nest 3 .nil)), (3, (.tag 0 .nil), (.nest 0 .nil))], [], 1, 288, 44, [some (14, (.nest 195 .nil)), some (0, (.tag 0 .nil))], [(14, (.nest 195 .nil))]), ([(0, (.tag 0 .nil), (.nest 3 .nil)), (3, (.tag 0 .nil), (.nest 0 .nil))], [], 1, 288, 13, [some (14, (.nest 195 .nil)), some (0, (.tag 0 .nil))], [(14, (.nest 195 .nil))])]
set_option maxRecDepth 100000 in
theorem sg_288_7 {L : Nat} {xs : Nat → Int32} {vz : Value} {d : Nat} {μ : iv_M} {P : iv_P} {l1 : Int} (hL : L ≤ 3072) (hd : 6 ≤ d) (f0 : l1 ≥ 0)
    (h0 : l1 ≥ 3 → iv_G L xs vz d 288 44 [some (14, 195), some (0, l1)] [(14, 195)] μ P)
    (h1 : l1 < 3 → iv_G L xs vz d 288 13 [some (14, 195), some (0, l1)] [(14, 195)] μ P)
    : iv_G L xs vz d 288 7 [some (14, 195), some (0, l1)] [] μ P :=
  iv_ok hL (ρ := [l1]) (n := 3) (stops := [7, 13, 29, 44]) (lv := [some (14, (.nest 195 .nil)), some (0, (.tag 0 .nil))]) (st := []) (I := [(3, (.tag 0 .nil), (.nest 0 .nil))]) (ls := sg_288_7_l) (by decide +kernel) hd (fun e he => by rcases List.mem_cons.mp he with rfl | he; exact f0; cases he) ⟨(fun _ => h0), (fun _ => h1), trivial⟩
def sg_288_16_l : List iv_L := [([(5, (.nest 0 (.append (.nest 195 .nil) (.nest 14 .nil))), (.tag 1 (.append (.nest 10 .nil) (.tag 0 .nil))))], [], 2, 288, 36, [], [(0, (.nest 0 .nil))]), ([(4, (.nest 0 (.append (.nest 195 .nil) (.nest 14 .nil))), (.tag 1 (.append (.nest 10 .nil) (.tag 0 .nil))))], [], 1, 288, 29, [some (14, (.nest 195 .nil)), some (0, (.tag 0 .nil))], [(0, (.tag 0 .nil)), (14, (.nest 195 .nil))])]
set_option maxRecDepth 100000 in
theorem sg_288_16 {L : Nat} {xs : Nat → Int32} {vz : Value} {d : Nat} {μ : iv_M} {P : iv_P} {l1 : Int} (hL : L ≤ 3072) (hd : 6 ≤ d)
    (h0 : (μ 195 14) ≠ (iv_w (10 + l1)) → P (some (0, 0)) μ)
    (h1 : (μ 195 14) = (iv_w (10 + l1)) → iv_G L xs vz d 288 29 [some (14, 195), some (0, l1)] [(0, l1), (14, 195)] μ P)
    : iv_G L xs vz d 288 16 [some (14, 195), some (0, l1)] [] μ P :=
  iv_ok hL (ρ := [l1]) (n := 4) (stops := [7, 13, 29, 44]) (lv := [some (14, (.nest 195 .nil)), some (0, (.tag 0 .nil))]) (st := []) (I := []) (ls := sg_288_16_l) (by decide +kernel) hd (fun e he => by cases he) ⟨h0, h1, trivial⟩
def sg_288_32_l : List iv_L := [([(5, (.tag 1 .nil), (.nest 0 .nil))], [], 1, 288, 7, [some (14, (.nest 195 .nil)), some (0, (.tag 1 (.append (.tag 0 .nil) (.nest 1 .nil))))], []), ([(4, (.tag 1 .nil), (.nest 0 .nil))], [], 2, 288, 36, [], [(0, (.nest 0 .nil))])]
set_option maxRecDepth 100000 in
theorem sg_288_32 {L : Nat} {xs : Nat → Int32} {vz : Value} {d : Nat} {μ : iv_M} {P : iv_P} {l1 r : Int} (hL : L ≤ 3072) (hd : 6 ≤ d)
    (h0 : r ≠ 0 → iv_G L xs vz d 288 7 [some (14, 195), some (0, (iv_w (l1 + 1)))] [] μ P)
    (h1 : r = 0 → P (some (0, 0)) μ)
    : iv_G L xs vz d 288 32 [some (14, 195), some (0, l1)] [(0, r)] μ P :=
  iv_ok hL (ρ := [l1, r]) (n := 2) (stops := [7, 13, 29, 44]) (lv := [some (14, (.nest 195 .nil)), some (0, (.tag 0 .nil))]) (st := [(0, (.tag 1 .nil))]) (I := []) (ls := sg_288_32_l) (by decide +kernel) hd (fun e he => by cases he) ⟨h0, h1, trivial⟩
def sg_288_47_l : List iv_L := [([(5, (.nest 0 (.append (.nest 195 .nil) (.nest 14 .nil))), (.nest 0 .nil))], [], 2, 288, 59, [], [(0, (.nest 0 .nil))]), ([(4, (.nest 0 (.append (.nest 195 .nil) (.nest 14 .nil))), (.nest 0 .nil))], [], 2, 288, 59, [], [(0, (.nest 1 .nil))])]
set_option maxRecDepth 100000 in
theorem sg_288_47 {L : Nat} {xs : Nat → Int32} {vz : Value} {d : Nat} {μ : iv_M} {P : iv_P} {l1 : Int} (hL : L ≤ 3072) (hd : 6 ≤ d)
    (h0 : (μ 195 14) ≠ 0 → P (some (0, 0)) μ)
    (h1 : (μ 195 14) = 0 → P (some (0, 1)) μ)
    : iv_G L xs vz d 288 47 [some (14, 195), some (0, l1)] [] μ P :=
  iv_ok hL (ρ := [l1]) (n := 3) (stops := [7, 13, 29, 44]) (lv := [some (14, (.nest 195 .nil)), some (0, (.tag 0 .nil))]) (st := []) (I := []) (ls := sg_288_47_l) (by decide +kernel) hd (fun e he => by cases he) ⟨h0, h1, trivial⟩
def sg_287_0_l : List iv_L := [([(0, (.tag 0 .nil), (.nest 0 .nil))], [[(.nest 195 .nil), (.nest 3 .nil), (.tag 1 (.append (.nest 0 (.append (.nest 195 .nil) (.nest 3 .nil))) (.nest 1 .nil)))]], 2, 287, 15, [], [(0, (.nest (-100001) .nil))]), ([(2, (.tag 0 .nil), (.nest 4 .nil)), (3, (.tag 0 .nil), (.nest 0 .nil))], [[(.nest 195 .nil), (.nest 3 .nil), (.tag 1 (.append (.nest 0 (.append (.nest 195 .nil) (.nest 3 .nil))) (.nest 1 .nil)))]], 2, 287, 15, [], [(0, (.nest (-100001) .nil))]), ([(1, (.tag 0 .nil), (.nest 4 .nil)), (3, (.tag 0 .nil), (.nest 0 .nil))], [], 1, 287, 17, [some (14, (.nest 195 .nil)), some (0, (.tag 0 .nil)), none, none], [(14, (.nest 195 .nil))])]
set_option maxRecDepth 100000 in
theorem sg_287_0 {L : Nat} {xs : Nat → Int32} {vz : Value} {d : Nat} {μ : iv_M} {P : iv_P} {x0 : Int} (hL : L ≤ 3072) (hd : 6 ≤ d)
    (h0 : x0 < 0 → P (some (0, (-100001))) (iv_upd μ 195 3 (iv_w ((μ 195 3) + 1))))
    (h1 : x0 ≥ 0 → x0 > 4 → P (some (0, (-100001))) (iv_upd μ 195 3 (iv_w ((μ 195 3) + 1))))
    (h2 : x0 ≥ 0 → x0 ≤ 4 → iv_G L xs vz d 287 17 [some (14, 195), some (0, x0), none, none] [(14, 195)] μ P)
    : iv_G L xs vz d 287 0 [some (14, 195), some (0, x0)] [] μ P :=
  iv_ok hL (ρ := [x0]) (n := 5) (stops := [17, 37]) (lv := [some (14, (.nest 195 .nil)), some (0, (.tag 0 .nil))]) (st := []) (I := []) (ls := sg_287_0_l) (by decide +kernel) hd (fun e he => by cases he) ⟨h0, h1, h2, trivial⟩
def sg_287_20_l : List iv_L := [([(5, (.tag 1 .nil), (.nest 0 .nil))], [[(.nest 195 .nil), (.nest 6 .nil), (.nest 0 .nil)]], 1, 287, 37, [some (14, (.nest 195 .nil)), some (0, (.tag 0 .nil)), some (0, (.tag 1 .nil)), some (0, (.nest 0 .nil))], []), ([(4, (.tag 1 .nil), (.nest 0 .nil))], [[(.nest 195 .nil), (.nest 6 .nil), (.nest 0 .nil)]], 2, 287, 34, [], [(0, (.nest 1 (.append (.nest 195 .nil) (.nest 12 .nil))))])]
set_option maxRecDepth 100000 in
theorem sg_287_20 {L : Nat} {xs : Nat → Int32} {vz : Value} {d : Nat} {μ : iv_M} {P : iv_P} {l1 r : Int} (hL : L ≤ 3072) (hd : 6 ≤ d)
    (h0 : r ≠ 0 → iv_G L xs vz d 287 37 [some (14, 195), some (0, l1), some (0, r), some (0, 0)] [] (iv_upd μ 195 6 0) P)
    (h1 : r = 0 → P (some (0, ((iv_upd μ 195 6 0) 195 12))) (iv_upd μ 195 6 0))
    : iv_G L xs vz d 287 20 [some (14, 195), some (0, l1), none, none] [(0, r)] μ P :=
  iv_ok hL (ρ := [l1, r]) (n := 4) (stops := [17, 37]) (lv := [some (14, (.nest 195 .nil)), some (0, (.tag 0 .nil)), none, none]) (st := [(0, (.tag 1 .nil))]) (I := []) (ls := sg_287_20_l) (by decide +kernel) hd (fun e he => by cases he) ⟨h0, h1, trivial⟩
def sg_287_37_l : List iv_L := [([(3, (.tag 2 .nil), (.nest 489 .nil)), (3, (.tag 2 .nil), (.nest 0 .nil))], [], 2, 287, 73, [], [(0, (.nest (-1) .nil))]), ([(6, (.tag 1 (.append (.tag 1 (.append (.nest 528 .nil) (.tag 3 (.append (.nest 489 .nil) (.tag 0 .nil))))) (.tag 2 .nil))), (.nest 2973 .nil)), (0, (.tag 2 .nil), (.nest 489 .nil)), (3, (.tag 2 .nil), (.nest 0 .nil))], [[(.nest 196 .nil), (.tag 1 (.append (.tag 1 (.append (.nest 528 .nil) (.tag 3 (.append (.nest 489 .nil) (.tag 0 .nil))))) (.tag 2 .nil))), (.nest 0 (.append (.nest 202 .nil) (.tag 2 .nil)))]], 1, 287, 37, [some (14, (.nest 195 .nil)), some (0, (.tag 0 .nil)), some (0, (.tag 1 .nil)), some (0, (.tag 41 (.append (.tag 2 .nil) (.nest 1 .nil))))], []), ([(7, (.tag 1 (.append (.tag 1 (.append (.nest 528 .nil) (.tag 3 (.append (.nest 489 .nil) (.tag 0 .nil))))) (.tag 2 .nil))), (.nest 2973 .nil)), (0, (.tag 2 .nil), (.nest 489 .nil)), (3, (.tag 2 .nil), (.nest 0 .nil))], [], 0, 0, 0, [], [])]
set_option maxRecDepth 100000 in
theorem sg_287_37 {L : Nat} {xs : Nat → Int32} {vz : Value} {d : Nat} {μ : iv_M} {P : iv_P} {l1 l2 l3 : Int} (hL : L ≤ 3072) (hd : 6 ≤ d) (f0 : l3 ≥ 0)
    (h0 : l3 ≥ 489 → P (some (0, (-1))) μ)
    (h1 : l3 < 489 → (0 ≤ (iv_w ((iv_w (528 + (iv_w (489 * l1)))) + l3)) ∧ (iv_w ((iv_w (528 + (iv_w (489 * l1)))) + l3)) < 2973) → iv_G L xs vz d 287 37 [some (14, 195), some (0, l1), some (0, l2), some (0, (l3 + 1))] [] (iv_upd μ 196 (iv_w ((iv_w (528 + (iv_w (489 * l1)))) + l3)) (μ 202 l3)) P)
    (h2 : l3 < 489 → ¬ (0 ≤ (iv_w ((iv_w (528 + (iv_w (489 * l1)))) + l3)) ∧ (iv_w ((iv_w (528 + (iv_w (489 * l1)))) + l3)) < 2973) → False)
    : iv_G L xs vz d 287 37 [some (14, 195), some (0, l1), some (0, l2), some (0, l3)] [] μ P :=
  iv_ok hL (ρ := [l1, l2, l3]) (n := 5) (stops := [17, 37]) (lv := [some (14, (.nest 195 .nil)), some (0, (.tag 0 .nil)), some (0, (.tag 1 .nil)), some (0, (.tag 2 .nil))]) (st := []) (I := [(3, (.tag 2 .nil), (.nest 0 .nil))]) (ls := sg_287_37_l) (by decide +kernel) hd (fun e he => by rcases List.mem_cons.mp he with rfl | he; exact f0; cases he) ⟨(fun _ => h0), (fun _ => h1), (fun _ => h2), trivial⟩
