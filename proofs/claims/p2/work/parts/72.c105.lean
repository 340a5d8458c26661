/-! ===== printed by wip/p2/gen_tab.py: contracts and their checks ===== -/
/-- RaftTown.lash -/
def sc_105 : se_C := ((178, 5), ([(((90, 0, 0), 0, (0, 0, 0), (0, 0, 0)), (0, (0, 0, 0), (0, 0, 0))), (((0, (-2147483648), 2147483647), 0, (0, 0, 0), (0, 0, 0)), (0, (0, 1, 0), (0, 0, 0))), (((0, (-2147483648), 2147483647), 0, (0, 0, 0), (0, 0, 0)), (0, (0, 2, 0), (0, 0, 0)))], [some (1, 0, 0), some (1, 1, 0), some (1, 2, 0)], [], []), [([(((0, (-100006), 4095), 0, (0, 0, 0), (0, 0, 0)), (0, (0, 0, 0), (0, 0, 0)))], some (1, 3, 0), [], [])], [(45, 0, 12), (46, 0, 12), (47, 0, 12), (48, 0, 10), (74, 4, 5), (74, 5, 6), (88, 7, 8)])
abbrev sn_105 : List se_Nd := []
set_option maxRecDepth 100000 in
theorem sk_105 : se_chk0 se_tt [sc_4, sc_104] se_Z 37 se_zt sc_105 sn_105 7 = true := by decide +kernel
theorem sm_105 {ty : Nat → Option Nat} {J : List mm_C → Prop} {kx : Nat} {zs : List mm_Zt} (hO : se_Ok ty J kx zs) (h4 : se_Met ty se_tt J kx zs sc_4) (h104 : se_Met ty se_tt J kx zs sc_104) : se_Met ty se_tt J kx zs sc_105 := se_sound (C := [sc_4, sc_104]) hO.1 hO.2.1 hO.2.2 (fun n hn => by
  rcases List.mem_cons.mp hn with rfl | hn
  · exact h4
  rcases List.mem_cons.mp hn with rfl | hn
  · exact h104
  exact absurd hn List.not_mem_nil) sk_105 (fun _ hn => absurd hn List.not_mem_nil)
/-- RaftTown$Net.mostKept -/
def sc_106 : se_C := ((188, 4), ([(((76, 0, 0), 0, (0, 0, 0), (0, 0, 0)), (0, (0, 0, 0), (0, 0, 0))), (((0, (-2147483648), 2147483647), 0, (0, 0, 0), (0, 0, 0)), (0, (0, 1, 0), (0, 0, 0))), (((0, (-2147483648), 2147483647), 0, (0, 0, 0), (0, 0, 0)), (0, (0, 2, 0), (0, 0, 0)))], [some (1, 0, 0), some (1, 1, 0), some (1, 2, 0)], [], []), [([(((0, 0, 63), 0, (0, 0, 0), (0, 0, 0)), (0, (0, 0, 0), (0, 0, 0)))], some (1, 3, 0), [], [])], [])
def sn_106_0 : se_Nd := (5, ([(((76, 0, 0), 0, (0, 0, 0), (0, 0, 0)), (3, (0, 0, 0), (0, 0, 0))), (((0, (-2147483648), 2147483647), 0, (0, 0, 0), (0, 0, 0)), (3, (0, 1, 0), (0, 0, 0))), (((0, (-2147483648), 2147483647), 0, (0, 0, 0), (0, 0, 0)), (3, (0, 2, 0), (0, 0, 0))), (((0, 0, 63), 0, (0, 0, 0), (0, 0, 0)), (0, (0, 3, 0), (0, 0, 0))), (((0, (-2147483648), 2147483647), 0, (0, 0, 0), (0, 0, 0)), (0, (0, 4, 0), (0, 0, 0)))], [some (1, 0, 0), some (1, 1, 0), some (1, 2, 0), some (1, 3, 0), some (1, 4, 0), none], [], []), [(0, 0, 0), (1, 4, 0), (0, 0, 0)])
abbrev sn_106 : List se_Nd := [sn_106_0]
set_option maxRecDepth 100000 in
theorem sk_106 : se_chk0 se_tt [sc_25, sc_103] se_Z 37 se_zt sc_106 sn_106 5 = true := by decide +kernel
set_option maxRecDepth 100000 in
theorem sk_106_0 : se_chkn se_tt [sc_25, sc_103] se_Z 37 se_zt sc_106 sn_106 5 sn_106_0 = true := by decide +kernel
theorem sm_106 {ty : Nat → Option Nat} {J : List mm_C → Prop} {kx : Nat} {zs : List mm_Zt} (hO : se_Ok ty J kx zs) (h25 : se_Met ty se_tt J kx zs sc_25) (h103 : se_Met ty se_tt J kx zs sc_103) : se_Met ty se_tt J kx zs sc_106 := se_sound (C := [sc_25, sc_103]) hO.1 hO.2.1 hO.2.2 (fun n hn => by
  rcases List.mem_cons.mp hn with rfl | hn
  · exact h25
  rcases List.mem_cons.mp hn with rfl | hn
  · exact h103
  exact absurd hn List.not_mem_nil) sk_106 (fun n hn => by
  rcases List.mem_cons.mp hn with rfl | hn
  · exact sk_106_0
  exact absurd hn List.not_mem_nil)
/-- RaftTown$Net.bestCuts -/
def sc_107 : se_C := ((187, 5), ([(((76, 0, 0), 0, (0, 0, 0), (0, 0, 0)), (0, (0, 0, 0), (0, 0, 0))), (((0, (-2147483648), 2147483647), 0, (0, 0, 0), (0, 0, 0)), (0, (0, 1, 0), (0, 0, 0)))], [some (1, 0, 0), some (1, 1, 0)], [], []), [([(((0, 0, 4095), 0, (0, 0, 0), (0, 0, 0)), (0, (0, 0, 0), (0, 0, 0)))], some (1, 2, 0), [], [])], [])
def sn_107_0 : se_Nd := (31, ([(((76, 0, 0), 0, (0, 0, 0), (0, 0, 0)), (3, (0, 0, 0), (0, 0, 0))), (((0, (-2147483648), 2147483647), 0, (0, 0, 0), (0, 0, 0)), (3, (0, 1, 0), (0, 0, 0))), (((0, 0, 4095), 0, (0, 0, 0), (0, 0, 0)), (0, (0, 2, 0), (0, 0, 0))), (((0, (-63), 63), 0, (0, 0, 0), (0, 0, 0)), (0, (0, 3, 0), (0, 0, 0))), (((0, 0, 4095), 0, (0, 0, 0), (0, 0, 0)), (0, (0, 4, 0), (0, 0, 0)))], [some (1, 0, 0), some (1, 1, 0), some (1, 2, 0), some (1, 3, 0), some (1, 4, 0)], [], []), [(0, 0, 0), ((-1), 4, 0), (0, 0, 0)])
abbrev sn_107 : List se_Nd := [sn_107_0]
set_option maxRecDepth 100000 in
theorem sk_107 : se_chk0 se_tt [sc_25, sc_38, sc_101, sc_106] se_Z 37 se_zt sc_107 sn_107 6 = true := by decide +kernel
set_option maxRecDepth 100000 in
theorem sk_107_0 : se_chkn se_tt [sc_25, sc_38, sc_101, sc_106] se_Z 37 se_zt sc_107 sn_107 6 sn_107_0 = true := by decide +kernel
theorem sm_107 {ty : Nat → Option Nat} {J : List mm_C → Prop} {kx : Nat} {zs : List mm_Zt} (hO : se_Ok ty J kx zs) (h25 : se_Met ty se_tt J kx zs sc_25) (h38 : se_Met ty se_tt J kx zs sc_38) (h101 : se_Met ty se_tt J kx zs sc_101) (h106 : se_Met ty se_tt J kx zs sc_106) : se_Met ty se_tt J kx zs sc_107 := se_sound (C := [sc_25, sc_38, sc_101, sc_106]) hO.1 hO.2.1 hO.2.2 (fun n hn => by
  rcases List.mem_cons.mp hn with rfl | hn
  · exact h25
  rcases List.mem_cons.mp hn with rfl | hn
  · exact h38
  rcases List.mem_cons.mp hn with rfl | hn
  · exact h101
  rcases List.mem_cons.mp hn with rfl | hn
  · exact h106
  exact absurd hn List.not_mem_nil) sk_107 (fun n hn => by
  rcases List.mem_cons.mp hn with rfl | hn
  · exact sk_107_0
  exact absurd hn List.not_mem_nil)
/-- RaftTown.storm -/
def sc_108 : se_C := ((186, 6), ([(((90, 0, 0), 0, (0, 0, 0), (0, 0, 0)), (0, (0, 0, 0), (0, 0, 0))), (((0, (-2147483648), 2147483647), 0, (0, 0, 0), (0, 0, 0)), (0, (0, 1, 0), (0, 0, 0))), (((0, 0, 1), 0, (0, 0, 0), (0, 0, 0)), (0, (0, 2, 0), (0, 0, 0)))], [some (1, 0, 0), some (1, 1, 0), some (1, 2, 0)], [], []), [([(((0, (-2147483648), 2147483647), 0, (0, 0, 0), (0, 0, 0)), (0, (0, 0, 0), (0, 0, 0)))], some (1, 3, 0), [], [])], [(45, 0, 12), (46, 0, 12), (47, 0, 12), (48, 0, 10), (74, 4, 5), (74, 5, 6), (88, 7, 8)])
abbrev sn_108 : List se_Nd := []
set_option maxRecDepth 100000 in
theorem sk_108 : se_chk0 se_tt [sc_4, sc_25, sc_38, sc_107] se_Z 37 se_zt sc_108 sn_108 6 = true := by decide +kernel
theorem sm_108 {ty : Nat → Option Nat} {J : List mm_C → Prop} {kx : Nat} {zs : List mm_Zt} (hO : se_Ok ty J kx zs) (h4 : se_Met ty se_tt J kx zs sc_4) (h25 : se_Met ty se_tt J kx zs sc_25) (h38 : se_Met ty se_tt J kx zs sc_38) (h107 : se_Met ty se_tt J kx zs sc_107) : se_Met ty se_tt J kx zs sc_108 := se_sound (C := [sc_4, sc_25, sc_38, sc_107]) hO.1 hO.2.1 hO.2.2 (fun n hn => by
  rcases List.mem_cons.mp hn with rfl | hn
  · exact h4
  rcases List.mem_cons.mp hn with rfl | hn
  · exact h25
  rcases List.mem_cons.mp hn with rfl | hn
  · exact h38
  rcases List.mem_cons.mp hn with rfl | hn
  · exact h107
  exact absurd hn List.not_mem_nil) sk_108 (fun _ hn => absurd hn List.not_mem_nil)
/-- RaftTown$Net.firstUnproved -/
def sc_109 : se_C := ((191, 3), ([(((76, 0, 0), 0, (0, 0, 0), (0, 0, 0)), (0, (0, 0, 0), (0, 0, 0))), (((0, (-2147483648), 2147483647), 0, (0, 0, 0), (0, 0, 0)), (0, (0, 1, 0), (0, 0, 0))), (((0, (-2147483648), 2147483647), 0, (0, 0, 0), (0, 0, 0)), (0, (0, 2, 0), (0, 0, 0))), (((81, 0, 0), 0, (0, 0, 0), (0, 0, 0)), (0, (0, 3, 0), (0, 0, 0)))], [some (1, 0, 0), some (1, 1, 0), some (1, 2, 0), some (1, 3, 0)], [], []), [([(((0, (-2147483648), 2147483647), 0, (0, 0, 0), (0, 0, 0)), (0, (0, 0, 0), (0, 0, 0)))], some (1, 4, 0), [], [])], [])
def sn_109_0 : se_Nd := (6, ([(((76, 0, 0), 0, (0, 0, 0), (0, 0, 0)), (3, (0, 0, 0), (0, 0, 0))), (((0, (-2147483648), 2147483647), 0, (0, 0, 0), (0, 0, 0)), (3, (0, 1, 0), (0, 0, 0))), (((0, (-2147483648), 2147483647), 0, (0, 0, 0), (0, 0, 0)), (3, (0, 2, 0), (0, 0, 0))), (((81, 0, 0), 0, (0, 0, 0), (0, 0, 0)), (3, (0, 3, 0), (0, 0, 0))), (((0, (-2147483648), 2147483647), 0, (0, 0, 0), (0, 0, 0)), (0, (0, 4, 0), (0, 0, 0))), (((0, 0, 12), 0, (0, 0, 0), (0, 0, 0)), (0, (0, 5, 0), (0, 0, 0)))], [some (1, 0, 0), some (1, 1, 0), some (1, 2, 0), some (1, 3, 0), some (1, 4, 0), some (1, 5, 0), none], [], []), [(0, 0, 0), ((-1), 5, 0), (0, 0, 0)])
abbrev sn_109 : List se_Nd := [sn_109_0]
set_option maxRecDepth 100000 in
theorem sk_109 : se_chk0 se_tt [sc_23] se_Z 37 se_zt sc_109 sn_109 7 = true := by decide +kernel
set_option maxRecDepth 100000 in
theorem sk_109_0 : se_chkn se_tt [sc_23] se_Z 37 se_zt sc_109 sn_109 7 sn_109_0 = true := by decide +kernel
theorem sm_109 {ty : Nat → Option Nat} {J : List mm_C → Prop} {kx : Nat} {zs : List mm_Zt} (hO : se_Ok ty J kx zs) (h23 : se_Met ty se_tt J kx zs sc_23) : se_Met ty se_tt J kx zs sc_109 := se_sound (C := [sc_23]) hO.1 hO.2.1 hO.2.2 (fun n hn => by
  rcases List.mem_cons.mp hn with rfl | hn
  · exact h23
  exact absurd hn List.not_mem_nil) sk_109 (fun n hn => by
  rcases List.mem_cons.mp hn with rfl | hn
  · exact sk_109_0
  exact absurd hn List.not_mem_nil)
/-- RaftTown.proves -/
def sc_110 : se_C := ((190, 4), ([(((90, 0, 0), 0, (0, 0, 0), (0, 0, 0)), (0, (0, 0, 0), (0, 0, 0))), (((0, (-2147483648), 2147483647), 0, (0, 0, 0), (0, 0, 0)), (0, (0, 1, 0), (0, 0, 0))), (((0, (-2147483648), 2147483647), 0, (0, 0, 0), (0, 0, 0)), (0, (0, 2, 0), (0, 0, 0))), (((0, (-2147483648), 2147483647), 0, (0, 0, 0), (0, 0, 0)), (0, (0, 3, 0), (0, 0, 0)))], [some (1, 0, 0), some (1, 1, 0), some (1, 2, 0), some (1, 3, 0)], [], []), [([(((0, (-2147483648), 2147483647), 0, (0, 0, 0), (0, 0, 0)), (0, (0, 0, 0), (0, 0, 0)))], some (1, 4, 0), [], [])], [(45, 0, 12), (46, 0, 12), (47, 0, 12), (48, 0, 10), (74, 4, 5), (74, 5, 6), (88, 7, 8)])
abbrev sn_110 : List se_Nd := []
set_option maxRecDepth 100000 in
theorem sk_110 : se_chk0 se_tt [sc_4, sc_25, sc_109] se_Z 37 se_zt sc_110 sn_110 7 = true := by decide +kernel
theorem sm_110 {ty : Nat → Option Nat} {J : List mm_C → Prop} {kx : Nat} {zs : List mm_Zt} (hO : se_Ok ty J kx zs) (h4 : se_Met ty se_tt J kx zs sc_4) (h25 : se_Met ty se_tt J kx zs sc_25) (h109 : se_Met ty se_tt J kx zs sc_109) : se_Met ty se_tt J kx zs sc_110 := se_sound (C := [sc_4, sc_25, sc_109]) hO.1 hO.2.1 hO.2.2 (fun n hn => by
  rcases List.mem_cons.mp hn with rfl | hn
  · exact h4
  rcases List.mem_cons.mp hn with rfl | hn
  · exact h25
  rcases List.mem_cons.mp hn with rfl | hn
  · exact h109
  exact absurd hn List.not_mem_nil) sk_110 (fun _ hn => absurd hn List.not_mem_nil)
/-- RaftTown$Sea.aDayOn -/
def sc_111 : se_C := ((195, 1), ([(((80, 0, 0), 0, (0, 0, 0), (0, 0, 0)), (0, (0, 0, 0), (0, 0, 0))), (((1, 0, 0), 0, (0, 0, 0), (0, 0, 0)), (0, (0, 1, 0), (0, 0, 0)))], [some (1, 0, 0), some (1, 1, 0), none], [], []), [([(((1, 0, 0), 0, (0, 0, 0), (0, 0, 0)), (0, (0, 0, 0), (0, 0, 0)))], some (1, 2, 0), [], [])], [])
def sn_111_0 : se_Nd := (5, ([(((80, 0, 0), 0, (0, 0, 0), (0, 0, 0)), (3, (0, 0, 0), (0, 0, 0))), (((1, 0, 0), 0, (0, 0, 0), (0, 0, 0)), (3, (0, 1, 0), (0, 0, 0))), (((1, 0, 0), 0, (0, 0, 0), (0, 0, 0)), (0, (0, 3, 0), (0, 0, 0))), (((0, 0, 36), 0, (0, 0, 0), (0, 0, 0)), (0, (0, 5, 0), (0, 0, 0)))], [some (1, 0, 0), some (1, 1, 0), none, some (1, 2, 0), none, some (1, 3, 0)], [], []), [(0, 0, 0), ((-1), 3, 0), (0, 0, 0)])
abbrev sn_111 : List se_Nd := [sn_111_0]
set_option maxRecDepth 100000 in
theorem sk_111 : se_chk0 se_tt [] se_Z 37 se_zt sc_111 sn_111 5 = true := by decide +kernel
set_option maxRecDepth 100000 in
theorem sk_111_0 : se_chkn se_tt [] se_Z 37 se_zt sc_111 sn_111 5 sn_111_0 = true := by decide +kernel
theorem sm_111 {ty : Nat → Option Nat} {J : List mm_C → Prop} {kx : Nat} {zs : List mm_Zt} (hO : se_Ok ty J kx zs) : se_Met ty se_tt J kx zs sc_111 := se_sound (C := []) hO.1 hO.2.1 hO.2.2 (fun _ hn => absurd hn List.not_mem_nil) sk_111 (fun n hn => by
  rcases List.mem_cons.mp hn with rfl | hn
  · exact sk_111_0
  exact absurd hn List.not_mem_nil)
/-- java/lang/Long.bitCount -/
def sc_112 : se_C := ((196, 1), ([(((1, 0, 0), 0, (0, 0, 0), (0, 0, 0)), (0, (0, 0, 0), (0, 0, 0)))], [some (1, 0, 0), none], [], []), [([(((0, 0, 127), 0, (0, 0, 0), (0, 0, 0)), (0, (0, 0, 0), (0, 0, 0)))], some (1, 1, 0), [], [])], [])
abbrev sn_112 : List se_Nd := []
set_option maxRecDepth 100000 in
theorem sk_112 : se_chk0 se_tt [] se_Z 37 se_zt sc_112 sn_112 6 = true := by decide +kernel
theorem sm_112 {ty : Nat → Option Nat} {J : List mm_C → Prop} {kx : Nat} {zs : List mm_Zt} (hO : se_Ok ty J kx zs) : se_Met ty se_tt J kx zs sc_112 := se_sound (C := []) hO.1 hO.2.1 hO.2.2 (fun _ hn => absurd hn List.not_mem_nil) sk_112 (fun _ hn => absurd hn List.not_mem_nil)
/-- RaftTown$Sea.patchSize -/
def sc_113 : se_C := ((194, 2), ([(((80, 0, 0), 0, (0, 0, 0), (0, 0, 0)), (0, (0, 0, 0), (0, 0, 0))), (((0, (-2147483648), 2147483647), 0, (0, 0, 0), (0, 0, 0)), (0, (0, 1, 0), (0, 0, 0))), (((0, (-2147483648), 2147483647), 0, (0, 0, 0), (0, 0, 0)), (0, (0, 2, 0), (0, 0, 0))), (((0, 0, 1), 0, (0, 0, 0), (0, 0, 0)), (0, (0, 3, 0), (0, 0, 0)))], [some (1, 0, 0), some (1, 1, 0), some (1, 2, 0), some (1, 3, 0)], [], []), [([(((0, 0, 127), 0, (0, 0, 0), (0, 0, 0)), (0, (0, 0, 0), (0, 0, 0)))], some (1, 4, 0), [], [])], [(51, 0, 36)])
def sn_113_0 : se_Nd := (3, ([(((80, 0, 0), 0, (0, 0, 0), (0, 0, 0)), (3, (0, 0, 0), (0, 0, 0))), (((0, (-2147483648), 2147483647), 0, (0, 0, 0), (0, 0, 0)), (3, (0, 1, 0), (0, 0, 0))), (((0, (-2147483648), 2147483647), 0, (0, 0, 0), (0, 0, 0)), (3, (0, 2, 0), (0, 0, 0))), (((0, 0, 1), 0, (0, 0, 0), (0, 0, 0)), (3, (0, 3, 0), (0, 0, 0))), (((0, 0, 36), 0, (0, 0, 0), (0, 0, 0)), (0, (0, 4, 0), (0, 0, 0)))], [some (1, 0, 0), some (1, 1, 0), some (1, 2, 0), some (1, 3, 0), some (1, 4, 0), none, none, none], [], []), [(0, 0, 1), ((-1), 4, 0), (0, 0, 1)])
def sn_113_1 : se_Nd := (36, ([(((80, 0, 0), 0, (0, 0, 0), (0, 0, 0)), (3, (0, 0, 0), (0, 0, 0))), (((0, (-2147483648), 2147483647), 0, (0, 0, 0), (0, 0, 0)), (3, (0, 1, 0), (0, 0, 0))), (((0, (-2147483648), 2147483647), 0, (0, 0, 0), (0, 0, 0)), (3, (0, 2, 0), (0, 0, 0))), (((0, 0, 1), 0, (0, 0, 0), (0, 0, 0)), (3, (0, 3, 0), (0, 0, 0))), (((0, 0, 35), 0, (0, 0, 0), (0, 0, 0)), (0, (0, 4, 0), (0, 0, 0))), (((1, 0, 0), 0, (0, 0, 0), (0, 0, 0)), (0, (0, 5, 0), (0, 0, 0))), (((0, 0, 4), 0, (0, 0, 0), (0, 0, 0)), (0, (0, 7, 0), (0, 0, 0)))], [some (1, 0, 0), some (1, 1, 0), some (1, 2, 0), some (1, 3, 0), some (1, 4, 0), some (1, 5, 0), none, some (1, 6, 0)], [], []), [(0, 0, 1), ((-1), 4, 0), (0, 0, 0), ((-1), 6, 0), (0, 0, 0)])
def sn_113_2 : se_Nd := (101, ([(((80, 0, 0), 0, (0, 0, 0), (0, 0, 0)), (3, (0, 0, 0), (0, 0, 0))), (((0, (-2147483648), 2147483647), 0, (0, 0, 0), (0, 0, 0)), (3, (0, 1, 0), (0, 0, 0))), (((0, (-2147483648), 2147483647), 0, (0, 0, 0), (0, 0, 0)), (3, (0, 2, 0), (0, 0, 0))), (((0, 0, 1), 0, (0, 0, 0), (0, 0, 0)), (3, (0, 3, 0), (0, 0, 0))), (((1, 0, 0), 0, (0, 0, 0), (0, 0, 0)), (0, (0, 4, 0), (0, 0, 0))), (((0, 0, 2147483647), 0, (0, 0, 0), (0, 0, 0)), (0, (0, 6, 0), (0, 0, 0)))], [some (1, 0, 0), some (1, 1, 0), some (1, 2, 0), some (1, 3, 0), some (1, 4, 0), none, some (1, 5, 0), none], [], []), [(0, 0, 0), ((-1), 5, 0), (0, 0, 0)])
abbrev sn_113 : List se_Nd := [sn_113_0, sn_113_1, sn_113_2]
set_option maxRecDepth 100000 in
theorem sk_113 : se_chk0 se_tt [sc_111, sc_112] se_Z 37 se_zt sc_113 sn_113 8 = true := by decide +kernel
set_option maxRecDepth 100000 in
theorem sk_113_0 : se_chkn se_tt [sc_111, sc_112] se_Z 37 se_zt sc_113 sn_113 8 sn_113_0 = true := by decide +kernel
set_option maxRecDepth 100000 in
theorem sk_113_1 : se_chkn se_tt [sc_111, sc_112] se_Z 37 se_zt sc_113 sn_113 8 sn_113_1 = true := by decide +kernel
set_option maxRecDepth 100000 in
theorem sk_113_2 : se_chkn se_tt [sc_111, sc_112] se_Z 37 se_zt sc_113 sn_113 8 sn_113_2 = true := by decide +kernel
theorem sm_113 {ty : Nat → Option Nat} {J : List mm_C → Prop} {kx : Nat} {zs : List mm_Zt} (hO : se_Ok ty J kx zs) (h111 : se_Met ty se_tt J kx zs sc_111) (h112 : se_Met ty se_tt J kx zs sc_112) : se_Met ty se_tt J kx zs sc_113 := se_sound (C := [sc_111, sc_112]) hO.1 hO.2.1 hO.2.2 (fun n hn => by
  rcases List.mem_cons.mp hn with rfl | hn
  · exact h111
  rcases List.mem_cons.mp hn with rfl | hn
  · exact h112
  exact absurd hn List.not_mem_nil) sk_113 (fun n hn => by
  rcases List.mem_cons.mp hn with rfl | hn
  · exact sk_113_0
  rcases List.mem_cons.mp hn with rfl | hn
  · exact sk_113_1
  rcases List.mem_cons.mp hn with rfl | hn
  · exact sk_113_2
  exact absurd hn List.not_mem_nil)
/-- RaftTown.patch -/
def sc_114 : se_C := ((192, 3), ([(((90, 0, 0), 0, (0, 0, 0), (0, 0, 0)), (0, (0, 0, 0), (0, 0, 0))), (((0, (-2147483648), 2147483647), 0, (0, 0, 0), (0, 0, 0)), (0, (0, 1, 0), (0, 0, 0))), (((0, (-2147483648), 2147483647), 0, (0, 0, 0), (0, 0, 0)), (0, (0, 2, 0), (0, 0, 0)))], [some (1, 0, 0), some (1, 1, 0), some (1, 2, 0)], [], []), [([(((0, (-100006), 127), 0, (0, 0, 0), (0, 0, 0)), (0, (0, 0, 0), (0, 0, 0)))], some (1, 3, 0), [], [])], [(45, 0, 12), (46, 0, 12), (47, 0, 12), (48, 0, 10), (51, 0, 36), (74, 4, 5), (74, 5, 6), (88, 7, 8)])
abbrev sn_114 : List se_Nd := []
set_option maxRecDepth 100000 in
theorem sk_114 : se_chk0 se_tt [sc_4, sc_5, sc_53, sc_113] se_Z 37 se_zt sc_114 sn_114 7 = true := by decide +kernel
theorem sm_114 {ty : Nat → Option Nat} {J : List mm_C → Prop} {kx : Nat} {zs : List mm_Zt} (hO : se_Ok ty J kx zs) (h4 : se_Met ty se_tt J kx zs sc_4) (h5 : se_Met ty se_tt J kx zs sc_5) (h53 : se_Met ty se_tt J kx zs sc_53) (h113 : se_Met ty se_tt J kx zs sc_113) : se_Met ty se_tt J kx zs sc_114 := se_sound (C := [sc_4, sc_5, sc_53, sc_113]) hO.1 hO.2.1 hO.2.2 (fun n hn => by
  rcases List.mem_cons.mp hn with rfl | hn
  · exact h4
  rcases List.mem_cons.mp hn with rfl | hn
  · exact h5
  rcases List.mem_cons.mp hn with rfl | hn
  · exact h53
  rcases List.mem_cons.mp hn with rfl | hn
  · exact h113
  exact absurd hn List.not_mem_nil) sk_114 (fun _ hn => absurd hn List.not_mem_nil)
/-- RaftTown$Sea.soonest -/
def sc_115 : se_C := ((198, 2), ([(((80, 0, 0), 0, (0, 0, 0), (0, 0, 0)), (0, (0, 0, 0), (0, 0, 0))), (((0, (-2147483648), 2147483647), 0, (0, 0, 0), (0, 0, 0)), (0, (0, 1, 0), (0, 0, 0))), (((0, (-2147483648), 2147483647), 0, (0, 0, 0), (0, 0, 0)), (0, (0, 2, 0), (0, 0, 0))), (((0, 0, 1), 0, (0, 0, 0), (0, 0, 0)), (0, (0, 3, 0), (0, 0, 0)))], [some (1, 0, 0), some (1, 1, 0), some (1, 2, 0), some (1, 3, 0)], [], []), [([(((0, (-1), 30), 0, (0, 0, 0), (0, 0, 0)), (0, (0, 0, 0), (0, 0, 0)))], some (1, 4, 0), [], [])], [(51, 0, 36)])
def sn_115_0 : se_Nd := (3, ([(((80, 0, 0), 0, (0, 0, 0), (0, 0, 0)), (3, (0, 0, 0), (0, 0, 0))), (((0, (-2147483648), 2147483647), 0, (0, 0, 0), (0, 0, 0)), (3, (0, 1, 0), (0, 0, 0))), (((0, (-2147483648), 2147483647), 0, (0, 0, 0), (0, 0, 0)), (3, (0, 2, 0), (0, 0, 0))), (((0, 0, 1), 0, (0, 0, 0), (0, 0, 0)), (3, (0, 3, 0), (0, 0, 0))), (((0, 0, 36), 0, (0, 0, 0), (0, 0, 0)), (0, (0, 4, 0), (0, 0, 0)))], [some (1, 0, 0), some (1, 1, 0), some (1, 2, 0), some (1, 3, 0), some (1, 4, 0), none, none, none, none], [], []), [(0, 0, 1), ((-1), 4, 0), (0, 0, 1)])
def sn_115_1 : se_Nd := (27, ([(((80, 0, 0), 0, (0, 0, 0), (0, 0, 0)), (3, (0, 0, 0), (0, 0, 0))), (((0, (-2147483648), 2147483647), 0, (0, 0, 0), (0, 0, 0)), (3, (0, 1, 0), (0, 0, 0))), (((0, (-2147483648), 2147483647), 0, (0, 0, 0), (0, 0, 0)), (3, (0, 2, 0), (0, 0, 0))), (((0, 0, 1), 0, (0, 0, 0), (0, 0, 0)), (3, (0, 3, 0), (0, 0, 0))), (((0, 0, 35), 0, (0, 0, 0), (0, 0, 0)), (0, (0, 4, 0), (0, 0, 0))), (((0, 0, 35), 0, (0, 0, 0), (0, 0, 0)), (0, (0, 5, 0), (0, 0, 0))), (((1, 0, 0), 0, (0, 0, 0), (0, 0, 0)), (0, (0, 6, 0), (0, 0, 0))), (((0, 0, 4), 0, (0, 0, 0), (0, 0, 0)), (0, (0, 8, 0), (0, 0, 0)))], [some (1, 0, 0), some (1, 1, 0), some (1, 2, 0), some (1, 3, 0), some (1, 4, 0), some (1, 5, 0), some (1, 6, 0), none, some (1, 7, 0)], [], []), [(0, 0, 1), ((-1), 4, 0), (0, 0, 0), ((-1), 7, 0), (0, 0, 0)])
def sn_115_2 : se_Nd := (93, ([(((80, 0, 0), 0, (0, 0, 0), (0, 0, 0)), (3, (0, 0, 0), (0, 0, 0))), (((0, (-2147483648), 2147483647), 0, (0, 0, 0), (0, 0, 0)), (3, (0, 1, 0), (0, 0, 0))), (((0, (-2147483648), 2147483647), 0, (0, 0, 0), (0, 0, 0)), (3, (0, 2, 0), (0, 0, 0))), (((0, 0, 1), 0, (0, 0, 0), (0, 0, 0)), (3, (0, 3, 0), (0, 0, 0))), (((1, 0, 0), 0, (0, 0, 0), (0, 0, 0)), (0, (0, 4, 0), (0, 0, 0))), (((0, (-2147483648), 2147483647), 0, (0, 0, 0), (0, 0, 0)), (0, (0, 6, 0), (0, 0, 0))), (((0, 0, 31), 0, (0, 0, 0), (0, 0, 0)), (0, (0, 7, 0), (0, 0, 0)))], [some (1, 0, 0), some (1, 1, 0), some (1, 2, 0), some (1, 3, 0), some (1, 4, 0), none, some (1, 5, 0), some (1, 6, 0), none], [], []), [(0, 0, 0), ((-1), 6, 0), (0, 0, 0)])
abbrev sn_115 : List se_Nd := [sn_115_0, sn_115_1, sn_115_2]
set_option maxRecDepth 100000 in
theorem sk_115 : se_chk0 se_tt [sc_111] se_Z 37 se_zt sc_115 sn_115 7 = true := by decide +kernel
set_option maxRecDepth 100000 in
theorem sk_115_0 : se_chkn se_tt [sc_111] se_Z 37 se_zt sc_115 sn_115 7 sn_115_0 = true := by decide +kernel
set_option maxRecDepth 100000 in
theorem sk_115_1 : se_chkn se_tt [sc_111] se_Z 37 se_zt sc_115 sn_115 7 sn_115_1 = true := by decide +kernel
set_option maxRecDepth 100000 in
theorem sk_115_2 : se_chkn se_tt [sc_111] se_Z 37 se_zt sc_115 sn_115 7 sn_115_2 = true := by decide +kernel
theorem sm_115 {ty : Nat → Option Nat} {J : List mm_C → Prop} {kx : Nat} {zs : List mm_Zt} (hO : se_Ok ty J kx zs) (h111 : se_Met ty se_tt J kx zs sc_111) : se_Met ty se_tt J kx zs sc_115 := se_sound (C := [sc_111]) hO.1 hO.2.1 hO.2.2 (fun n hn => by
  rcases List.mem_cons.mp hn with rfl | hn
  · exact h111
  exact absurd hn List.not_mem_nil) sk_115 (fun n hn => by
  rcases List.mem_cons.mp hn with rfl | hn
  · exact sk_115_0
  rcases List.mem_cons.mp hn with rfl | hn
  · exact sk_115_1
  rcases List.mem_cons.mp hn with rfl | hn
  · exact sk_115_2
  exact absurd hn List.not_mem_nil)
/-- RaftTown.tow -/
def sc_116 : se_C := ((197, 3), ([(((90, 0, 0), 0, (0, 0, 0), (0, 0, 0)), (0, (0, 0, 0), (0, 0, 0))), (((0, (-2147483648), 2147483647), 0, (0, 0, 0), (0, 0, 0)), (0, (0, 1, 0), (0, 0, 0))), (((0, (-2147483648), 2147483647), 0, (0, 0, 0), (0, 0, 0)), (0, (0, 2, 0), (0, 0, 0)))], [some (1, 0, 0), some (1, 1, 0), some (1, 2, 0)], [], []), [([(((0, (-100006), 30), 0, (0, 0, 0), (0, 0, 0)), (0, (0, 0, 0), (0, 0, 0)))], some (1, 3, 0), [], [])], [(45, 0, 12), (46, 0, 12), (47, 0, 12), (48, 0, 10), (51, 0, 36), (74, 4, 5), (74, 5, 6), (88, 7, 8)])
abbrev sn_116 : List se_Nd := []
set_option maxRecDepth 100000 in
theorem sk_116 : se_chk0 se_tt [sc_4, sc_5, sc_53, sc_115] se_Z 37 se_zt sc_116 sn_116 8 = true := by decide +kernel
theorem sm_116 {ty : Nat → Option Nat} {J : List mm_C → Prop} {kx : Nat} {zs : List mm_Zt} (hO : se_Ok ty J kx zs) (h4 : se_Met ty se_tt J kx zs sc_4) (h5 : se_Met ty se_tt J kx zs sc_5) (h53 : se_Met ty se_tt J kx zs sc_53) (h115 : se_Met ty se_tt J kx zs sc_115) : se_Met ty se_tt J kx zs sc_116 := se_sound (C := [sc_4, sc_5, sc_53, sc_115]) hO.1 hO.2.1 hO.2.2 (fun n hn => by
  rcases List.mem_cons.mp hn with rfl | hn
  · exact h4
  rcases List.mem_cons.mp hn with rfl | hn
  · exact h5
  rcases List.mem_cons.mp hn with rfl | hn
  · exact h53
  rcases List.mem_cons.mp hn with rfl | hn
  · exact h115
  exact absurd hn List.not_mem_nil) sk_116 (fun _ hn => absurd hn List.not_mem_nil)
/-- RaftTown$Sheet.rule -/
def sc_117 : se_C := ((200, 1), ([(((81, 0, 0), 0, (0, 0, 0), (0, 0, 0)), (0, (0, 0, 0), (0, 0, 0))), (((0, (-2147483648), 2147483647), 0, (0, 0, 0), (0, 0, 0)), (0, (0, 1, 0), (0, 0, 0))), (((0, 0, 20), 0, (0, 0, 0), (0, 0, 0)), (0, (0, 2, 0), (0, 0, 0)))], [some (1, 0, 0), some (1, 1, 0), some (1, 2, 0)], [], []), [([(((0, 0, 20), 0, (0, 0, 0), (0, 0, 0)), (0, (0, 0, 0), (0, 0, 0)))], some (1, 3, 0), [], [])], [(52, 0, 20), (79, 0, 1), (79, 1, 2)])
def sn_117_0 : se_Nd := (20, ([(((81, 0, 0), 0, (0, 0, 0), (0, 0, 0)), (3, (0, 0, 0), (0, 0, 0))), (((0, (-2147483648), 2147483647), 0, (0, 0, 0), (0, 0, 0)), (3, (0, 1, 0), (0, 0, 0))), (((0, 0, 20), 0, (0, 0, 0), (0, 0, 0)), (3, (0, 2, 0), (0, 0, 0))), (((0, 0, 20), 0, (0, 0, 0), (0, 0, 0)), (0, (0, 3, 0), (0, 0, 0)))], [some (1, 0, 0), some (1, 1, 0), some (1, 2, 0), some (1, 3, 0)], [], []), [(0, 0, 0), ((-1), 3, 0), (0, 0, 0)])
abbrev sn_117 : List se_Nd := [sn_117_0]
set_option maxRecDepth 100000 in
theorem sk_117 : se_chk0 se_tt [] se_Z 37 se_zt sc_117 sn_117 4 = true := by decide +kernel
set_option maxRecDepth 100000 in
theorem sk_117_0 : se_chkn se_tt [] se_Z 37 se_zt sc_117 sn_117 4 sn_117_0 = true := by decide +kernel
theorem sm_117 {ty : Nat → Option Nat} {J : List mm_C → Prop} {kx : Nat} {zs : List mm_Zt} (hO : se_Ok ty J kx zs) : se_Met ty se_tt J kx zs sc_117 := se_sound (C := []) hO.1 hO.2.1 hO.2.2 (fun _ hn => absurd hn List.not_mem_nil) sk_117 (fun n hn => by
  rcases List.mem_cons.mp hn with rfl | hn
  · exact sk_117_0
  exact absurd hn List.not_mem_nil)
/-- RaftTown.sheet -/
def sc_118 : se_C := ((199, 2), ([(((90, 0, 0), 0, (0, 0, 0), (0, 0, 0)), (0, (0, 0, 0), (0, 0, 0))), (((0, (-2147483648), 2147483647), 0, (0, 0, 0), (0, 0, 0)), (0, (0, 1, 0), (0, 0, 0))), (((0, (-2147483648), 2147483647), 0, (0, 0, 0), (0, 0, 0)), (0, (0, 2, 0), (0, 0, 0))), (((0, (-2147483648), 2147483647), 0, (0, 0, 0), (0, 0, 0)), (0, (0, 3, 0), (0, 0, 0)))], [some (1, 0, 0), some (1, 1, 0), some (1, 2, 0), some (1, 3, 0)], [], []), [([(((0, (-100003), 20), 0, (0, 0, 0), (0, 0, 0)), (0, (0, 0, 0), (0, 0, 0)))], some (1, 4, 0), [], [])], [(52, 0, 20), (79, 0, 1), (79, 1, 2), (88, 7, 8)])
abbrev sn_118 : List se_Nd := []
set_option maxRecDepth 100000 in
theorem sk_118 : se_chk0 se_tt [sc_117] se_Z 37 se_zt sc_118 sn_118 6 = true := by decide +kernel
theorem sm_118 {ty : Nat → Option Nat} {J : List mm_C → Prop} {kx : Nat} {zs : List mm_Zt} (hO : se_Ok ty J kx zs) (h117 : se_Met ty se_tt J kx zs sc_117) : se_Met ty se_tt J kx zs sc_118 := se_sound (C := [sc_117]) hO.1 hO.2.1 hO.2.2 (fun n hn => by
  rcases List.mem_cons.mp hn with rfl | hn
  · exact h117
  exact absurd hn List.not_mem_nil) sk_118 (fun _ hn => absurd hn List.not_mem_nil)
/-- RaftTown.put -/
def sc_119 : se_C := ((201, 1), ([(((90, 0, 0), 0, (0, 0, 0), (0, 0, 0)), (0, (0, 0, 0), (0, 0, 0))), (((0, (-2147483648), 2147483647), 0, (0, 0, 0), (0, 0, 0)), (0, (0, 1, 0), (0, 0, 0))), (((0, (-2147483648), 2147483647), 0, (0, 0, 0), (0, 0, 0)), (0, (0, 2, 0), (0, 0, 0))), (((0, (-2147483648), 2147483647), 0, (0, 0, 0), (0, 0, 0)), (0, (0, 3, 0), (0, 0, 0)))], [some (1, 0, 0), some (1, 1, 0), some (1, 2, 0), some (1, 3, 0)], [], []), [([(((0, (-100002), 0), 0, (0, 0, 0), (0, 0, 0)), (0, (0, 0, 0), (0, 0, 0)))], some (1, 4, 0), [], [])], [(52, 0, 20), (88, 7, 8)])
abbrev sn_119 : List se_Nd := []
set_option maxRecDepth 100000 in
theorem sk_119 : se_chk0 se_tt [] se_Z 37 se_zt sc_119 sn_119 7 = true := by decide +kernel
theorem sm_119 {ty : Nat → Option Nat} {J : List mm_C → Prop} {kx : Nat} {zs : List mm_Zt} (hO : se_Ok ty J kx zs) : se_Met ty se_tt J kx zs sc_119 := se_sound (C := []) hO.1 hO.2.1 hO.2.2 (fun _ hn => absurd hn List.not_mem_nil) sk_119 (fun _ hn => absurd hn List.not_mem_nil)
