/-! ===== printed by wip/p2/gen_tab.py: contracts and their checks ===== -/
/-- RaftTown$Net.fewestLashings -/
def sc_120 : se_C := ((179, 4), ([(((76, 0, 0), 0, (0, 0, 0), (0, 0, 0)), (0, (0, 0, 0), (0, 0, 0))), (((0, (-2147483648), 2147483647), 0, (0, 0, 0), (0, 0, 0)), (0, (0, 1, 0), (0, 0, 0))), (((0, (-2147483648), 2147483647), 0, (0, 0, 0), (0, 0, 0)), (0, (0, 2, 0), (0, 0, 0)))], [some (1, 0, 0), some (1, 1, 0), some (1, 2, 0)], [], []), [([(((0, (-1), 4095), 0, (0, 0, 0), (0, 0, 0)), (0, (0, 0, 0), (0, 0, 0)))], some (1, 3, 0), [], [])], [])
def sn_120_0 : se_Nd := (47, ([(((76, 0, 0), 0, (0, 0, 0), (0, 0, 0)), (3, (0, 0, 0), (0, 0, 0))), (((0, (-2147483648), 2147483647), 0, (0, 0, 0), (0, 0, 0)), (3, (0, 1, 0), (0, 0, 0))), (((0, (-2147483648), 2147483647), 0, (0, 0, 0), (0, 0, 0)), (3, (0, 2, 0), (0, 0, 0))), (((0, (-2147483648), 2147483647), 0, (0, 0, 0), (0, 0, 0)), (0, (0, 3, 0), (0, 0, 0))), (((0, 0, 4095), 0, (0, 0, 0), (0, 0, 0)), (0, (0, 4, 0), (0, 0, 0))), (((0, 0, 4095), 0, (0, 0, 0), (0, 0, 0)), (0, (0, 5, 0), (0, 0, 0))), (((0, 0, 4095), 0, (0, 0, 0), (0, 0, 0)), (0, (0, 6, 0), (0, 0, 0))), (((0, 0, 13), 0, (0, 0, 0), (0, 0, 0)), (0, (0, 7, 0), (0, 0, 0))), (((0, (-1), 4095), 0, (0, 0, 0), (0, 0, 0)), (0, (0, 8, 0), (0, 0, 0))), (((0, 0, 4096), 0, (0, 0, 0), (0, 0, 0)), (0, (0, 9, 0), (0, 0, 0)))], [some (1, 0, 0), some (1, 1, 0), some (1, 2, 0), some (1, 3, 0), some (1, 4, 0), some (1, 5, 0), some (1, 6, 0), some (1, 7, 0), some (1, 8, 0), some (1, 9, 0), none], [], []), [(0, 0, 0), ((-1), 9, 0), (0, 0, 0)])
abbrev sn_120 : List se_Nd := [sn_120_0]
set_option maxRecDepth 100000 in
theorem sk_120 : se_chk0 se_tt [sc_5, sc_25, sc_115, sc_117, sc_118, sc_119] se_Z 37 se_zt sc_120 sn_120 6 = true := by decide +kernel
set_option maxRecDepth 100000 in
theorem sk_120_0 : se_chkn se_tt [sc_5, sc_25, sc_115, sc_117, sc_118, sc_119] se_Z 37 se_zt sc_120 sn_120 6 sn_120_0 = true := by decide +kernel
theorem sm_120 {ty : Nat → Option Nat} {J : List mm_C → Prop} {kx : Nat} {zs : List mm_Zt} (hO : se_Ok ty J kx zs) (h5 : se_Met ty se_tt J kx zs sc_5) (h25 : se_Met ty se_tt J kx zs sc_25) (h115 : se_Met ty se_tt J kx zs sc_115) (h117 : se_Met ty se_tt J kx zs sc_117) (h118 : se_Met ty se_tt J kx zs sc_118) (h119 : se_Met ty se_tt J kx zs sc_119) : se_Met ty se_tt J kx zs sc_120 := se_sound (C := [sc_5, sc_25, sc_115, sc_117, sc_118, sc_119]) hO.1 hO.2.1 hO.2.2 (fun n hn => by
  rcases List.mem_cons.mp hn with rfl | hn
  · exact h5
  rcases List.mem_cons.mp hn with rfl | hn
  · exact h25
  rcases List.mem_cons.mp hn with rfl | hn
  · exact h115
  rcases List.mem_cons.mp hn with rfl | hn
  · exact h117
  rcases List.mem_cons.mp hn with rfl | hn
  · exact h118
  rcases List.mem_cons.mp hn with rfl | hn
  · exact h119
  exact absurd hn List.not_mem_nil) sk_120 (fun n hn => by
  rcases List.mem_cons.mp hn with rfl | hn
  · exact sk_120_0
  exact absurd hn List.not_mem_nil)
/-- RaftTown.lash -/
def sc_121 : se_C := ((178, 5), ([(((90, 0, 0), 0, (0, 0, 0), (0, 0, 0)), (0, (0, 0, 0), (0, 0, 0))), (((0, (-2147483648), 2147483647), 0, (0, 0, 0), (0, 0, 0)), (0, (0, 1, 0), (0, 0, 0))), (((0, (-2147483648), 2147483647), 0, (0, 0, 0), (0, 0, 0)), (0, (0, 2, 0), (0, 0, 0)))], [some (1, 0, 0), some (1, 1, 0), some (1, 2, 0)], [], []), [([(((0, (-100006), 4095), 0, (0, 0, 0), (0, 0, 0)), (0, (0, 0, 0), (0, 0, 0)))], some (1, 3, 0), [], [])], [(45, 0, 12), (46, 0, 12), (47, 0, 12), (48, 0, 10), (74, 4, 5), (74, 5, 6), (88, 7, 8)])
abbrev sn_121 : List se_Nd := []
set_option maxRecDepth 100000 in
theorem sk_121 : se_chk0 se_tt [sc_4, sc_120] se_Z 37 se_zt sc_121 sn_121 7 = true := by decide +kernel
theorem sm_121 {ty : Nat → Option Nat} {J : List mm_C → Prop} {kx : Nat} {zs : List mm_Zt} (hO : se_Ok ty J kx zs) (h4 : se_Met ty se_tt J kx zs sc_4) (h120 : se_Met ty se_tt J kx zs sc_120) : se_Met ty se_tt J kx zs sc_121 := se_sound (C := [sc_4, sc_120]) hO.1 hO.2.1 hO.2.2 (fun n hn => by
  rcases List.mem_cons.mp hn with rfl | hn
  · exact h4
  rcases List.mem_cons.mp hn with rfl | hn
  · exact h120
  exact absurd hn List.not_mem_nil) sk_121 (fun _ hn => absurd hn List.not_mem_nil)
/-- RaftTown$Net.mostKept -/
def sc_122 : se_C := ((188, 4), ([(((76, 0, 0), 0, (0, 0, 0), (0, 0, 0)), (0, (0, 0, 0), (0, 0, 0))), (((0, (-2147483648), 2147483647), 0, (0, 0, 0), (0, 0, 0)), (0, (0, 1, 0), (0, 0, 0))), (((0, (-2147483648), 2147483647), 0, (0, 0, 0), (0, 0, 0)), (0, (0, 2, 0), (0, 0, 0)))], [some (1, 0, 0), some (1, 1, 0), some (1, 2, 0)], [], []), [([(((0, 0, 63), 0, (0, 0, 0), (0, 0, 0)), (0, (0, 0, 0), (0, 0, 0)))], some (1, 3, 0), [], [])], [])
def sn_122_0 : se_Nd := (5, ([(((76, 0, 0), 0, (0, 0, 0), (0, 0, 0)), (3, (0, 0, 0), (0, 0, 0))), (((0, (-2147483648), 2147483647), 0, (0, 0, 0), (0, 0, 0)), (3, (0, 1, 0), (0, 0, 0))), (((0, (-2147483648), 2147483647), 0, (0, 0, 0), (0, 0, 0)), (3, (0, 2, 0), (0, 0, 0))), (((0, 0, 63), 0, (0, 0, 0), (0, 0, 0)), (0, (0, 3, 0), (0, 0, 0))), (((0, (-2147483648), 2147483647), 0, (0, 0, 0), (0, 0, 0)), (0, (0, 4, 0), (0, 0, 0)))], [some (1, 0, 0), some (1, 1, 0), some (1, 2, 0), some (1, 3, 0), some (1, 4, 0), none], [], []), [(0, 0, 0), (1, 4, 0), (0, 0, 0)])
abbrev sn_122 : List se_Nd := [sn_122_0]
set_option maxRecDepth 100000 in
theorem sk_122 : se_chk0 se_tt [sc_25, sc_119] se_Z 37 se_zt sc_122 sn_122 5 = true := by decide +kernel
set_option maxRecDepth 100000 in
theorem sk_122_0 : se_chkn se_tt [sc_25, sc_119] se_Z 37 se_zt sc_122 sn_122 5 sn_122_0 = true := by decide +kernel
theorem sm_122 {ty : Nat → Option Nat} {J : List mm_C → Prop} {kx : Nat} {zs : List mm_Zt} (hO : se_Ok ty J kx zs) (h25 : se_Met ty se_tt J kx zs sc_25) (h119 : se_Met ty se_tt J kx zs sc_119) : se_Met ty se_tt J kx zs sc_122 := se_sound (C := [sc_25, sc_119]) hO.1 hO.2.1 hO.2.2 (fun n hn => by
  rcases List.mem_cons.mp hn with rfl | hn
  · exact h25
  rcases List.mem_cons.mp hn with rfl | hn
  · exact h119
  exact absurd hn List.not_mem_nil) sk_122 (fun n hn => by
  rcases List.mem_cons.mp hn with rfl | hn
  · exact sk_122_0
  exact absurd hn List.not_mem_nil)
/-- RaftTown$Net.bestCuts -/
def sc_123 : se_C := ((187, 5), ([(((76, 0, 0), 0, (0, 0, 0), (0, 0, 0)), (0, (0, 0, 0), (0, 0, 0))), (((0, (-2147483648), 2147483647), 0, (0, 0, 0), (0, 0, 0)), (0, (0, 1, 0), (0, 0, 0)))], [some (1, 0, 0), some (1, 1, 0)], [], []), [([(((0, 0, 4095), 0, (0, 0, 0), (0, 0, 0)), (0, (0, 0, 0), (0, 0, 0)))], some (1, 2, 0), [], [])], [])
def sn_123_0 : se_Nd := (31, ([(((76, 0, 0), 0, (0, 0, 0), (0, 0, 0)), (3, (0, 0, 0), (0, 0, 0))), (((0, (-2147483648), 2147483647), 0, (0, 0, 0), (0, 0, 0)), (3, (0, 1, 0), (0, 0, 0))), (((0, 0, 4095), 0, (0, 0, 0), (0, 0, 0)), (0, (0, 2, 0), (0, 0, 0))), (((0, (-63), 63), 0, (0, 0, 0), (0, 0, 0)), (0, (0, 3, 0), (0, 0, 0))), (((0, 0, 4095), 0, (0, 0, 0), (0, 0, 0)), (0, (0, 4, 0), (0, 0, 0)))], [some (1, 0, 0), some (1, 1, 0), some (1, 2, 0), some (1, 3, 0), some (1, 4, 0)], [], []), [(0, 0, 0), ((-1), 4, 0), (0, 0, 0)])
abbrev sn_123 : List se_Nd := [sn_123_0]
set_option maxRecDepth 100000 in
theorem sk_123 : se_chk0 se_tt [sc_25, sc_38, sc_117, sc_122] se_Z 37 se_zt sc_123 sn_123 6 = true := by decide +kernel
set_option maxRecDepth 100000 in
theorem sk_123_0 : se_chkn se_tt [sc_25, sc_38, sc_117, sc_122] se_Z 37 se_zt sc_123 sn_123 6 sn_123_0 = true := by decide +kernel
theorem sm_123 {ty : Nat → Option Nat} {J : List mm_C → Prop} {kx : Nat} {zs : List mm_Zt} (hO : se_Ok ty J kx zs) (h25 : se_Met ty se_tt J kx zs sc_25) (h38 : se_Met ty se_tt J kx zs sc_38) (h117 : se_Met ty se_tt J kx zs sc_117) (h122 : se_Met ty se_tt J kx zs sc_122) : se_Met ty se_tt J kx zs sc_123 := se_sound (C := [sc_25, sc_38, sc_117, sc_122]) hO.1 hO.2.1 hO.2.2 (fun n hn => by
  rcases List.mem_cons.mp hn with rfl | hn
  · exact h25
  rcases List.mem_cons.mp hn with rfl | hn
  · exact h38
  rcases List.mem_cons.mp hn with rfl | hn
  · exact h117
  rcases List.mem_cons.mp hn with rfl | hn
  · exact h122
  exact absurd hn List.not_mem_nil) sk_123 (fun n hn => by
  rcases List.mem_cons.mp hn with rfl | hn
  · exact sk_123_0
  exact absurd hn List.not_mem_nil)
/-- RaftTown.storm -/
def sc_124 : se_C := ((186, 6), ([(((90, 0, 0), 0, (0, 0, 0), (0, 0, 0)), (0, (0, 0, 0), (0, 0, 0))), (((0, (-2147483648), 2147483647), 0, (0, 0, 0), (0, 0, 0)), (0, (0, 1, 0), (0, 0, 0))), (((0, 0, 1), 0, (0, 0, 0), (0, 0, 0)), (0, (0, 2, 0), (0, 0, 0)))], [some (1, 0, 0), some (1, 1, 0), some (1, 2, 0)], [], []), [([(((0, (-2147483648), 2147483647), 0, (0, 0, 0), (0, 0, 0)), (0, (0, 0, 0), (0, 0, 0)))], some (1, 3, 0), [], [])], [(45, 0, 12), (46, 0, 12), (47, 0, 12), (48, 0, 10), (74, 4, 5), (74, 5, 6), (88, 7, 8)])
abbrev sn_124 : List se_Nd := []
set_option maxRecDepth 100000 in
theorem sk_124 : se_chk0 se_tt [sc_4, sc_25, sc_38, sc_123] se_Z 37 se_zt sc_124 sn_124 6 = true := by decide +kernel
theorem sm_124 {ty : Nat → Option Nat} {J : List mm_C → Prop} {kx : Nat} {zs : List mm_Zt} (hO : se_Ok ty J kx zs) (h4 : se_Met ty se_tt J kx zs sc_4) (h25 : se_Met ty se_tt J kx zs sc_25) (h38 : se_Met ty se_tt J kx zs sc_38) (h123 : se_Met ty se_tt J kx zs sc_123) : se_Met ty se_tt J kx zs sc_124 := se_sound (C := [sc_4, sc_25, sc_38, sc_123]) hO.1 hO.2.1 hO.2.2 (fun n hn => by
  rcases List.mem_cons.mp hn with rfl | hn
  · exact h4
  rcases List.mem_cons.mp hn with rfl | hn
  · exact h25
  rcases List.mem_cons.mp hn with rfl | hn
  · exact h38
  rcases List.mem_cons.mp hn with rfl | hn
  · exact h123
  exact absurd hn List.not_mem_nil) sk_124 (fun _ hn => absurd hn List.not_mem_nil)
/-- RaftTown$Net.firstUnproved -/
def sc_125 : se_C := ((191, 3), ([(((76, 0, 0), 0, (0, 0, 0), (0, 0, 0)), (0, (0, 0, 0), (0, 0, 0))), (((0, (-2147483648), 2147483647), 0, (0, 0, 0), (0, 0, 0)), (0, (0, 1, 0), (0, 0, 0))), (((0, (-2147483648), 2147483647), 0, (0, 0, 0), (0, 0, 0)), (0, (0, 2, 0), (0, 0, 0))), (((81, 0, 0), 0, (0, 0, 0), (0, 0, 0)), (0, (0, 3, 0), (0, 0, 0)))], [some (1, 0, 0), some (1, 1, 0), some (1, 2, 0), some (1, 3, 0)], [], []), [([(((0, (-2147483648), 2147483647), 0, (0, 0, 0), (0, 0, 0)), (0, (0, 0, 0), (0, 0, 0)))], some (1, 4, 0), [], [])], [])
def sn_125_0 : se_Nd := (6, ([(((76, 0, 0), 0, (0, 0, 0), (0, 0, 0)), (3, (0, 0, 0), (0, 0, 0))), (((0, (-2147483648), 2147483647), 0, (0, 0, 0), (0, 0, 0)), (3, (0, 1, 0), (0, 0, 0))), (((0, (-2147483648), 2147483647), 0, (0, 0, 0), (0, 0, 0)), (3, (0, 2, 0), (0, 0, 0))), (((81, 0, 0), 0, (0, 0, 0), (0, 0, 0)), (3, (0, 3, 0), (0, 0, 0))), (((0, (-2147483648), 2147483647), 0, (0, 0, 0), (0, 0, 0)), (0, (0, 4, 0), (0, 0, 0))), (((0, 0, 12), 0, (0, 0, 0), (0, 0, 0)), (0, (0, 5, 0), (0, 0, 0)))], [some (1, 0, 0), some (1, 1, 0), some (1, 2, 0), some (1, 3, 0), some (1, 4, 0), some (1, 5, 0), none], [], []), [(0, 0, 0), ((-1), 5, 0), (0, 0, 0)])
abbrev sn_125 : List se_Nd := [sn_125_0]
set_option maxRecDepth 100000 in
theorem sk_125 : se_chk0 se_tt [sc_23] se_Z 37 se_zt sc_125 sn_125 7 = true := by decide +kernel
set_option maxRecDepth 100000 in
theorem sk_125_0 : se_chkn se_tt [sc_23] se_Z 37 se_zt sc_125 sn_125 7 sn_125_0 = true := by decide +kernel
theorem sm_125 {ty : Nat → Option Nat} {J : List mm_C → Prop} {kx : Nat} {zs : List mm_Zt} (hO : se_Ok ty J kx zs) (h23 : se_Met ty se_tt J kx zs sc_23) : se_Met ty se_tt J kx zs sc_125 := se_sound (C := [sc_23]) hO.1 hO.2.1 hO.2.2 (fun n hn => by
  rcases List.mem_cons.mp hn with rfl | hn
  · exact h23
  exact absurd hn List.not_mem_nil) sk_125 (fun n hn => by
  rcases List.mem_cons.mp hn with rfl | hn
  · exact sk_125_0
  exact absurd hn List.not_mem_nil)
/-- RaftTown.proves -/
def sc_126 : se_C := ((190, 4), ([(((90, 0, 0), 0, (0, 0, 0), (0, 0, 0)), (0, (0, 0, 0), (0, 0, 0))), (((0, (-2147483648), 2147483647), 0, (0, 0, 0), (0, 0, 0)), (0, (0, 1, 0), (0, 0, 0))), (((0, (-2147483648), 2147483647), 0, (0, 0, 0), (0, 0, 0)), (0, (0, 2, 0), (0, 0, 0))), (((0, (-2147483648), 2147483647), 0, (0, 0, 0), (0, 0, 0)), (0, (0, 3, 0), (0, 0, 0)))], [some (1, 0, 0), some (1, 1, 0), some (1, 2, 0), some (1, 3, 0)], [], []), [([(((0, (-2147483648), 2147483647), 0, (0, 0, 0), (0, 0, 0)), (0, (0, 0, 0), (0, 0, 0)))], some (1, 4, 0), [], [])], [(45, 0, 12), (46, 0, 12), (47, 0, 12), (48, 0, 10), (74, 4, 5), (74, 5, 6), (88, 7, 8)])
abbrev sn_126 : List se_Nd := []
set_option maxRecDepth 100000 in
theorem sk_126 : se_chk0 se_tt [sc_4, sc_25, sc_125] se_Z 37 se_zt sc_126 sn_126 7 = true := by decide +kernel
theorem sm_126 {ty : Nat → Option Nat} {J : List mm_C → Prop} {kx : Nat} {zs : List mm_Zt} (hO : se_Ok ty J kx zs) (h4 : se_Met ty se_tt J kx zs sc_4) (h25 : se_Met ty se_tt J kx zs sc_25) (h125 : se_Met ty se_tt J kx zs sc_125) : se_Met ty se_tt J kx zs sc_126 := se_sound (C := [sc_4, sc_25, sc_125]) hO.1 hO.2.1 hO.2.2 (fun n hn => by
  rcases List.mem_cons.mp hn with rfl | hn
  · exact h4
  rcases List.mem_cons.mp hn with rfl | hn
  · exact h25
  rcases List.mem_cons.mp hn with rfl | hn
  · exact h125
  exact absurd hn List.not_mem_nil) sk_126 (fun _ hn => absurd hn List.not_mem_nil)
/-- RaftTown$Sea.aDayOn -/
def sc_127 : se_C := ((195, 1), ([(((80, 0, 0), 0, (0, 0, 0), (0, 0, 0)), (0, (0, 0, 0), (0, 0, 0))), (((1, 0, 0), 0, (0, 0, 0), (0, 0, 0)), (0, (0, 1, 0), (0, 0, 0)))], [some (1, 0, 0), some (1, 1, 0), none], [], []), [([(((1, 0, 0), 0, (0, 0, 0), (0, 0, 0)), (0, (0, 0, 0), (0, 0, 0)))], some (1, 2, 0), [], [])], [])
def sn_127_0 : se_Nd := (5, ([(((80, 0, 0), 0, (0, 0, 0), (0, 0, 0)), (3, (0, 0, 0), (0, 0, 0))), (((1, 0, 0), 0, (0, 0, 0), (0, 0, 0)), (3, (0, 1, 0), (0, 0, 0))), (((1, 0, 0), 0, (0, 0, 0), (0, 0, 0)), (0, (0, 3, 0), (0, 0, 0))), (((0, 0, 36), 0, (0, 0, 0), (0, 0, 0)), (0, (0, 5, 0), (0, 0, 0)))], [some (1, 0, 0), some (1, 1, 0), none, some (1, 2, 0), none, some (1, 3, 0)], [], []), [(0, 0, 0), ((-1), 3, 0), (0, 0, 0)])
abbrev sn_127 : List se_Nd := [sn_127_0]
set_option maxRecDepth 100000 in
theorem sk_127 : se_chk0 se_tt [] se_Z 37 se_zt sc_127 sn_127 5 = true := by decide +kernel
set_option maxRecDepth 100000 in
theorem sk_127_0 : se_chkn se_tt [] se_Z 37 se_zt sc_127 sn_127 5 sn_127_0 = true := by decide +kernel
theorem sm_127 {ty : Nat → Option Nat} {J : List mm_C → Prop} {kx : Nat} {zs : List mm_Zt} (hO : se_Ok ty J kx zs) : se_Met ty se_tt J kx zs sc_127 := se_sound (C := []) hO.1 hO.2.1 hO.2.2 (fun _ hn => absurd hn List.not_mem_nil) sk_127 (fun n hn => by
  rcases List.mem_cons.mp hn with rfl | hn
  · exact sk_127_0
  exact absurd hn List.not_mem_nil)
/-- java/lang/Long.bitCount -/
def sc_128 : se_C := ((196, 1), ([(((1, 0, 0), 0, (0, 0, 0), (0, 0, 0)), (0, (0, 0, 0), (0, 0, 0)))], [some (1, 0, 0), none], [], []), [([(((0, 0, 127), 0, (0, 0, 0), (0, 0, 0)), (0, (0, 0, 0), (0, 0, 0)))], some (1, 1, 0), [], [])], [])
abbrev sn_128 : List se_Nd := []
set_option maxRecDepth 100000 in
theorem sk_128 : se_chk0 se_tt [] se_Z 37 se_zt sc_128 sn_128 6 = true := by decide +kernel
theorem sm_128 {ty : Nat → Option Nat} {J : List mm_C → Prop} {kx : Nat} {zs : List mm_Zt} (hO : se_Ok ty J kx zs) : se_Met ty se_tt J kx zs sc_128 := se_sound (C := []) hO.1 hO.2.1 hO.2.2 (fun _ hn => absurd hn List.not_mem_nil) sk_128 (fun _ hn => absurd hn List.not_mem_nil)
/-- RaftTown$Sea.patchSize -/
def sc_129 : se_C := ((194, 2), ([(((80, 0, 0), 0, (0, 0, 0), (0, 0, 0)), (0, (0, 0, 0), (0, 0, 0))), (((0, (-2147483648), 2147483647), 0, (0, 0, 0), (0, 0, 0)), (0, (0, 1, 0), (0, 0, 0))), (((0, (-2147483648), 2147483647), 0, (0, 0, 0), (0, 0, 0)), (0, (0, 2, 0), (0, 0, 0))), (((0, 0, 1), 0, (0, 0, 0), (0, 0, 0)), (0, (0, 3, 0), (0, 0, 0)))], [some (1, 0, 0), some (1, 1, 0), some (1, 2, 0), some (1, 3, 0)], [], []), [([(((0, 0, 127), 0, (0, 0, 0), (0, 0, 0)), (0, (0, 0, 0), (0, 0, 0)))], some (1, 4, 0), [], [])], [(51, 0, 36)])
def sn_129_0 : se_Nd := (3, ([(((80, 0, 0), 0, (0, 0, 0), (0, 0, 0)), (3, (0, 0, 0), (0, 0, 0))), (((0, (-2147483648), 2147483647), 0, (0, 0, 0), (0, 0, 0)), (3, (0, 1, 0), (0, 0, 0))), (((0, (-2147483648), 2147483647), 0, (0, 0, 0), (0, 0, 0)), (3, (0, 2, 0), (0, 0, 0))), (((0, 0, 1), 0, (0, 0, 0), (0, 0, 0)), (3, (0, 3, 0), (0, 0, 0))), (((0, 0, 36), 0, (0, 0, 0), (0, 0, 0)), (0, (0, 4, 0), (0, 0, 0)))], [some (1, 0, 0), some (1, 1, 0), some (1, 2, 0), some (1, 3, 0), some (1, 4, 0), none, none, none], [], []), [(0, 0, 1), ((-1), 4, 0), (0, 0, 1)])
def sn_129_1 : se_Nd := (36, ([(((80, 0, 0), 0, (0, 0, 0), (0, 0, 0)), (3, (0, 0, 0), (0, 0, 0))), (((0, (-2147483648), 2147483647), 0, (0, 0, 0), (0, 0, 0)), (3, (0, 1, 0), (0, 0, 0))), (((0, (-2147483648), 2147483647), 0, (0, 0, 0), (0, 0, 0)), (3, (0, 2, 0), (0, 0, 0))), (((0, 0, 1), 0, (0, 0, 0), (0, 0, 0)), (3, (0, 3, 0), (0, 0, 0))), (((0, 0, 35), 0, (0, 0, 0), (0, 0, 0)), (0, (0, 4, 0), (0, 0, 0))), (((1, 0, 0), 0, (0, 0, 0), (0, 0, 0)), (0, (0, 5, 0), (0, 0, 0))), (((0, 0, 4), 0, (0, 0, 0), (0, 0, 0)), (0, (0, 7, 0), (0, 0, 0)))], [some (1, 0, 0), some (1, 1, 0), some (1, 2, 0), some (1, 3, 0), some (1, 4, 0), some (1, 5, 0), none, some (1, 6, 0)], [], []), [(0, 0, 1), ((-1), 4, 0), (0, 0, 0), ((-1), 6, 0), (0, 0, 0)])
def sn_129_2 : se_Nd := (101, ([(((80, 0, 0), 0, (0, 0, 0), (0, 0, 0)), (3, (0, 0, 0), (0, 0, 0))), (((0, (-2147483648), 2147483647), 0, (0, 0, 0), (0, 0, 0)), (3, (0, 1, 0), (0, 0, 0))), (((0, (-2147483648), 2147483647), 0, (0, 0, 0), (0, 0, 0)), (3, (0, 2, 0), (0, 0, 0))), (((0, 0, 1), 0, (0, 0, 0), (0, 0, 0)), (3, (0, 3, 0), (0, 0, 0))), (((1, 0, 0), 0, (0, 0, 0), (0, 0, 0)), (0, (0, 4, 0), (0, 0, 0))), (((0, 0, 2147483647), 0, (0, 0, 0), (0, 0, 0)), (0, (0, 6, 0), (0, 0, 0)))], [some (1, 0, 0), some (1, 1, 0), some (1, 2, 0), some (1, 3, 0), some (1, 4, 0), none, some (1, 5, 0), none], [], []), [(0, 0, 0), ((-1), 5, 0), (0, 0, 0)])
abbrev sn_129 : List se_Nd := [sn_129_0, sn_129_1, sn_129_2]
set_option maxRecDepth 100000 in
theorem sk_129 : se_chk0 se_tt [sc_127, sc_128] se_Z 37 se_zt sc_129 sn_129 8 = true := by decide +kernel
set_option maxRecDepth 100000 in
theorem sk_129_0 : se_chkn se_tt [sc_127, sc_128] se_Z 37 se_zt sc_129 sn_129 8 sn_129_0 = true := by decide +kernel
set_option maxRecDepth 100000 in
theorem sk_129_1 : se_chkn se_tt [sc_127, sc_128] se_Z 37 se_zt sc_129 sn_129 8 sn_129_1 = true := by decide +kernel
set_option maxRecDepth 100000 in
theorem sk_129_2 : se_chkn se_tt [sc_127, sc_128] se_Z 37 se_zt sc_129 sn_129 8 sn_129_2 = true := by decide +kernel
theorem sm_129 {ty : Nat → Option Nat} {J : List mm_C → Prop} {kx : Nat} {zs : List mm_Zt} (hO : se_Ok ty J kx zs) (h127 : se_Met ty se_tt J kx zs sc_127) (h128 : se_Met ty se_tt J kx zs sc_128) : se_Met ty se_tt J kx zs sc_129 := se_sound (C := [sc_127, sc_128]) hO.1 hO.2.1 hO.2.2 (fun n hn => by
  rcases List.mem_cons.mp hn with rfl | hn
  · exact h127
  rcases List.mem_cons.mp hn with rfl | hn
  · exact h128
  exact absurd hn List.not_mem_nil) sk_129 (fun n hn => by
  rcases List.mem_cons.mp hn with rfl | hn
  · exact sk_129_0
  rcases List.mem_cons.mp hn with rfl | hn
  · exact sk_129_1
  rcases List.mem_cons.mp hn with rfl | hn
  · exact sk_129_2
  exact absurd hn List.not_mem_nil)
/-- RaftTown.patch -/
def sc_130 : se_C := ((192, 3), ([(((90, 0, 0), 0, (0, 0, 0), (0, 0, 0)), (0, (0, 0, 0), (0, 0, 0))), (((0, (-2147483648), 2147483647), 0, (0, 0, 0), (0, 0, 0)), (0, (0, 1, 0), (0, 0, 0))), (((0, (-2147483648), 2147483647), 0, (0, 0, 0), (0, 0, 0)), (0, (0, 2, 0), (0, 0, 0)))], [some (1, 0, 0), some (1, 1, 0), some (1, 2, 0)], [], []), [([(((0, (-100006), 127), 0, (0, 0, 0), (0, 0, 0)), (0, (0, 0, 0), (0, 0, 0)))], some (1, 3, 0), [], [])], [(45, 0, 12), (46, 0, 12), (47, 0, 12), (48, 0, 10), (51, 0, 36), (74, 4, 5), (74, 5, 6), (88, 7, 8)])
abbrev sn_130 : List se_Nd := []
set_option maxRecDepth 100000 in
theorem sk_130 : se_chk0 se_tt [sc_4, sc_5, sc_53, sc_129] se_Z 37 se_zt sc_130 sn_130 7 = true := by decide +kernel
theorem sm_130 {ty : Nat → Option Nat} {J : List mm_C → Prop} {kx : Nat} {zs : List mm_Zt} (hO : se_Ok ty J kx zs) (h4 : se_Met ty se_tt J kx zs sc_4) (h5 : se_Met ty se_tt J kx zs sc_5) (h53 : se_Met ty se_tt J kx zs sc_53) (h129 : se_Met ty se_tt J kx zs sc_129) : se_Met ty se_tt J kx zs sc_130 := se_sound (C := [sc_4, sc_5, sc_53, sc_129]) hO.1 hO.2.1 hO.2.2 (fun n hn => by
  rcases List.mem_cons.mp hn with rfl | hn
  · exact h4
  rcases List.mem_cons.mp hn with rfl | hn
  · exact h5
  rcases List.mem_cons.mp hn with rfl | hn
  · exact h53
  rcases List.mem_cons.mp hn with rfl | hn
  · exact h129
  exact absurd hn List.not_mem_nil) sk_130 (fun _ hn => absurd hn List.not_mem_nil)
/-- RaftTown$Sea.soonest -/
def sc_131 : se_C := ((198, 2), ([(((80, 0, 0), 0, (0, 0, 0), (0, 0, 0)), (0, (0, 0, 0), (0, 0, 0))), (((0, (-2147483648), 2147483647), 0, (0, 0, 0), (0, 0, 0)), (0, (0, 1, 0), (0, 0, 0))), (((0, (-2147483648), 2147483647), 0, (0, 0, 0), (0, 0, 0)), (0, (0, 2, 0), (0, 0, 0))), (((0, 0, 1), 0, (0, 0, 0), (0, 0, 0)), (0, (0, 3, 0), (0, 0, 0)))], [some (1, 0, 0), some (1, 1, 0), some (1, 2, 0), some (1, 3, 0)], [], []), [([(((0, (-1), 30), 0, (0, 0, 0), (0, 0, 0)), (0, (0, 0, 0), (0, 0, 0)))], some (1, 4, 0), [], [])], [(51, 0, 36)])
def sn_131_0 : se_Nd := (3, ([(((80, 0, 0), 0, (0, 0, 0), (0, 0, 0)), (3, (0, 0, 0), (0, 0, 0))), (((0, (-2147483648), 2147483647), 0, (0, 0, 0), (0, 0, 0)), (3, (0, 1, 0), (0, 0, 0))), (((0, (-2147483648), 2147483647), 0, (0, 0, 0), (0, 0, 0)), (3, (0, 2, 0), (0, 0, 0))), (((0, 0, 1), 0, (0, 0, 0), (0, 0, 0)), (3, (0, 3, 0), (0, 0, 0))), (((0, 0, 36), 0, (0, 0, 0), (0, 0, 0)), (0, (0, 4, 0), (0, 0, 0)))], [some (1, 0, 0), some (1, 1, 0), some (1, 2, 0), some (1, 3, 0), some (1, 4, 0), none, none, none, none], [], []), [(0, 0, 1), ((-1), 4, 0), (0, 0, 1)])
def sn_131_1 : se_Nd := (27, ([(((80, 0, 0), 0, (0, 0, 0), (0, 0, 0)), (3, (0, 0, 0), (0, 0, 0))), (((0, (-2147483648), 2147483647), 0, (0, 0, 0), (0, 0, 0)), (3, (0, 1, 0), (0, 0, 0))), (((0, (-2147483648), 2147483647), 0, (0, 0, 0), (0, 0, 0)), (3, (0, 2, 0), (0, 0, 0))), (((0, 0, 1), 0, (0, 0, 0), (0, 0, 0)), (3, (0, 3, 0), (0, 0, 0))), (((0, 0, 35), 0, (0, 0, 0), (0, 0, 0)), (0, (0, 4, 0), (0, 0, 0))), (((0, 0, 35), 0, (0, 0, 0), (0, 0, 0)), (0, (0, 5, 0), (0, 0, 0))), (((1, 0, 0), 0, (0, 0, 0), (0, 0, 0)), (0, (0, 6, 0), (0, 0, 0))), (((0, 0, 4), 0, (0, 0, 0), (0, 0, 0)), (0, (0, 8, 0), (0, 0, 0)))], [some (1, 0, 0), some (1, 1, 0), some (1, 2, 0), some (1, 3, 0), some (1, 4, 0), some (1, 5, 0), some (1, 6, 0), none, some (1, 7, 0)], [], []), [(0, 0, 1), ((-1), 4, 0), (0, 0, 0), ((-1), 7, 0), (0, 0, 0)])
def sn_131_2 : se_Nd := (93, ([(((80, 0, 0), 0, (0, 0, 0), (0, 0, 0)), (3, (0, 0, 0), (0, 0, 0))), (((0, (-2147483648), 2147483647), 0, (0, 0, 0), (0, 0, 0)), (3, (0, 1, 0), (0, 0, 0))), (((0, (-2147483648), 2147483647), 0, (0, 0, 0), (0, 0, 0)), (3, (0, 2, 0), (0, 0, 0))), (((0, 0, 1), 0, (0, 0, 0), (0, 0, 0)), (3, (0, 3, 0), (0, 0, 0))), (((1, 0, 0), 0, (0, 0, 0), (0, 0, 0)), (0, (0, 4, 0), (0, 0, 0))), (((0, (-2147483648), 2147483647), 0, (0, 0, 0), (0, 0, 0)), (0, (0, 6, 0), (0, 0, 0))), (((0, 0, 31), 0, (0, 0, 0), (0, 0, 0)), (0, (0, 7, 0), (0, 0, 0)))], [some (1, 0, 0), some (1, 1, 0), some (1, 2, 0), some (1, 3, 0), some (1, 4, 0), none, some (1, 5, 0), some (1, 6, 0), none], [], []), [(0, 0, 0), ((-1), 6, 0), (0, 0, 0)])
abbrev sn_131 : List se_Nd := [sn_131_0, sn_131_1, sn_131_2]
set_option maxRecDepth 100000 in
theorem sk_131 : se_chk0 se_tt [sc_127] se_Z 37 se_zt sc_131 sn_131 7 = true := by decide +kernel
set_option maxRecDepth 100000 in
theorem sk_131_0 : se_chkn se_tt [sc_127] se_Z 37 se_zt sc_131 sn_131 7 sn_131_0 = true := by decide +kernel
set_option maxRecDepth 100000 in
theorem sk_131_1 : se_chkn se_tt [sc_127] se_Z 37 se_zt sc_131 sn_131 7 sn_131_1 = true := by decide +kernel
set_option maxRecDepth 100000 in
theorem sk_131_2 : se_chkn se_tt [sc_127] se_Z 37 se_zt sc_131 sn_131 7 sn_131_2 = true := by decide +kernel
theorem sm_131 {ty : Nat → Option Nat} {J : List mm_C → Prop} {kx : Nat} {zs : List mm_Zt} (hO : se_Ok ty J kx zs) (h127 : se_Met ty se_tt J kx zs sc_127) : se_Met ty se_tt J kx zs sc_131 := se_sound (C := [sc_127]) hO.1 hO.2.1 hO.2.2 (fun n hn => by
  rcases List.mem_cons.mp hn with rfl | hn
  · exact h127
  exact absurd hn List.not_mem_nil) sk_131 (fun n hn => by
  rcases List.mem_cons.mp hn with rfl | hn
  · exact sk_131_0
  rcases List.mem_cons.mp hn with rfl | hn
  · exact sk_131_1
  rcases List.mem_cons.mp hn with rfl | hn
  · exact sk_131_2
  exact absurd hn List.not_mem_nil)
/-- RaftTown.tow -/
def sc_132 : se_C := ((197, 3), ([(((90, 0, 0), 0, (0, 0, 0), (0, 0, 0)), (0, (0, 0, 0), (0, 0, 0))), (((0, (-2147483648), 2147483647), 0, (0, 0, 0), (0, 0, 0)), (0, (0, 1, 0), (0, 0, 0))), (((0, (-2147483648), 2147483647), 0, (0, 0, 0), (0, 0, 0)), (0, (0, 2, 0), (0, 0, 0)))], [some (1, 0, 0), some (1, 1, 0), some (1, 2, 0)], [], []), [([(((0, (-100006), 30), 0, (0, 0, 0), (0, 0, 0)), (0, (0, 0, 0), (0, 0, 0)))], some (1, 3, 0), [], [])], [(45, 0, 12), (46, 0, 12), (47, 0, 12), (48, 0, 10), (51, 0, 36), (74, 4, 5), (74, 5, 6), (88, 7, 8)])
abbrev sn_132 : List se_Nd := []
set_option maxRecDepth 100000 in
theorem sk_132 : se_chk0 se_tt [sc_4, sc_5, sc_53, sc_131] se_Z 37 se_zt sc_132 sn_132 8 = true := by decide +kernel
theorem sm_132 {ty : Nat → Option Nat} {J : List mm_C → Prop} {kx : Nat} {zs : List mm_Zt} (hO : se_Ok ty J kx zs) (h4 : se_Met ty se_tt J kx zs sc_4) (h5 : se_Met ty se_tt J kx zs sc_5) (h53 : se_Met ty se_tt J kx zs sc_53) (h131 : se_Met ty se_tt J kx zs sc_131) : se_Met ty se_tt J kx zs sc_132 := se_sound (C := [sc_4, sc_5, sc_53, sc_131]) hO.1 hO.2.1 hO.2.2 (fun n hn => by
  rcases List.mem_cons.mp hn with rfl | hn
  · exact h4
  rcases List.mem_cons.mp hn with rfl | hn
  · exact h5
  rcases List.mem_cons.mp hn with rfl | hn
  · exact h53
  rcases List.mem_cons.mp hn with rfl | hn
  · exact h131
  exact absurd hn List.not_mem_nil) sk_132 (fun _ hn => absurd hn List.not_mem_nil)
/-- RaftTown$Sheet.rule -/
def sc_133 : se_C := ((200, 1), ([(((81, 0, 0), 0, (0, 0, 0), (0, 0, 0)), (0, (0, 0, 0), (0, 0, 0))), (((0, (-2147483648), 2147483647), 0, (0, 0, 0), (0, 0, 0)), (0, (0, 1, 0), (0, 0, 0))), (((0, 0, 20), 0, (0, 0, 0), (0, 0, 0)), (0, (0, 2, 0), (0, 0, 0)))], [some (1, 0, 0), some (1, 1, 0), some (1, 2, 0)], [], []), [([(((0, 0, 20), 0, (0, 0, 0), (0, 0, 0)), (0, (0, 0, 0), (0, 0, 0)))], some (1, 3, 0), [], [])], [(52, 0, 20), (79, 0, 1), (79, 1, 2)])
def sn_133_0 : se_Nd := (20, ([(((81, 0, 0), 0, (0, 0, 0), (0, 0, 0)), (3, (0, 0, 0), (0, 0, 0))), (((0, (-2147483648), 2147483647), 0, (0, 0, 0), (0, 0, 0)), (3, (0, 1, 0), (0, 0, 0))), (((0, 0, 20), 0, (0, 0, 0), (0, 0, 0)), (3, (0, 2, 0), (0, 0, 0))), (((0, 0, 20), 0, (0, 0, 0), (0, 0, 0)), (0, (0, 3, 0), (0, 0, 0)))], [some (1, 0, 0), some (1, 1, 0), some (1, 2, 0), some (1, 3, 0)], [], []), [(0, 0, 0), ((-1), 3, 0), (0, 0, 0)])
abbrev sn_133 : List se_Nd := [sn_133_0]
set_option maxRecDepth 100000 in
theorem sk_133 : se_chk0 se_tt [] se_Z 37 se_zt sc_133 sn_133 4 = true := by decide +kernel
set_option maxRecDepth 100000 in
theorem sk_133_0 : se_chkn se_tt [] se_Z 37 se_zt sc_133 sn_133 4 sn_133_0 = true := by decide +kernel
theorem sm_133 {ty : Nat → Option Nat} {J : List mm_C → Prop} {kx : Nat} {zs : List mm_Zt} (hO : se_Ok ty J kx zs) : se_Met ty se_tt J kx zs sc_133 := se_sound (C := []) hO.1 hO.2.1 hO.2.2 (fun _ hn => absurd hn List.not_mem_nil) sk_133 (fun n hn => by
  rcases List.mem_cons.mp hn with rfl | hn
  · exact sk_133_0
  exact absurd hn List.not_mem_nil)
/-- RaftTown.sheet -/
def sc_134 : se_C := ((199, 2), ([(((90, 0, 0), 0, (0, 0, 0), (0, 0, 0)), (0, (0, 0, 0), (0, 0, 0))), (((0, (-2147483648), 2147483647), 0, (0, 0, 0), (0, 0, 0)), (0, (0, 1, 0), (0, 0, 0))), (((0, (-2147483648), 2147483647), 0, (0, 0, 0), (0, 0, 0)), (0, (0, 2, 0), (0, 0, 0))), (((0, (-2147483648), 2147483647), 0, (0, 0, 0), (0, 0, 0)), (0, (0, 3, 0), (0, 0, 0)))], [some (1, 0, 0), some (1, 1, 0), some (1, 2, 0), some (1, 3, 0)], [], []), [([(((0, (-100003), 20), 0, (0, 0, 0), (0, 0, 0)), (0, (0, 0, 0), (0, 0, 0)))], some (1, 4, 0), [], [])], [(52, 0, 20), (79, 0, 1), (79, 1, 2), (88, 7, 8)])
abbrev sn_134 : List se_Nd := []
set_option maxRecDepth 100000 in
theorem sk_134 : se_chk0 se_tt [sc_133] se_Z 37 se_zt sc_134 sn_134 6 = true := by decide +kernel
theorem sm_134 {ty : Nat → Option Nat} {J : List mm_C → Prop} {kx : Nat} {zs : List mm_Zt} (hO : se_Ok ty J kx zs) (h133 : se_Met ty se_tt J kx zs sc_133) : se_Met ty se_tt J kx zs sc_134 := se_sound (C := [sc_133]) hO.1 hO.2.1 hO.2.2 (fun n hn => by
  rcases List.mem_cons.mp hn with rfl | hn
  · exact h133
  exact absurd hn List.not_mem_nil) sk_134 (fun _ hn => absurd hn List.not_mem_nil)
