/-! ===== printed by wip/p2/gen_tab.py: contracts and their checks ===== -/
/-- RaftTown$Net.fewestLashings -/
def sc_135 : se_C := ((179, 4), ([(((76, 0, 0), 0, (0, 0, 0), (0, 0, 0)), (0, (0, 0, 0), (0, 0, 0))), (((0, (-2147483648), 2147483647), 0, (0, 0, 0), (0, 0, 0)), (0, (0, 1, 0), (0, 0, 0))), (((0, (-2147483648), 2147483647), 0, (0, 0, 0), (0, 0, 0)), (0, (0, 2, 0), (0, 0, 0)))], [some (1, 0, 0), some (1, 1, 0), some (1, 2, 0)], [], []), [([(((0, (-1), 4095), 0, (0, 0, 0), (0, 0, 0)), (0, (0, 0, 0), (0, 0, 0)))], some (1, 3, 0), [], [])], [])
def sn_135_0 : se_Nd := (47, ([(((76, 0, 0), 0, (0, 0, 0), (0, 0, 0)), (3, (0, 0, 0), (0, 0, 0))), (((0, (-2147483648), 2147483647), 0, (0, 0, 0), (0, 0, 0)), (3, (0, 1, 0), (0, 0, 0))), (((0, (-2147483648), 2147483647), 0, (0, 0, 0), (0, 0, 0)), (3, (0, 2, 0), (0, 0, 0))), (((0, (-2147483648), 2147483647), 0, (0, 0, 0), (0, 0, 0)), (0, (0, 3, 0), (0, 0, 0))), (((0, 0, 4095), 0, (0, 0, 0), (0, 0, 0)), (0, (0, 4, 0), (0, 0, 0))), (((0, 0, 4095), 0, (0, 0, 0), (0, 0, 0)), (0, (0, 5, 0), (0, 0, 0))), (((0, 0, 4095), 0, (0, 0, 0), (0, 0, 0)), (0, (0, 6, 0), (0, 0, 0))), (((0, 0, 13), 0, (0, 0, 0), (0, 0, 0)), (0, (0, 7, 0), (0, 0, 0))), (((0, (-1), 4095), 0, (0, 0, 0), (0, 0, 0)), (0, (0, 8, 0), (0, 0, 0))), (((0, 0, 4096), 0, (0, 0, 0), (0, 0, 0)), (0, (0, 9, 0), (0, 0, 0)))], [some (1, 0, 0), some (1, 1, 0), some (1, 2, 0), some (1, 3, 0), some (1, 4, 0), some (1, 5, 0), some (1, 6, 0), some (1, 7, 0), some (1, 8, 0), some (1, 9, 0), none], [], []), [(0, 0, 0), ((-1), 9, 0), (0, 0, 0)])
abbrev sn_135 : List se_Nd := [sn_135_0]
set_option maxRecDepth 100000 in
theorem sk_135 : se_chk0 se_tt [sc_5, sc_25, sc_130, sc_132, sc_133, sc_134] se_Z 37 se_zt sc_135 sn_135 6 = true := by decide +kernel
set_option maxRecDepth 100000 in
theorem sk_135_0 : se_chkn se_tt [sc_5, sc_25, sc_130, sc_132, sc_133, sc_134] se_Z 37 se_zt sc_135 sn_135 6 sn_135_0 = true := by decide +kernel
theorem sm_135 {ty : Nat → Option Nat} {J : List mm_C → Prop} {kx : Nat} {zs : List mm_Zt} (hO : se_Ok ty J kx zs) (h5 : se_Met ty se_tt J kx zs sc_5) (h25 : se_Met ty se_tt J kx zs sc_25) (h130 : se_Met ty se_tt J kx zs sc_130) (h132 : se_Met ty se_tt J kx zs sc_132) (h133 : se_Met ty se_tt J kx zs sc_133) (h134 : se_Met ty se_tt J kx zs sc_134) : se_Met ty se_tt J kx zs sc_135 := se_sound (C := [sc_5, sc_25, sc_130, sc_132, sc_133, sc_134]) hO.1 hO.2.1 hO.2.2 (fun n hn => by
  rcases List.mem_cons.mp hn with rfl | hn
  · exact h5
  rcases List.mem_cons.mp hn with rfl | hn
  · exact h25
  rcases List.mem_cons.mp hn with rfl | hn
  · exact h130
  rcases List.mem_cons.mp hn with rfl | hn
  · exact h132
  rcases List.mem_cons.mp hn with rfl | hn
  · exact h133
  rcases List.mem_cons.mp hn with rfl | hn
  · exact h134
  exact absurd hn List.not_mem_nil) sk_135 (fun n hn => by
  rcases List.mem_cons.mp hn with rfl | hn
  · exact sk_135_0
  exact absurd hn List.not_mem_nil)
/-- RaftTown.lash -/
def sc_136 : se_C := ((178, 5), ([(((90, 0, 0), 0, (0, 0, 0), (0, 0, 0)), (0, (0, 0, 0), (0, 0, 0))), (((0, (-2147483648), 2147483647), 0, (0, 0, 0), (0, 0, 0)), (0, (0, 1, 0), (0, 0, 0))), (((0, (-2147483648), 2147483647), 0, (0, 0, 0), (0, 0, 0)), (0, (0, 2, 0), (0, 0, 0)))], [some (1, 0, 0), some (1, 1, 0), some (1, 2, 0)], [], []), [([(((0, (-100006), 4095), 0, (0, 0, 0), (0, 0, 0)), (0, (0, 0, 0), (0, 0, 0)))], some (1, 3, 0), [], [])], [(45, 0, 12), (46, 0, 12), (47, 0, 12), (48, 0, 10), (74, 4, 5), (74, 5, 6), (88, 7, 8)])
abbrev sn_136 : List se_Nd := []
set_option maxRecDepth 100000 in
theorem sk_136 : se_chk0 se_tt [sc_4, sc_135] se_Z 37 se_zt sc_136 sn_136 7 = true := by decide +kernel
theorem sm_136 {ty : Nat → Option Nat} {J : List mm_C → Prop} {kx : Nat} {zs : List mm_Zt} (hO : se_Ok ty J kx zs) (h4 : se_Met ty se_tt J kx zs sc_4) (h135 : se_Met ty se_tt J kx zs sc_135) : se_Met ty se_tt J kx zs sc_136 := se_sound (C := [sc_4, sc_135]) hO.1 hO.2.1 hO.2.2 (fun n hn => by
  rcases List.mem_cons.mp hn with rfl | hn
  · exact h4
  rcases List.mem_cons.mp hn with rfl | hn
  · exact h135
  exact absurd hn List.not_mem_nil) sk_136 (fun _ hn => absurd hn List.not_mem_nil)
/-- RaftTown$Net.mostKept -/
def sc_137 : se_C := ((188, 4), ([(((76, 0, 0), 0, (0, 0, 0), (0, 0, 0)), (0, (0, 0, 0), (0, 0, 0))), (((0, (-2147483648), 2147483647), 0, (0, 0, 0), (0, 0, 0)), (0, (0, 1, 0), (0, 0, 0))), (((0, (-2147483648), 2147483647), 0, (0, 0, 0), (0, 0, 0)), (0, (0, 2, 0), (0, 0, 0)))], [some (1, 0, 0), some (1, 1, 0), some (1, 2, 0)], [], []), [([(((0, 0, 63), 0, (0, 0, 0), (0, 0, 0)), (0, (0, 0, 0), (0, 0, 0)))], some (1, 3, 0), [], [])], [])
def sn_137_0 : se_Nd := (5, ([(((76, 0, 0), 0, (0, 0, 0), (0, 0, 0)), (3, (0, 0, 0), (0, 0, 0))), (((0, (-2147483648), 2147483647), 0, (0, 0, 0), (0, 0, 0)), (3, (0, 1, 0), (0, 0, 0))), (((0, (-2147483648), 2147483647), 0, (0, 0, 0), (0, 0, 0)), (3, (0, 2, 0), (0, 0, 0))), (((0, 0, 63), 0, (0, 0, 0), (0, 0, 0)), (0, (0, 3, 0), (0, 0, 0))), (((0, (-2147483648), 2147483647), 0, (0, 0, 0), (0, 0, 0)), (0, (0, 4, 0), (0, 0, 0)))], [some (1, 0, 0), some (1, 1, 0), some (1, 2, 0), some (1, 3, 0), some (1, 4, 0), none], [], []), [(0, 0, 0), (1, 4, 0), (0, 0, 0)])
abbrev sn_137 : List se_Nd := [sn_137_0]
set_option maxRecDepth 100000 in
theorem sk_137 : se_chk0 se_tt [sc_25, sc_134] se_Z 37 se_zt sc_137 sn_137 5 = true := by decide +kernel
set_option maxRecDepth 100000 in
theorem sk_137_0 : se_chkn se_tt [sc_25, sc_134] se_Z 37 se_zt sc_137 sn_137 5 sn_137_0 = true := by decide +kernel
theorem sm_137 {ty : Nat → Option Nat} {J : List mm_C → Prop} {kx : Nat} {zs : List mm_Zt} (hO : se_Ok ty J kx zs) (h25 : se_Met ty se_tt J kx zs sc_25) (h134 : se_Met ty se_tt J kx zs sc_134) : se_Met ty se_tt J kx zs sc_137 := se_sound (C := [sc_25, sc_134]) hO.1 hO.2.1 hO.2.2 (fun n hn => by
  rcases List.mem_cons.mp hn with rfl | hn
  · exact h25
  rcases List.mem_cons.mp hn with rfl | hn
  · exact h134
  exact absurd hn List.not_mem_nil) sk_137 (fun n hn => by
  rcases List.mem_cons.mp hn with rfl | hn
  · exact sk_137_0
  exact absurd hn List.not_mem_nil)
/-- RaftTown$Net.bestCuts -/
def sc_138 : se_C := ((187, 5), ([(((76, 0, 0), 0, (0, 0, 0), (0, 0, 0)), (0, (0, 0, 0), (0, 0, 0))), (((0, (-2147483648), 2147483647), 0, (0, 0, 0), (0, 0, 0)), (0, (0, 1, 0), (0, 0, 0)))], [some (1, 0, 0), some (1, 1, 0)], [], []), [([(((0, 0, 4095), 0, (0, 0, 0), (0, 0, 0)), (0, (0, 0, 0), (0, 0, 0)))], some (1, 2, 0), [], [])], [])
def sn_138_0 : se_Nd := (31, ([(((76, 0, 0), 0, (0, 0, 0), (0, 0, 0)), (3, (0, 0, 0), (0, 0, 0))), (((0, (-2147483648), 2147483647), 0, (0, 0, 0), (0, 0, 0)), (3, (0, 1, 0), (0, 0, 0))), (((0, 0, 4095), 0, (0, 0, 0), (0, 0, 0)), (0, (0, 2, 0), (0, 0, 0))), (((0, (-63), 63), 0, (0, 0, 0), (0, 0, 0)), (0, (0, 3, 0), (0, 0, 0))), (((0, 0, 4095), 0, (0, 0, 0), (0, 0, 0)), (0, (0, 4, 0), (0, 0, 0)))], [some (1, 0, 0), some (1, 1, 0), some (1, 2, 0), some (1, 3, 0), some (1, 4, 0)], [], []), [(0, 0, 0), ((-1), 4, 0), (0, 0, 0)])
abbrev sn_138 : List se_Nd := [sn_138_0]
set_option maxRecDepth 100000 in
theorem sk_138 : se_chk0 se_tt [sc_25, sc_42, sc_132, sc_137] se_Z 37 se_zt sc_138 sn_138 6 = true := by decide +kernel
set_option maxRecDepth 100000 in
theorem sk_138_0 : se_chkn se_tt [sc_25, sc_42, sc_132, sc_137] se_Z 37 se_zt sc_138 sn_138 6 sn_138_0 = true := by decide +kernel
theorem sm_138 {ty : Nat → Option Nat} {J : List mm_C → Prop} {kx : Nat} {zs : List mm_Zt} (hO : se_Ok ty J kx zs) (h25 : se_Met ty se_tt J kx zs sc_25) (h42 : se_Met ty se_tt J kx zs sc_42) (h132 : se_Met ty se_tt J kx zs sc_132) (h137 : se_Met ty se_tt J kx zs sc_137) : se_Met ty se_tt J kx zs sc_138 := se_sound (C := [sc_25, sc_42, sc_132, sc_137]) hO.1 hO.2.1 hO.2.2 (fun n hn => by
  rcases List.mem_cons.mp hn with rfl | hn
  · exact h25
  rcases List.mem_cons.mp hn with rfl | hn
  · exact h42
  rcases List.mem_cons.mp hn with rfl | hn
  · exact h132
  rcases List.mem_cons.mp hn with rfl | hn
  · exact h137
  exact absurd hn List.not_mem_nil) sk_138 (fun n hn => by
  rcases List.mem_cons.mp hn with rfl | hn
  · exact sk_138_0
  exact absurd hn List.not_mem_nil)
/-- RaftTown.storm -/
def sc_139 : se_C := ((186, 6), ([(((90, 0, 0), 0, (0, 0, 0), (0, 0, 0)), (0, (0, 0, 0), (0, 0, 0))), (((0, (-2147483648), 2147483647), 0, (0, 0, 0), (0, 0, 0)), (0, (0, 1, 0), (0, 0, 0))), (((0, 0, 1), 0, (0, 0, 0), (0, 0, 0)), (0, (0, 2, 0), (0, 0, 0)))], [some (1, 0, 0), some (1, 1, 0), some (1, 2, 0)], [], []), [([(((0, (-2147483648), 2147483647), 0, (0, 0, 0), (0, 0, 0)), (0, (0, 0, 0), (0, 0, 0)))], some (1, 3, 0), [], [])], [(45, 0, 12), (46, 0, 12), (47, 0, 12), (48, 0, 10), (74, 4, 5), (74, 5, 6), (88, 7, 8)])
abbrev sn_139 : List se_Nd := []
set_option maxRecDepth 100000 in
theorem sk_139 : se_chk0 se_tt [sc_4, sc_25, sc_42, sc_138] se_Z 37 se_zt sc_139 sn_139 6 = true := by decide +kernel
theorem sm_139 {ty : Nat → Option Nat} {J : List mm_C → Prop} {kx : Nat} {zs : List mm_Zt} (hO : se_Ok ty J kx zs) (h4 : se_Met ty se_tt J kx zs sc_4) (h25 : se_Met ty se_tt J kx zs sc_25) (h42 : se_Met ty se_tt J kx zs sc_42) (h138 : se_Met ty se_tt J kx zs sc_138) : se_Met ty se_tt J kx zs sc_139 := se_sound (C := [sc_4, sc_25, sc_42, sc_138]) hO.1 hO.2.1 hO.2.2 (fun n hn => by
  rcases List.mem_cons.mp hn with rfl | hn
  · exact h4
  rcases List.mem_cons.mp hn with rfl | hn
  · exact h25
  rcases List.mem_cons.mp hn with rfl | hn
  · exact h42
  rcases List.mem_cons.mp hn with rfl | hn
  · exact h138
  exact absurd hn List.not_mem_nil) sk_139 (fun _ hn => absurd hn List.not_mem_nil)
/-- RaftTown$Net.firstUnproved -/
def sc_140 : se_C := ((191, 3), ([(((76, 0, 0), 0, (0, 0, 0), (0, 0, 0)), (0, (0, 0, 0), (0, 0, 0))), (((0, (-2147483648), 2147483647), 0, (0, 0, 0), (0, 0, 0)), (0, (0, 1, 0), (0, 0, 0))), (((0, (-2147483648), 2147483647), 0, (0, 0, 0), (0, 0, 0)), (0, (0, 2, 0), (0, 0, 0))), (((81, 0, 0), 0, (0, 0, 0), (0, 0, 0)), (0, (0, 3, 0), (0, 0, 0)))], [some (1, 0, 0), some (1, 1, 0), some (1, 2, 0), some (1, 3, 0)], [], []), [([(((0, (-2147483648), 2147483647), 0, (0, 0, 0), (0, 0, 0)), (0, (0, 0, 0), (0, 0, 0)))], some (1, 4, 0), [], [])], [])
def sn_140_0 : se_Nd := (6, ([(((76, 0, 0), 0, (0, 0, 0), (0, 0, 0)), (3, (0, 0, 0), (0, 0, 0))), (((0, (-2147483648), 2147483647), 0, (0, 0, 0), (0, 0, 0)), (3, (0, 1, 0), (0, 0, 0))), (((0, (-2147483648), 2147483647), 0, (0, 0, 0), (0, 0, 0)), (3, (0, 2, 0), (0, 0, 0))), (((81, 0, 0), 0, (0, 0, 0), (0, 0, 0)), (3, (0, 3, 0), (0, 0, 0))), (((0, (-2147483648), 2147483647), 0, (0, 0, 0), (0, 0, 0)), (0, (0, 4, 0), (0, 0, 0))), (((0, 0, 12), 0, (0, 0, 0), (0, 0, 0)), (0, (0, 5, 0), (0, 0, 0)))], [some (1, 0, 0), some (1, 1, 0), some (1, 2, 0), some (1, 3, 0), some (1, 4, 0), some (1, 5, 0), none], [], []), [(0, 0, 0), ((-1), 5, 0), (0, 0, 0)])
abbrev sn_140 : List se_Nd := [sn_140_0]
set_option maxRecDepth 100000 in
theorem sk_140 : se_chk0 se_tt [sc_23] se_Z 37 se_zt sc_140 sn_140 7 = true := by decide +kernel
set_option maxRecDepth 100000 in
theorem sk_140_0 : se_chkn se_tt [sc_23] se_Z 37 se_zt sc_140 sn_140 7 sn_140_0 = true := by decide +kernel
theorem sm_140 {ty : Nat → Option Nat} {J : List mm_C → Prop} {kx : Nat} {zs : List mm_Zt} (hO : se_Ok ty J kx zs) (h23 : se_Met ty se_tt J kx zs sc_23) : se_Met ty se_tt J kx zs sc_140 := se_sound (C := [sc_23]) hO.1 hO.2.1 hO.2.2 (fun n hn => by
  rcases List.mem_cons.mp hn with rfl | hn
  · exact h23
  exact absurd hn List.not_mem_nil) sk_140 (fun n hn => by
  rcases List.mem_cons.mp hn with rfl | hn
  · exact sk_140_0
  exact absurd hn List.not_mem_nil)
/-- RaftTown$Net.firstUnproved -/
def sc_141 : se_C := ((191, 3), ([(((76, 0, 0), 0, (0, 0, 0), (0, 0, 0)), (0, (0, 0, 0), (0, 0, 0))), (((0, (-2147483648), 2147483647), 0, (0, 0, 0), (0, 0, 0)), (0, (0, 1, 0), (0, 0, 0))), (((0, (-2147483648), 2147483647), 0, (0, 0, 0), (0, 0, 0)), (0, (0, 2, 0), (0, 0, 0))), (((121, 0, 0), 0, (0, 0, 0), (0, 0, 0)), (0, (0, 3, 0), (0, 0, 0)))], [some (1, 0, 0), some (1, 1, 0), some (1, 2, 0), some (1, 3, 0)], [], []), [([(((0, (-2147483648), 2147483647), 0, (0, 0, 0), (0, 0, 0)), (0, (0, 0, 0), (0, 0, 0)))], some (1, 4, 0), [], [])], [])
def sn_141_0 : se_Nd := (6, ([(((76, 0, 0), 0, (0, 0, 0), (0, 0, 0)), (3, (0, 0, 0), (0, 0, 0))), (((0, (-2147483648), 2147483647), 0, (0, 0, 0), (0, 0, 0)), (3, (0, 1, 0), (0, 0, 0))), (((0, (-2147483648), 2147483647), 0, (0, 0, 0), (0, 0, 0)), (3, (0, 2, 0), (0, 0, 0))), (((121, 0, 0), 0, (0, 0, 0), (0, 0, 0)), (3, (0, 3, 0), (0, 0, 0))), (((0, (-2147483648), 2147483647), 0, (0, 0, 0), (0, 0, 0)), (0, (0, 4, 0), (0, 0, 0))), (((0, 0, 12), 0, (0, 0, 0), (0, 0, 0)), (0, (0, 5, 0), (0, 0, 0)))], [some (1, 0, 0), some (1, 1, 0), some (1, 2, 0), some (1, 3, 0), some (1, 4, 0), some (1, 5, 0), none], [], []), [(0, 0, 0), ((-1), 5, 0), (0, 0, 0)])
abbrev sn_141 : List se_Nd := [sn_141_0]
set_option maxRecDepth 100000 in
theorem sk_141 : se_chk0 se_tt [sc_23] se_Z 37 se_zt sc_141 sn_141 7 = true := by decide +kernel
set_option maxRecDepth 100000 in
theorem sk_141_0 : se_chkn se_tt [sc_23] se_Z 37 se_zt sc_141 sn_141 7 sn_141_0 = true := by decide +kernel
theorem sm_141 {ty : Nat → Option Nat} {J : List mm_C → Prop} {kx : Nat} {zs : List mm_Zt} (hO : se_Ok ty J kx zs) (h23 : se_Met ty se_tt J kx zs sc_23) : se_Met ty se_tt J kx zs sc_141 := se_sound (C := [sc_23]) hO.1 hO.2.1 hO.2.2 (fun n hn => by
  rcases List.mem_cons.mp hn with rfl | hn
  · exact h23
  exact absurd hn List.not_mem_nil) sk_141 (fun n hn => by
  rcases List.mem_cons.mp hn with rfl | hn
  · exact sk_141_0
  exact absurd hn List.not_mem_nil)
/-- RaftTown$Net.firstUnproved -/
def sc_142 : se_C := ((191, 3), ([(((76, 0, 0), 0, (0, 0, 0), (0, 0, 0)), (0, (0, 0, 0), (0, 0, 0))), (((0, (-2147483648), 2147483647), 0, (0, 0, 0), (0, 0, 0)), (0, (0, 1, 0), (0, 0, 0))), (((0, (-2147483648), 2147483647), 0, (0, 0, 0), (0, 0, 0)), (0, (0, 2, 0), (0, 0, 0))), (((122, 0, 0), 0, (0, 0, 0), (0, 0, 0)), (0, (0, 3, 0), (0, 0, 0)))], [some (1, 0, 0), some (1, 1, 0), some (1, 2, 0), some (1, 3, 0)], [], []), [([(((0, (-2147483648), 2147483647), 0, (0, 0, 0), (0, 0, 0)), (0, (0, 0, 0), (0, 0, 0)))], some (1, 4, 0), [], [])], [])
def sn_142_0 : se_Nd := (6, ([(((76, 0, 0), 0, (0, 0, 0), (0, 0, 0)), (3, (0, 0, 0), (0, 0, 0))), (((0, (-2147483648), 2147483647), 0, (0, 0, 0), (0, 0, 0)), (3, (0, 1, 0), (0, 0, 0))), (((0, (-2147483648), 2147483647), 0, (0, 0, 0), (0, 0, 0)), (3, (0, 2, 0), (0, 0, 0))), (((122, 0, 0), 0, (0, 0, 0), (0, 0, 0)), (3, (0, 3, 0), (0, 0, 0))), (((0, (-2147483648), 2147483647), 0, (0, 0, 0), (0, 0, 0)), (0, (0, 4, 0), (0, 0, 0))), (((0, 0, 12), 0, (0, 0, 0), (0, 0, 0)), (0, (0, 5, 0), (0, 0, 0)))], [some (1, 0, 0), some (1, 1, 0), some (1, 2, 0), some (1, 3, 0), some (1, 4, 0), some (1, 5, 0), none], [], []), [(0, 0, 0), ((-1), 5, 0), (0, 0, 0)])
abbrev sn_142 : List se_Nd := [sn_142_0]
set_option maxRecDepth 100000 in
theorem sk_142 : se_chk0 se_tt [sc_23] se_Z 37 se_zt sc_142 sn_142 7 = true := by decide +kernel
set_option maxRecDepth 100000 in
theorem sk_142_0 : se_chkn se_tt [sc_23] se_Z 37 se_zt sc_142 sn_142 7 sn_142_0 = true := by decide +kernel
theorem sm_142 {ty : Nat → Option Nat} {J : List mm_C → Prop} {kx : Nat} {zs : List mm_Zt} (hO : se_Ok ty J kx zs) (h23 : se_Met ty se_tt J kx zs sc_23) : se_Met ty se_tt J kx zs sc_142 := se_sound (C := [sc_23]) hO.1 hO.2.1 hO.2.2 (fun n hn => by
  rcases List.mem_cons.mp hn with rfl | hn
  · exact h23
  exact absurd hn List.not_mem_nil) sk_142 (fun n hn => by
  rcases List.mem_cons.mp hn with rfl | hn
  · exact sk_142_0
  exact absurd hn List.not_mem_nil)
/-- RaftTown$Net.firstUnproved -/
def sc_143 : se_C := ((191, 3), ([(((76, 0, 0), 0, (0, 0, 0), (0, 0, 0)), (0, (0, 0, 0), (0, 0, 0))), (((0, (-2147483648), 2147483647), 0, (0, 0, 0), (0, 0, 0)), (0, (0, 1, 0), (0, 0, 0))), (((0, (-2147483648), 2147483647), 0, (0, 0, 0), (0, 0, 0)), (0, (0, 2, 0), (0, 0, 0))), (((123, 0, 0), 0, (0, 0, 0), (0, 0, 0)), (0, (0, 3, 0), (0, 0, 0)))], [some (1, 0, 0), some (1, 1, 0), some (1, 2, 0), some (1, 3, 0)], [], []), [([(((0, (-2147483648), 2147483647), 0, (0, 0, 0), (0, 0, 0)), (0, (0, 0, 0), (0, 0, 0)))], some (1, 4, 0), [], [])], [])
def sn_143_0 : se_Nd := (6, ([(((76, 0, 0), 0, (0, 0, 0), (0, 0, 0)), (3, (0, 0, 0), (0, 0, 0))), (((0, (-2147483648), 2147483647), 0, (0, 0, 0), (0, 0, 0)), (3, (0, 1, 0), (0, 0, 0))), (((0, (-2147483648), 2147483647), 0, (0, 0, 0), (0, 0, 0)), (3, (0, 2, 0), (0, 0, 0))), (((123, 0, 0), 0, (0, 0, 0), (0, 0, 0)), (3, (0, 3, 0), (0, 0, 0))), (((0, (-2147483648), 2147483647), 0, (0, 0, 0), (0, 0, 0)), (0, (0, 4, 0), (0, 0, 0))), (((0, 0, 12), 0, (0, 0, 0), (0, 0, 0)), (0, (0, 5, 0), (0, 0, 0)))], [some (1, 0, 0), some (1, 1, 0), some (1, 2, 0), some (1, 3, 0), some (1, 4, 0), some (1, 5, 0), none], [], []), [(0, 0, 0), ((-1), 5, 0), (0, 0, 0)])
abbrev sn_143 : List se_Nd := [sn_143_0]
set_option maxRecDepth 100000 in
theorem sk_143 : se_chk0 se_tt [sc_23] se_Z 37 se_zt sc_143 sn_143 7 = true := by decide +kernel
set_option maxRecDepth 100000 in
theorem sk_143_0 : se_chkn se_tt [sc_23] se_Z 37 se_zt sc_143 sn_143 7 sn_143_0 = true := by decide +kernel
theorem sm_143 {ty : Nat → Option Nat} {J : List mm_C → Prop} {kx : Nat} {zs : List mm_Zt} (hO : se_Ok ty J kx zs) (h23 : se_Met ty se_tt J kx zs sc_23) : se_Met ty se_tt J kx zs sc_143 := se_sound (C := [sc_23]) hO.1 hO.2.1 hO.2.2 (fun n hn => by
  rcases List.mem_cons.mp hn with rfl | hn
  · exact h23
  exact absurd hn List.not_mem_nil) sk_143 (fun n hn => by
  rcases List.mem_cons.mp hn with rfl | hn
  · exact sk_143_0
  exact absurd hn List.not_mem_nil)
/-- RaftTown.proves -/
def sc_144 : se_C := ((190, 4), ([(((90, 0, 0), 0, (0, 0, 0), (0, 0, 0)), (0, (0, 0, 0), (0, 0, 0))), (((0, (-2147483648), 2147483647), 0, (0, 0, 0), (0, 0, 0)), (0, (0, 1, 0), (0, 0, 0))), (((0, (-2147483648), 2147483647), 0, (0, 0, 0), (0, 0, 0)), (0, (0, 2, 0), (0, 0, 0))), (((0, (-2147483648), 2147483647), 0, (0, 0, 0), (0, 0, 0)), (0, (0, 3, 0), (0, 0, 0)))], [some (1, 0, 0), some (1, 1, 0), some (1, 2, 0), some (1, 3, 0)], [], []), [([(((0, (-2147483648), 2147483647), 0, (0, 0, 0), (0, 0, 0)), (0, (0, 0, 0), (0, 0, 0)))], some (1, 4, 0), [], [])], [(45, 0, 12), (46, 0, 12), (47, 0, 12), (48, 0, 10), (74, 4, 5), (74, 5, 6), (88, 7, 8)])
abbrev sn_144 : List se_Nd := []
set_option maxRecDepth 100000 in
theorem sk_144 : se_chk0 se_tt [sc_4, sc_25, sc_140, sc_141, sc_142, sc_143] se_Z 37 se_zt sc_144 sn_144 7 = true := by decide +kernel
theorem sm_144 {ty : Nat → Option Nat} {J : List mm_C → Prop} {kx : Nat} {zs : List mm_Zt} (hO : se_Ok ty J kx zs) (h4 : se_Met ty se_tt J kx zs sc_4) (h25 : se_Met ty se_tt J kx zs sc_25) (h140 : se_Met ty se_tt J kx zs sc_140) (h141 : se_Met ty se_tt J kx zs sc_141) (h142 : se_Met ty se_tt J kx zs sc_142) (h143 : se_Met ty se_tt J kx zs sc_143) : se_Met ty se_tt J kx zs sc_144 := se_sound (C := [sc_4, sc_25, sc_140, sc_141, sc_142, sc_143]) hO.1 hO.2.1 hO.2.2 (fun n hn => by
  rcases List.mem_cons.mp hn with rfl | hn
  · exact h4
  rcases List.mem_cons.mp hn with rfl | hn
  · exact h25
  rcases List.mem_cons.mp hn with rfl | hn
  · exact h140
  rcases List.mem_cons.mp hn with rfl | hn
  · exact h141
  rcases List.mem_cons.mp hn with rfl | hn
  · exact h142
  rcases List.mem_cons.mp hn with rfl | hn
  · exact h143
  exact absurd hn List.not_mem_nil) sk_144 (fun _ hn => absurd hn List.not_mem_nil)
/-- RaftTown$Sea.aDayOn -/
def sc_145 : se_C := ((195, 1), ([(((80, 0, 0), 0, (0, 0, 0), (0, 0, 0)), (0, (0, 0, 0), (0, 0, 0))), (((1, 0, 0), 0, (0, 0, 0), (0, 0, 0)), (0, (0, 1, 0), (0, 0, 0)))], [some (1, 0, 0), some (1, 1, 0), none], [], []), [([(((1, 0, 0), 0, (0, 0, 0), (0, 0, 0)), (0, (0, 0, 0), (0, 0, 0)))], some (1, 2, 0), [], [])], [])
def sn_145_0 : se_Nd := (5, ([(((80, 0, 0), 0, (0, 0, 0), (0, 0, 0)), (3, (0, 0, 0), (0, 0, 0))), (((1, 0, 0), 0, (0, 0, 0), (0, 0, 0)), (3, (0, 1, 0), (0, 0, 0))), (((1, 0, 0), 0, (0, 0, 0), (0, 0, 0)), (0, (0, 3, 0), (0, 0, 0))), (((0, 0, 36), 0, (0, 0, 0), (0, 0, 0)), (0, (0, 5, 0), (0, 0, 0)))], [some (1, 0, 0), some (1, 1, 0), none, some (1, 2, 0), none, some (1, 3, 0)], [], []), [(0, 0, 0), ((-1), 3, 0), (0, 0, 0)])
abbrev sn_145 : List se_Nd := [sn_145_0]
set_option maxRecDepth 100000 in
theorem sk_145 : se_chk0 se_tt [] se_Z 37 se_zt sc_145 sn_145 5 = true := by decide +kernel
set_option maxRecDepth 100000 in
theorem sk_145_0 : se_chkn se_tt [] se_Z 37 se_zt sc_145 sn_145 5 sn_145_0 = true := by decide +kernel
theorem sm_145 {ty : Nat → Option Nat} {J : List mm_C → Prop} {kx : Nat} {zs : List mm_Zt} (hO : se_Ok ty J kx zs) : se_Met ty se_tt J kx zs sc_145 := se_sound (C := []) hO.1 hO.2.1 hO.2.2 (fun _ hn => absurd hn List.not_mem_nil) sk_145 (fun n hn => by
  rcases List.mem_cons.mp hn with rfl | hn
  · exact sk_145_0
  exact absurd hn List.not_mem_nil)
/-- java/lang/Long.bitCount -/
def sc_146 : se_C := ((196, 1), ([(((1, 0, 0), 0, (0, 0, 0), (0, 0, 0)), (0, (0, 0, 0), (0, 0, 0)))], [some (1, 0, 0), none], [], []), [([(((0, 0, 127), 0, (0, 0, 0), (0, 0, 0)), (0, (0, 0, 0), (0, 0, 0)))], some (1, 1, 0), [], [])], [])
abbrev sn_146 : List se_Nd := []
set_option maxRecDepth 100000 in
theorem sk_146 : se_chk0 se_tt [] se_Z 37 se_zt sc_146 sn_146 6 = true := by decide +kernel
theorem sm_146 {ty : Nat → Option Nat} {J : List mm_C → Prop} {kx : Nat} {zs : List mm_Zt} (hO : se_Ok ty J kx zs) : se_Met ty se_tt J kx zs sc_146 := se_sound (C := []) hO.1 hO.2.1 hO.2.2 (fun _ hn => absurd hn List.not_mem_nil) sk_146 (fun _ hn => absurd hn List.not_mem_nil)
/-- RaftTown$Sea.patchSize -/
def sc_147 : se_C := ((194, 2), ([(((80, 0, 0), 0, (0, 0, 0), (0, 0, 0)), (0, (0, 0, 0), (0, 0, 0))), (((0, (-2147483648), 2147483647), 0, (0, 0, 0), (0, 0, 0)), (0, (0, 1, 0), (0, 0, 0))), (((0, (-2147483648), 2147483647), 0, (0, 0, 0), (0, 0, 0)), (0, (0, 2, 0), (0, 0, 0))), (((0, 0, 1), 0, (0, 0, 0), (0, 0, 0)), (0, (0, 3, 0), (0, 0, 0)))], [some (1, 0, 0), some (1, 1, 0), some (1, 2, 0), some (1, 3, 0)], [], []), [([(((0, 0, 127), 0, (0, 0, 0), (0, 0, 0)), (0, (0, 0, 0), (0, 0, 0)))], some (1, 4, 0), [], [])], [(51, 0, 36)])
def sn_147_0 : se_Nd := (3, ([(((80, 0, 0), 0, (0, 0, 0), (0, 0, 0)), (3, (0, 0, 0), (0, 0, 0))), (((0, (-2147483648), 2147483647), 0, (0, 0, 0), (0, 0, 0)), (3, (0, 1, 0), (0, 0, 0))), (((0, (-2147483648), 2147483647), 0, (0, 0, 0), (0, 0, 0)), (3, (0, 2, 0), (0, 0, 0))), (((0, 0, 1), 0, (0, 0, 0), (0, 0, 0)), (3, (0, 3, 0), (0, 0, 0))), (((0, 0, 36), 0, (0, 0, 0), (0, 0, 0)), (0, (0, 4, 0), (0, 0, 0)))], [some (1, 0, 0), some (1, 1, 0), some (1, 2, 0), some (1, 3, 0), some (1, 4, 0), none, none, none], [], []), [(0, 0, 1), ((-1), 4, 0), (0, 0, 1)])
def sn_147_1 : se_Nd := (36, ([(((80, 0, 0), 0, (0, 0, 0), (0, 0, 0)), (3, (0, 0, 0), (0, 0, 0))), (((0, (-2147483648), 2147483647), 0, (0, 0, 0), (0, 0, 0)), (3, (0, 1, 0), (0, 0, 0))), (((0, (-2147483648), 2147483647), 0, (0, 0, 0), (0, 0, 0)), (3, (0, 2, 0), (0, 0, 0))), (((0, 0, 1), 0, (0, 0, 0), (0, 0, 0)), (3, (0, 3, 0), (0, 0, 0))), (((0, 0, 35), 0, (0, 0, 0), (0, 0, 0)), (0, (0, 4, 0), (0, 0, 0))), (((1, 0, 0), 0, (0, 0, 0), (0, 0, 0)), (0, (0, 5, 0), (0, 0, 0))), (((0, 0, 4), 0, (0, 0, 0), (0, 0, 0)), (0, (0, 7, 0), (0, 0, 0)))], [some (1, 0, 0), some (1, 1, 0), some (1, 2, 0), some (1, 3, 0), some (1, 4, 0), some (1, 5, 0), none, some (1, 6, 0)], [], []), [(0, 0, 1), ((-1), 4, 0), (0, 0, 0), ((-1), 6, 0), (0, 0, 0)])
def sn_147_2 : se_Nd := (101, ([(((80, 0, 0), 0, (0, 0, 0), (0, 0, 0)), (3, (0, 0, 0), (0, 0, 0))), (((0, (-2147483648), 2147483647), 0, (0, 0, 0), (0, 0, 0)), (3, (0, 1, 0), (0, 0, 0))), (((0, (-2147483648), 2147483647), 0, (0, 0, 0), (0, 0, 0)), (3, (0, 2, 0), (0, 0, 0))), (((0, 0, 1), 0, (0, 0, 0), (0, 0, 0)), (3, (0, 3, 0), (0, 0, 0))), (((1, 0, 0), 0, (0, 0, 0), (0, 0, 0)), (0, (0, 4, 0), (0, 0, 0))), (((0, 0, 2147483647), 0, (0, 0, 0), (0, 0, 0)), (0, (0, 6, 0), (0, 0, 0)))], [some (1, 0, 0), some (1, 1, 0), some (1, 2, 0), some (1, 3, 0), some (1, 4, 0), none, some (1, 5, 0), none], [], []), [(0, 0, 0), ((-1), 5, 0), (0, 0, 0)])
abbrev sn_147 : List se_Nd := [sn_147_0, sn_147_1, sn_147_2]
set_option maxRecDepth 100000 in
theorem sk_147 : se_chk0 se_tt [sc_145, sc_146] se_Z 37 se_zt sc_147 sn_147 8 = true := by decide +kernel
set_option maxRecDepth 100000 in
theorem sk_147_0 : se_chkn se_tt [sc_145, sc_146] se_Z 37 se_zt sc_147 sn_147 8 sn_147_0 = true := by decide +kernel
set_option maxRecDepth 100000 in
theorem sk_147_1 : se_chkn se_tt [sc_145, sc_146] se_Z 37 se_zt sc_147 sn_147 8 sn_147_1 = true := by decide +kernel
set_option maxRecDepth 100000 in
theorem sk_147_2 : se_chkn se_tt [sc_145, sc_146] se_Z 37 se_zt sc_147 sn_147 8 sn_147_2 = true := by decide +kernel
theorem sm_147 {ty : Nat → Option Nat} {J : List mm_C → Prop} {kx : Nat} {zs : List mm_Zt} (hO : se_Ok ty J kx zs) (h145 : se_Met ty se_tt J kx zs sc_145) (h146 : se_Met ty se_tt J kx zs sc_146) : se_Met ty se_tt J kx zs sc_147 := se_sound (C := [sc_145, sc_146]) hO.1 hO.2.1 hO.2.2 (fun n hn => by
  rcases List.mem_cons.mp hn with rfl | hn
  · exact h145
  rcases List.mem_cons.mp hn with rfl | hn
  · exact h146
  exact absurd hn List.not_mem_nil) sk_147 (fun n hn => by
  rcases List.mem_cons.mp hn with rfl | hn
  · exact sk_147_0
  rcases List.mem_cons.mp hn with rfl | hn
  · exact sk_147_1
  rcases List.mem_cons.mp hn with rfl | hn
  · exact sk_147_2
  exact absurd hn List.not_mem_nil)
/-- RaftTown.patch -/
def sc_148 : se_C := ((192, 3), ([(((90, 0, 0), 0, (0, 0, 0), (0, 0, 0)), (0, (0, 0, 0), (0, 0, 0))), (((0, (-2147483648), 2147483647), 0, (0, 0, 0), (0, 0, 0)), (0, (0, 1, 0), (0, 0, 0))), (((0, (-2147483648), 2147483647), 0, (0, 0, 0), (0, 0, 0)), (0, (0, 2, 0), (0, 0, 0)))], [some (1, 0, 0), some (1, 1, 0), some (1, 2, 0)], [], []), [([(((0, (-100006), 127), 0, (0, 0, 0), (0, 0, 0)), (0, (0, 0, 0), (0, 0, 0)))], some (1, 3, 0), [], [])], [(45, 0, 12), (46, 0, 12), (47, 0, 12), (48, 0, 10), (51, 0, 36), (74, 4, 5), (74, 5, 6), (88, 7, 8)])
abbrev sn_148 : List se_Nd := []
set_option maxRecDepth 100000 in
theorem sk_148 : se_chk0 se_tt [sc_4, sc_5, sc_57, sc_147] se_Z 37 se_zt sc_148 sn_148 7 = true := by decide +kernel
theorem sm_148 {ty : Nat → Option Nat} {J : List mm_C → Prop} {kx : Nat} {zs : List mm_Zt} (hO : se_Ok ty J kx zs) (h4 : se_Met ty se_tt J kx zs sc_4) (h5 : se_Met ty se_tt J kx zs sc_5) (h57 : se_Met ty se_tt J kx zs sc_57) (h147 : se_Met ty se_tt J kx zs sc_147) : se_Met ty se_tt J kx zs sc_148 := se_sound (C := [sc_4, sc_5, sc_57, sc_147]) hO.1 hO.2.1 hO.2.2 (fun n hn => by
  rcases List.mem_cons.mp hn with rfl | hn
  · exact h4
  rcases List.mem_cons.mp hn with rfl | hn
  · exact h5
  rcases List.mem_cons.mp hn with rfl | hn
  · exact h57
  rcases List.mem_cons.mp hn with rfl | hn
  · exact h147
  exact absurd hn List.not_mem_nil) sk_148 (fun _ hn => absurd hn List.not_mem_nil)
/-- RaftTown$Sea.soonest -/
def sc_149 : se_C := ((198, 2), ([(((80, 0, 0), 0, (0, 0, 0), (0, 0, 0)), (0, (0, 0, 0), (0, 0, 0))), (((0, (-2147483648), 2147483647), 0, (0, 0, 0), (0, 0, 0)), (0, (0, 1, 0), (0, 0, 0))), (((0, (-2147483648), 2147483647), 0, (0, 0, 0), (0, 0, 0)), (0, (0, 2, 0), (0, 0, 0))), (((0, 0, 1), 0, (0, 0, 0), (0, 0, 0)), (0, (0, 3, 0), (0, 0, 0)))], [some (1, 0, 0), some (1, 1, 0), some (1, 2, 0), some (1, 3, 0)], [], []), [([(((0, (-1), 30), 0, (0, 0, 0), (0, 0, 0)), (0, (0, 0, 0), (0, 0, 0)))], some (1, 4, 0), [], [])], [(51, 0, 36)])
def sn_149_0 : se_Nd := (3, ([(((80, 0, 0), 0, (0, 0, 0), (0, 0, 0)), (3, (0, 0, 0), (0, 0, 0))), (((0, (-2147483648), 2147483647), 0, (0, 0, 0), (0, 0, 0)), (3, (0, 1, 0), (0, 0, 0))), (((0, (-2147483648), 2147483647), 0, (0, 0, 0), (0, 0, 0)), (3, (0, 2, 0), (0, 0, 0))), (((0, 0, 1), 0, (0, 0, 0), (0, 0, 0)), (3, (0, 3, 0), (0, 0, 0))), (((0, 0, 36), 0, (0, 0, 0), (0, 0, 0)), (0, (0, 4, 0), (0, 0, 0)))], [some (1, 0, 0), some (1, 1, 0), some (1, 2, 0), some (1, 3, 0), some (1, 4, 0), none, none, none, none], [], []), [(0, 0, 1), ((-1), 4, 0), (0, 0, 1)])
def sn_149_1 : se_Nd := (27, ([(((80, 0, 0), 0, (0, 0, 0), (0, 0, 0)), (3, (0, 0, 0), (0, 0, 0))), (((0, (-2147483648), 2147483647), 0, (0, 0, 0), (0, 0, 0)), (3, (0, 1, 0), (0, 0, 0))), (((0, (-2147483648), 2147483647), 0, (0, 0, 0), (0, 0, 0)), (3, (0, 2, 0), (0, 0, 0))), (((0, 0, 1), 0, (0, 0, 0), (0, 0, 0)), (3, (0, 3, 0), (0, 0, 0))), (((0, 0, 35), 0, (0, 0, 0), (0, 0, 0)), (0, (0, 4, 0), (0, 0, 0))), (((0, 0, 35), 0, (0, 0, 0), (0, 0, 0)), (0, (0, 5, 0), (0, 0, 0))), (((1, 0, 0), 0, (0, 0, 0), (0, 0, 0)), (0, (0, 6, 0), (0, 0, 0))), (((0, 0, 4), 0, (0, 0, 0), (0, 0, 0)), (0, (0, 8, 0), (0, 0, 0)))], [some (1, 0, 0), some (1, 1, 0), some (1, 2, 0), some (1, 3, 0), some (1, 4, 0), some (1, 5, 0), some (1, 6, 0), none, some (1, 7, 0)], [], []), [(0, 0, 1), ((-1), 4, 0), (0, 0, 0), ((-1), 7, 0), (0, 0, 0)])
def sn_149_2 : se_Nd := (93, ([(((80, 0, 0), 0, (0, 0, 0), (0, 0, 0)), (3, (0, 0, 0), (0, 0, 0))), (((0, (-2147483648), 2147483647), 0, (0, 0, 0), (0, 0, 0)), (3, (0, 1, 0), (0, 0, 0))), (((0, (-2147483648), 2147483647), 0, (0, 0, 0), (0, 0, 0)), (3, (0, 2, 0), (0, 0, 0))), (((0, 0, 1), 0, (0, 0, 0), (0, 0, 0)), (3, (0, 3, 0), (0, 0, 0))), (((1, 0, 0), 0, (0, 0, 0), (0, 0, 0)), (0, (0, 4, 0), (0, 0, 0))), (((0, (-2147483648), 2147483647), 0, (0, 0, 0), (0, 0, 0)), (0, (0, 6, 0), (0, 0, 0))), (((0, 0, 31), 0, (0, 0, 0), (0, 0, 0)), (0, (0, 7, 0), (0, 0, 0)))], [some (1, 0, 0), some (1, 1, 0), some (1, 2, 0), some (1, 3, 0), some (1, 4, 0), none, some (1, 5, 0), some (1, 6, 0), none], [], []), [(0, 0, 0), ((-1), 6, 0), (0, 0, 0)])
abbrev sn_149 : List se_Nd := [sn_149_0, sn_149_1, sn_149_2]
set_option maxRecDepth 100000 in
theorem sk_149 : se_chk0 se_tt [sc_145] se_Z 37 se_zt sc_149 sn_149 7 = true := by decide +kernel
set_option maxRecDepth 100000 in
theorem sk_149_0 : se_chkn se_tt [sc_145] se_Z 37 se_zt sc_149 sn_149 7 sn_149_0 = true := by decide +kernel
set_option maxRecDepth 100000 in
theorem sk_149_1 : se_chkn se_tt [sc_145] se_Z 37 se_zt sc_149 sn_149 7 sn_149_1 = true := by decide +kernel
set_option maxRecDepth 100000 in
theorem sk_149_2 : se_chkn se_tt [sc_145] se_Z 37 se_zt sc_149 sn_149 7 sn_149_2 = true := by decide +kernel
theorem sm_149 {ty : Nat → Option Nat} {J : List mm_C → Prop} {kx : Nat} {zs : List mm_Zt} (hO : se_Ok ty J kx zs) (h145 : se_Met ty se_tt J kx zs sc_145) : se_Met ty se_tt J kx zs sc_149 := se_sound (C := [sc_145]) hO.1 hO.2.1 hO.2.2 (fun n hn => by
  rcases List.mem_cons.mp hn with rfl | hn
  · exact h145
  exact absurd hn List.not_mem_nil) sk_149 (fun n hn => by
  rcases List.mem_cons.mp hn with rfl | hn
  · exact sk_149_0
  rcases List.mem_cons.mp hn with rfl | hn
  · exact sk_149_1
  rcases List.mem_cons.mp hn with rfl | hn
  · exact sk_149_2
  exact absurd hn List.not_mem_nil)
