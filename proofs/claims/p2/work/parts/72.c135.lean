/-! ===== printed by wip/p2/gen_tab.py: contracts and their checks ===== -/
/-- RaftTownModel.allRopes -/
def sc_135 : se_C := ((233, 1), ([(((91, 0, 0), 0, (0, 0, 0), (0, 0, 0)), (0, (0, 0, 0), (0, 0, 0)))], [some (1, 0, 0)], [], []), [([(((0, 0, 4095), 0, (0, 0, 0), (0, 0, 0)), (0, (0, 0, 0), (0, 0, 0)))], some (1, 1, 0), [], [])], [])
def sn_135_0 : se_Nd := (4, ([(((91, 0, 0), 0, (0, 0, 0), (0, 0, 0)), (3, (0, 0, 0), (0, 0, 0))), (((0, 0, 4095), 0, (0, 0, 0), (0, 0, 0)), (0, (0, 1, 0), (0, 0, 0))), (((0, 0, 12), 0, (0, 0, 0), (0, 0, 0)), (0, (0, 2, 0), (0, 0, 0)))], [some (1, 0, 0), some (1, 1, 0), some (1, 2, 0)], [], []), [(0, 0, 0), ((-1), 2, 0), (0, 0, 0)])
abbrev sn_135 : List se_Nd := [sn_135_0]
set_option maxRecDepth 100000 in
theorem sk_135 : se_chk0 se_tt [] se_Z 37 se_zt sc_135 sn_135 6 = true := by decide +kernel
set_option maxRecDepth 100000 in
theorem sk_135_0 : se_chkn se_tt [] se_Z 37 se_zt sc_135 sn_135 6 sn_135_0 = true := by decide +kernel
theorem sm_135 {ty : Nat → Option Nat} {J : List mm_C → Prop} {kx : Nat} {zs : List mm_Zt} (hO : se_Ok ty J kx zs) : se_Met ty se_tt J kx zs sc_135 := se_sound (C := []) hO.1 hO.2.1 hO.2.2 (fun _ hn => absurd hn List.not_mem_nil) sk_135 (fun n hn => by
  rcases List.mem_cons.mp hn with rfl | hn
  · exact sk_135_0
  exact absurd hn List.not_mem_nil)
/-- RaftTownModel.partOf -/
def sc_136 : se_C := ((236, 1), ([(((91, 0, 0), 0, (0, 0, 0), (0, 0, 0)), (0, (0, 0, 0), (0, 0, 0))), (((0, 0, 9), 0, (0, 0, 0), (0, 0, 0)), (0, (0, 1, 0), (0, 0, 0))), (((0, (-2147483648), 2147483647), 0, (0, 0, 0), (0, 0, 0)), (0, (0, 2, 0), (0, 0, 0)))], [some (1, 0, 0), some (1, 1, 0), some (1, 2, 0)], [], []), [([(((0, 1, 1023), 0, (0, 0, 0), (0, 0, 0)), (0, (0, 0, 0), (0, 0, 0)))], some (1, 3, 0), [], [])], [])
def sn_136_0 : se_Nd := (7, ([(((91, 0, 0), 0, (0, 0, 0), (0, 0, 0)), (3, (0, 0, 0), (0, 0, 0))), (((0, 0, 9), 0, (0, 0, 0), (0, 0, 0)), (3, (0, 1, 0), (0, 0, 0))), (((0, (-2147483648), 2147483647), 0, (0, 0, 0), (0, 0, 0)), (3, (0, 2, 0), (0, 0, 0))), (((0, 1, 1023), 0, (0, 0, 0), (0, 0, 0)), (0, (0, 3, 0), (0, 0, 0))), (((0, 0, 1), 0, (0, 0, 0), (0, 0, 0)), (0, (0, 4, 0), (0, 0, 0)))], [some (1, 0, 0), some (1, 1, 0), some (1, 2, 0), some (1, 3, 0), some (1, 4, 0), none, none, none], [], []), [(0, 0, 0), ((-1), 3, 0), (0, 0, 0), (1, 4, 0), (0, 0, 0)])
def sn_136_1 : se_Nd := (18, ([(((91, 0, 0), 0, (0, 0, 0), (0, 0, 0)), (3, (0, 0, 0), (0, 0, 0))), (((0, 0, 9), 0, (0, 0, 0), (0, 0, 0)), (3, (0, 1, 0), (0, 0, 0))), (((0, (-2147483648), 2147483647), 0, (0, 0, 0), (0, 0, 0)), (3, (0, 2, 0), (0, 0, 0))), (((0, 1, 1023), 0, (0, 0, 0), (0, 0, 0)), (0, (0, 3, 0), (0, 0, 0))), (((0, 0, 1), 0, (0, 0, 0), (0, 0, 0)), (0, (0, 4, 0), (0, 0, 0))), (((0, 0, 12), 0, (0, 0, 0), (0, 0, 0)), (0, (0, 5, 0), (0, 0, 0)))], [some (1, 0, 0), some (1, 1, 0), some (1, 2, 0), some (1, 3, 0), some (1, 4, 0), some (1, 5, 0), none, none], [], []), [(0, 0, 0), ((-1), 3, 0), (0, 0, 0), (1, 4, 0), (0, 0, 1), ((-1), 5, 0), (0, 0, 0)])
abbrev sn_136 : List se_Nd := [sn_136_0, sn_136_1]
set_option maxRecDepth 100000 in
theorem sk_136 : se_chk0 se_tt [] se_Z 37 se_zt sc_136 sn_136 7 = true := by decide +kernel
set_option maxRecDepth 100000 in
theorem sk_136_0 : se_chkn se_tt [] se_Z 37 se_zt sc_136 sn_136 7 sn_136_0 = true := by decide +kernel
set_option maxRecDepth 100000 in
theorem sk_136_1 : se_chkn se_tt [] se_Z 37 se_zt sc_136 sn_136 7 sn_136_1 = true := by decide +kernel
theorem sm_136 {ty : Nat → Option Nat} {J : List mm_C → Prop} {kx : Nat} {zs : List mm_Zt} (hO : se_Ok ty J kx zs) : se_Met ty se_tt J kx zs sc_136 := se_sound (C := []) hO.1 hO.2.1 hO.2.2 (fun _ hn => absurd hn List.not_mem_nil) sk_136 (fun n hn => by
  rcases List.mem_cons.mp hn with rfl | hn
  · exact sk_136_0
  rcases List.mem_cons.mp hn with rfl | hn
  · exact sk_136_1
  exact absurd hn List.not_mem_nil)
/-- RaftTownModel.raftIs -/
def sc_137 : se_C := ((227, 3), ([(((91, 0, 0), 0, (0, 0, 0), (0, 0, 0)), (0, (0, 0, 0), (0, 0, 0))), (((0, (-2147483648), 2147483647), 0, (0, 0, 0), (0, 0, 0)), (0, (0, 1, 0), (0, 0, 0))), (((0, (-2147483648), 2147483647), 0, (0, 0, 0), (0, 0, 0)), (0, (0, 2, 0), (0, 0, 0)))], [some (1, 0, 0), some (1, 1, 0), some (1, 2, 0)], [], []), [([(((0, (-2147483648), 2147483647), 0, (0, 0, 0), (0, 0, 0)), (0, (0, 0, 0), (0, 0, 0)))], some (1, 3, 0), [], [])], [(89, 3, 4)])
abbrev sn_137 : List se_Nd := []
set_option maxRecDepth 100000 in
theorem sk_137 : se_chk0 se_tt [sc_h1, sc_133, sc_134, sc_135, sc_136] se_Z 37 se_zt sc_137 sn_137 6 = true := by decide +kernel
theorem sm_137 {ty : Nat → Option Nat} {J : List mm_C → Prop} {kx : Nat} {zs : List mm_Zt} (hO : se_Ok ty J kx zs) (hh1 : se_Met ty se_tt J kx zs sc_h1) (h133 : se_Met ty se_tt J kx zs sc_133) (h134 : se_Met ty se_tt J kx zs sc_134) (h135 : se_Met ty se_tt J kx zs sc_135) (h136 : se_Met ty se_tt J kx zs sc_136) : se_Met ty se_tt J kx zs sc_137 := se_sound (C := [sc_h1, sc_133, sc_134, sc_135, sc_136]) hO.1 hO.2.1 hO.2.2 (fun n hn => by
  rcases List.mem_cons.mp hn with rfl | hn
  · exact hh1
  rcases List.mem_cons.mp hn with rfl | hn
  · exact h133
  rcases List.mem_cons.mp hn with rfl | hn
  · exact h134
  rcases List.mem_cons.mp hn with rfl | hn
  · exact h135
  rcases List.mem_cons.mp hn with rfl | hn
  · exact h136
  exact absurd hn List.not_mem_nil) sk_137 (fun _ hn => absurd hn List.not_mem_nil)
/-- RaftTownModel.load -/
def sc_138 : se_C := ((238, 1), ([(((91, 0, 0), 0, (0, 0, 0), (0, 0, 0)), (0, (0, 0, 0), (0, 0, 0))), (((0, (-2147483648), 2147483647), 0, (0, 0, 0), (0, 0, 0)), (0, (0, 1, 0), (0, 0, 0))), (((0, (-2147483648), 2147483647), 0, (0, 0, 0), (0, 0, 0)), (0, (0, 2, 0), (0, 0, 0))), (((0, 0, 1), 0, (0, 0, 0), (0, 0, 0)), (0, (0, 3, 0), (0, 0, 0)))], [some (1, 0, 0), some (1, 1, 0), some (1, 2, 0), some (1, 3, 0)], [], []), [([(((0, (-2147483648), 2147483647), 0, (0, 0, 0), (0, 0, 0)), (0, (0, 0, 0), (0, 0, 0)))], some (1, 4, 0), [], [])], [(56, 0, 528), (89, 3, 4)])
abbrev sn_138 : List se_Nd := []
set_option maxRecDepth 100000 in
theorem sk_138 : se_chk0 se_tt [] se_Z 37 se_zt sc_138 sn_138 8 = true := by decide +kernel
theorem sm_138 {ty : Nat → Option Nat} {J : List mm_C → Prop} {kx : Nat} {zs : List mm_Zt} (hO : se_Ok ty J kx zs) : se_Met ty se_tt J kx zs sc_138 := se_sound (C := []) hO.1 hO.2.1 hO.2.2 (fun _ hn => absurd hn List.not_mem_nil) sk_138 (fun _ hn => absurd hn List.not_mem_nil)
/-- RaftTownModel.trade -/
def sc_139 : se_C := ((241, 2), ([(((91, 0, 0), 0, (0, 0, 0), (0, 0, 0)), (0, (0, 0, 0), (0, 0, 0))), (((0, (-2147483648), 2147483647), 0, (0, 0, 0), (0, 0, 0)), (0, (0, 1, 0), (0, 0, 0))), (((0, (-2147483648), 2147483647), 0, (0, 0, 0), (0, 0, 0)), (0, (0, 2, 0), (0, 0, 0))), (((0, (-2147483648), 2147483647), 0, (0, 0, 0), (0, 0, 0)), (0, (0, 3, 0), (0, 0, 0))), (((0, 0, 1), 0, (0, 0, 0), (0, 0, 0)), (0, (0, 4, 0), (0, 0, 0)))], [some (1, 0, 0), some (1, 1, 0), some (1, 2, 0), some (1, 3, 0), some (1, 4, 0)], [], []), [([(((0, (-2147483648), 2147483647), 0, (0, 0, 0), (0, 0, 0)), (0, (0, 0, 0), (0, 0, 0)))], some (1, 5, 0), [], [])], [(56, 0, 528), (89, 3, 4)])
abbrev sn_139 : List se_Nd := []
set_option maxRecDepth 100000 in
theorem sk_139 : se_chk0 se_tt [sc_135, sc_136] se_Z 37 se_zt sc_139 sn_139 9 = true := by decide +kernel
theorem sm_139 {ty : Nat → Option Nat} {J : List mm_C → Prop} {kx : Nat} {zs : List mm_Zt} (hO : se_Ok ty J kx zs) (h135 : se_Met ty se_tt J kx zs sc_135) (h136 : se_Met ty se_tt J kx zs sc_136) : se_Met ty se_tt J kx zs sc_139 := se_sound (C := [sc_135, sc_136]) hO.1 hO.2.1 hO.2.2 (fun n hn => by
  rcases List.mem_cons.mp hn with rfl | hn
  · exact h135
  rcases List.mem_cons.mp hn with rfl | hn
  · exact h136
  exact absurd hn List.not_mem_nil) sk_139 (fun _ hn => absurd hn List.not_mem_nil)
/-- RaftTownModel.person -/
def sc_140 : se_C := ((242, 1), ([(((91, 0, 0), 0, (0, 0, 0), (0, 0, 0)), (0, (0, 0, 0), (0, 0, 0))), (((0, (-2147483648), 2147483647), 0, (0, 0, 0), (0, 0, 0)), (0, (0, 1, 0), (0, 0, 0))), (((0, (-2147483648), 2147483647), 0, (0, 0, 0), (0, 0, 0)), (0, (0, 2, 0), (0, 0, 0))), (((0, (-2147483648), 2147483647), 0, (0, 0, 0), (0, 0, 0)), (0, (0, 3, 0), (0, 0, 0))), (((0, (-2147483648), 2147483647), 0, (0, 0, 0), (0, 0, 0)), (0, (0, 4, 0), (0, 0, 0)))], [some (1, 0, 0), some (1, 1, 0), some (1, 2, 0), some (1, 3, 0), some (1, 4, 0)], [], []), [([(((0, (-100006), 13), 0, (0, 0, 0), (0, 0, 0)), (0, (0, 0, 0), (0, 0, 0)))], some (1, 5, 0), [], [])], [(56, 0, 528), (89, 3, 4)])
abbrev sn_140 : List se_Nd := []
set_option maxRecDepth 100000 in
theorem sk_140 : se_chk0 se_tt [] se_Z 37 se_zt sc_140 sn_140 8 = true := by decide +kernel
theorem sm_140 {ty : Nat → Option Nat} {J : List mm_C → Prop} {kx : Nat} {zs : List mm_Zt} (hO : se_Ok ty J kx zs) : se_Met ty se_tt J kx zs sc_140 := se_sound (C := []) hO.1 hO.2.1 hO.2.2 (fun _ hn => absurd hn List.not_mem_nil) sk_140 (fun _ hn => absurd hn List.not_mem_nil)
/-- RaftTownModel.wed -/
def sc_141 : se_C := ((243, 1), ([(((91, 0, 0), 0, (0, 0, 0), (0, 0, 0)), (0, (0, 0, 0), (0, 0, 0))), (((0, (-2147483648), 2147483647), 0, (0, 0, 0), (0, 0, 0)), (0, (0, 1, 0), (0, 0, 0))), (((0, (-2147483648), 2147483647), 0, (0, 0, 0), (0, 0, 0)), (0, (0, 2, 0), (0, 0, 0)))], [some (1, 0, 0), some (1, 1, 0), some (1, 2, 0)], [], []), [([(((0, (-100007), 1), 0, (0, 0, 0), (0, 0, 0)), (0, (0, 0, 0), (0, 0, 0)))], some (1, 3, 0), [], [])], [(56, 0, 528), (89, 3, 4)])
abbrev sn_141 : List se_Nd := []
set_option maxRecDepth 100000 in
theorem sk_141 : se_chk0 se_tt [] se_Z 37 se_zt sc_141 sn_141 8 = true := by decide +kernel
theorem sm_141 {ty : Nat → Option Nat} {J : List mm_C → Prop} {kx : Nat} {zs : List mm_Zt} (hO : se_Ok ty J kx zs) : se_Met ty se_tt J kx zs sc_141 := se_sound (C := []) hO.1 hO.2.1 hO.2.2 (fun _ hn => absurd hn List.not_mem_nil) sk_141 (fun _ hn => absurd hn List.not_mem_nil)
/-- RaftTownModel.move -/
def sc_142 : se_C := ((245, 2), ([(((91, 0, 0), 0, (0, 0, 0), (0, 0, 0)), (0, (0, 0, 0), (0, 0, 0))), (((0, (-2147483648), 2147483647), 0, (0, 0, 0), (0, 0, 0)), (0, (0, 1, 0), (0, 0, 0))), (((0, (-2147483648), 2147483647), 0, (0, 0, 0), (0, 0, 0)), (0, (0, 2, 0), (0, 0, 0)))], [some (1, 0, 0), some (1, 1, 0), some (1, 2, 0)], [], []), [([(((0, (-100008), 9), 0, (0, 0, 0), (0, 0, 0)), (0, (0, 0, 0), (0, 0, 0)))], some (1, 3, 0), [], [])], [(56, 0, 528), (89, 3, 4)])
abbrev sn_142 : List se_Nd := []
set_option maxRecDepth 100000 in
theorem sk_142 : se_chk0 se_tt [sc_135, sc_136] se_Z 37 se_zt sc_142 sn_142 8 = true := by decide +kernel
theorem sm_142 {ty : Nat → Option Nat} {J : List mm_C → Prop} {kx : Nat} {zs : List mm_Zt} (hO : se_Ok ty J kx zs) (h135 : se_Met ty se_tt J kx zs sc_135) (h136 : se_Met ty se_tt J kx zs sc_136) : se_Met ty se_tt J kx zs sc_142 := se_sound (C := [sc_135, sc_136]) hO.1 hO.2.1 hO.2.2 (fun n hn => by
  rcases List.mem_cons.mp hn with rfl | hn
  · exact h135
  rcases List.mem_cons.mp hn with rfl | hn
  · exact h136
  exact absurd hn List.not_mem_nil) sk_142 (fun _ hn => absurd hn List.not_mem_nil)
/-- RaftTownModel.areKin -/
def sc_143 : se_C := ((247, 1), ([(((91, 0, 0), 0, (0, 0, 0), (0, 0, 0)), (0, (0, 0, 0), (0, 0, 0))), (((0, 0, 13), 0, (0, 0, 0), (0, 0, 0)), (0, (0, 1, 0), (0, 0, 0))), (((0, 0, 13), 0, (0, 0, 0), (0, 0, 0)), (0, (0, 2, 0), (0, 0, 0)))], [some (1, 0, 0), some (1, 1, 0), some (1, 2, 0)], [], []), [([(((0, 0, 1), 0, (0, 0, 0), (0, 0, 0)), (0, (0, 0, 0), (0, 0, 0)))], some (1, 3, 0), [], [])], [])
abbrev sn_143 : List se_Nd := []
set_option maxRecDepth 100000 in
theorem sk_143 : se_chk0 se_tt [] se_Z 37 se_zt sc_143 sn_143 8 = true := by decide +kernel
theorem sm_143 {ty : Nat → Option Nat} {J : List mm_C → Prop} {kx : Nat} {zs : List mm_Zt} (hO : se_Ok ty J kx zs) : se_Met ty se_tt J kx zs sc_143 := se_sound (C := []) hO.1 hO.2.1 hO.2.2 (fun _ hn => absurd hn List.not_mem_nil) sk_143 (fun _ hn => absurd hn List.not_mem_nil)
/-- RaftTownModel.personIs -/
def sc_144 : se_C := ((246, 2), ([(((91, 0, 0), 0, (0, 0, 0), (0, 0, 0)), (0, (0, 0, 0), (0, 0, 0))), (((0, (-2147483648), 2147483647), 0, (0, 0, 0), (0, 0, 0)), (0, (0, 1, 0), (0, 0, 0))), (((0, (-2147483648), 2147483647), 0, (0, 0, 0), (0, 0, 0)), (0, (0, 2, 0), (0, 0, 0)))], [some (1, 0, 0), some (1, 1, 0), some (1, 2, 0)], [], []), [([(((0, (-2147483648), 2147483647), 0, (0, 0, 0), (0, 0, 0)), (0, (0, 0, 0), (0, 0, 0)))], some (1, 3, 0), [], [])], [(89, 3, 4)])
def sn_144_0 : se_Nd := (83, ([(((91, 0, 0), 0, (0, 0, 0), (0, 0, 0)), (3, (0, 0, 0), (0, 0, 0))), (((0, 0, 13), 0, (0, 0, 0), (0, 0, 0)), (3, (0, 1, 0), (0, 0, 0))), (((0, 5, 5), 0, (0, 0, 0), (0, 0, 0)), (3, (0, 2, 0), (0, 0, 0))), (((0, 0, 65535), 0, (0, 0, 0), (0, 0, 0)), (0, (0, 3, 0), (0, 0, 0))), (((0, 0, 14), 0, (0, 0, 0), (0, 0, 0)), (0, (0, 4, 0), (0, 0, 0)))], [some (1, 0, 0), some (1, 1, 0), some (1, 2, 0), some (1, 3, 0), some (1, 4, 0)], [], []), [(0, 0, 0), ((-1), 4, 0), (0, 0, 0)])
abbrev sn_144 : List se_Nd := [sn_144_0]
set_option maxRecDepth 100000 in
theorem sk_144 : se_chk0 se_tt [sc_143] se_Z 37 se_zt sc_144 sn_144 6 = true := by decide +kernel
set_option maxRecDepth 100000 in
theorem sk_144_0 : se_chkn se_tt [sc_143] se_Z 37 se_zt sc_144 sn_144 6 sn_144_0 = true := by decide +kernel
theorem sm_144 {ty : Nat → Option Nat} {J : List mm_C → Prop} {kx : Nat} {zs : List mm_Zt} (hO : se_Ok ty J kx zs) (h143 : se_Met ty se_tt J kx zs sc_143) : se_Met ty se_tt J kx zs sc_144 := se_sound (C := [sc_143]) hO.1 hO.2.1 hO.2.2 (fun n hn => by
  rcases List.mem_cons.mp hn with rfl | hn
  · exact h143
  exact absurd hn List.not_mem_nil) sk_144 (fun n hn => by
  rcases List.mem_cons.mp hn with rfl | hn
  · exact sk_144_0
  exact absurd hn List.not_mem_nil)
/-- RaftTownModel.partMany -/
def sc_145 : se_C := ((250, 2), ([(((91, 0, 0), 0, (0, 0, 0), (0, 0, 0)), (0, (0, 0, 0), (0, 0, 0)))], [some (1, 0, 0)], [], []), [([(((0, (-2147483648), 2147483647), 0, (0, 0, 0), (0, 0, 0)), (0, (0, 0, 0), (0, 0, 0)))], some (1, 1, 0), [], [])], [])
def sn_145_0 : se_Nd := (9, ([(((91, 0, 0), 0, (0, 0, 0), (0, 0, 0)), (3, (0, 0, 0), (0, 0, 0))), (((0, 0, 4095), 0, (0, 0, 0), (0, 0, 0)), (0, (0, 1, 0), (0, 0, 0))), (((0, (-2147483648), 2147483647), 0, (0, 0, 0), (0, 0, 0)), (0, (0, 2, 0), (0, 0, 0))), (((0, 0, 10), 0, (0, 0, 0), (0, 0, 0)), (0, (0, 3, 0), (0, 0, 0)))], [some (1, 0, 0), some (1, 1, 0), some (1, 2, 0), some (1, 3, 0)], [], []), [(0, 0, 0), ((-1), 3, 0), (0, 0, 0)])
abbrev sn_145 : List se_Nd := [sn_145_0]
set_option maxRecDepth 100000 in
theorem sk_145 : se_chk0 se_tt [sc_h1, sc_135, sc_136] se_Z 37 se_zt sc_145 sn_145 6 = true := by decide +kernel
set_option maxRecDepth 100000 in
theorem sk_145_0 : se_chkn se_tt [sc_h1, sc_135, sc_136] se_Z 37 se_zt sc_145 sn_145 6 sn_145_0 = true := by decide +kernel
theorem sm_145 {ty : Nat → Option Nat} {J : List mm_C → Prop} {kx : Nat} {zs : List mm_Zt} (hO : se_Ok ty J kx zs) (hh1 : se_Met ty se_tt J kx zs sc_h1) (h135 : se_Met ty se_tt J kx zs sc_135) (h136 : se_Met ty se_tt J kx zs sc_136) : se_Met ty se_tt J kx zs sc_145 := se_sound (C := [sc_h1, sc_135, sc_136]) hO.1 hO.2.1 hO.2.2 (fun n hn => by
  rcases List.mem_cons.mp hn with rfl | hn
  · exact hh1
  rcases List.mem_cons.mp hn with rfl | hn
  · exact h135
  rcases List.mem_cons.mp hn with rfl | hn
  · exact h136
  exact absurd hn List.not_mem_nil) sk_145 (fun n hn => by
  rcases List.mem_cons.mp hn with rfl | hn
  · exact sk_145_0
  exact absurd hn List.not_mem_nil)
/-- RaftTownModel.parts -/
def sc_146 : se_C := ((249, 3), ([(((91, 0, 0), 0, (0, 0, 0), (0, 0, 0)), (0, (0, 0, 0), (0, 0, 0)))], [some (1, 0, 0)], [], []), [([(((0, (-2147483648), 2147483647), 0, (0, 0, 0), (0, 0, 0)), (0, (0, 0, 0), (0, 0, 0)))], some (1, 1, 0), [], [])], [])
abbrev sn_146 : List se_Nd := []
set_option maxRecDepth 100000 in
theorem sk_146 : se_chk0 se_tt [sc_145] se_Z 37 se_zt sc_146 sn_146 2 = true := by decide +kernel
theorem sm_146 {ty : Nat → Option Nat} {J : List mm_C → Prop} {kx : Nat} {zs : List mm_Zt} (hO : se_Ok ty J kx zs) (h145 : se_Met ty se_tt J kx zs sc_145) : se_Met ty se_tt J kx zs sc_146 := se_sound (C := [sc_145]) hO.1 hO.2.1 hO.2.2 (fun n hn => by
  rcases List.mem_cons.mp hn with rfl | hn
  · exact h145
  exact absurd hn List.not_mem_nil) sk_146 (fun _ hn => absurd hn List.not_mem_nil)
/-- RaftTownModel.part -/
def sc_147 : se_C := ((251, 2), ([(((91, 0, 0), 0, (0, 0, 0), (0, 0, 0)), (0, (0, 0, 0), (0, 0, 0))), (((0, (-2147483648), 2147483647), 0, (0, 0, 0), (0, 0, 0)), (0, (0, 1, 0), (0, 0, 0)))], [some (1, 0, 0), some (1, 1, 0)], [], []), [([(((0, (-100006), 1023), 0, (0, 0, 0), (0, 0, 0)), (0, (0, 0, 0), (0, 0, 0)))], some (1, 2, 0), [], [])], [(89, 3, 4)])
abbrev sn_147 : List se_Nd := []
set_option maxRecDepth 100000 in
theorem sk_147 : se_chk0 se_tt [sc_135, sc_136] se_Z 37 se_zt sc_147 sn_147 6 = true := by decide +kernel
theorem sm_147 {ty : Nat → Option Nat} {J : List mm_C → Prop} {kx : Nat} {zs : List mm_Zt} (hO : se_Ok ty J kx zs) (h135 : se_Met ty se_tt J kx zs sc_135) (h136 : se_Met ty se_tt J kx zs sc_136) : se_Met ty se_tt J kx zs sc_147 := se_sound (C := [sc_135, sc_136]) hO.1 hO.2.1 hO.2.2 (fun n hn => by
  rcases List.mem_cons.mp hn with rfl | hn
  · exact h135
  rcases List.mem_cons.mp hn with rfl | hn
  · exact h136
  exact absurd hn List.not_mem_nil) sk_147 (fun _ hn => absurd hn List.not_mem_nil)
/-- RaftTownModel.hasRoom -/
def sc_148 : se_C := ((253, 1), ([(((91, 0, 0), 0, (0, 0, 0), (0, 0, 0)), (0, (0, 0, 0), (0, 0, 0))), (((0, 0, 9), 0, (0, 0, 0), (0, 0, 0)), (0, (0, 1, 0), (0, 0, 0))), (((0, (-2147483648), 2147483647), 0, (0, 0, 0), (0, 0, 0)), (0, (0, 2, 0), (0, 0, 0)))], [some (1, 0, 0), some (1, 1, 0), some (1, 2, 0)], [], []), [([(((0, 0, 1), 0, (0, 0, 0), (0, 0, 0)), (0, (0, 0, 0), (0, 0, 0)))], some (1, 3, 0), [], [])], [])
def sn_148_0 : se_Nd := (5, ([(((91, 0, 0), 0, (0, 0, 0), (0, 0, 0)), (3, (0, 0, 0), (0, 0, 0))), (((0, 0, 9), 0, (0, 0, 0), (0, 0, 0)), (3, (0, 1, 0), (0, 0, 0))), (((0, (-2147483648), 2147483647), 0, (0, 0, 0), (0, 0, 0)), (3, (0, 2, 0), (0, 0, 0))), (((0, (-2147483648), 2147483647), 0, (0, 0, 0), (0, 0, 0)), (0, (0, 3, 0), (0, 0, 0))), (((0, 0, 12), 0, (0, 0, 0), (0, 0, 0)), (0, (0, 4, 0), (0, 0, 0)))], [some (1, 0, 0), some (1, 1, 0), some (1, 2, 0), some (1, 3, 0), some (1, 4, 0)], [], []), [(0, 0, 0), ((-1), 4, 0), (0, 0, 0)])
abbrev sn_148 : List se_Nd := [sn_148_0]
set_option maxRecDepth 100000 in
theorem sk_148 : se_chk0 se_tt [] se_Z 37 se_zt sc_148 sn_148 7 = true := by decide +kernel
set_option maxRecDepth 100000 in
theorem sk_148_0 : se_chkn se_tt [] se_Z 37 se_zt sc_148 sn_148 7 sn_148_0 = true := by decide +kernel
theorem sm_148 {ty : Nat → Option Nat} {J : List mm_C → Prop} {kx : Nat} {zs : List mm_Zt} (hO : se_Ok ty J kx zs) : se_Met ty se_tt J kx zs sc_148 := se_sound (C := []) hO.1 hO.2.1 hO.2.2 (fun _ hn => absurd hn List.not_mem_nil) sk_148 (fun n hn => by
  rcases List.mem_cons.mp hn with rfl | hn
  · exact sk_148_0
  exact absurd hn List.not_mem_nil)
/-- RaftTownModel.tellsOn -/
def sc_149 : se_C := ((254, 1), ([(((91, 0, 0), 0, (0, 0, 0), (0, 0, 0)), (0, (0, 0, 0), (0, 0, 0))), (((0, (-2147483648), 2147483647), 0, (0, 0, 0), (0, 0, 0)), (0, (0, 1, 0), (0, 0, 0)))], [some (1, 0, 0), some (1, 1, 0)], [], []), [([], none, [], [])], [(56, 0, 528)])
def sn_149_0 : se_Nd := (2, ([(((91, 0, 0), 0, (0, 0, 0), (0, 0, 0)), (3, (0, 0, 0), (0, 0, 0))), (((0, (-2147483648), 2147483647), 0, (0, 0, 0), (0, 0, 0)), (3, (0, 1, 0), (0, 0, 0))), (((0, 0, 40), 0, (0, 0, 0), (0, 0, 0)), (0, (0, 2, 0), (0, 0, 0)))], [some (1, 0, 0), some (1, 1, 0), some (1, 2, 0)], [], []), [(0, 0, 1), ((-1), 2, 0), (0, 0, 0)])
def sn_149_1 : se_Nd := (58, ([(((91, 0, 0), 0, (0, 0, 0), (0, 0, 0)), (3, (0, 0, 0), (0, 0, 0))), (((0, (-2147483648), 2147483647), 0, (0, 0, 0), (0, 0, 0)), (3, (0, 1, 0), (0, 0, 0))), (((0, 0, 12), 0, (0, 0, 0), (0, 0, 0)), (0, (0, 2, 0), (0, 0, 0)))], [some (1, 0, 0), some (1, 1, 0), some (1, 2, 0)], [], []), [(0, 0, 0), ((-1), 2, 0), (0, 0, 0)])
abbrev sn_149 : List se_Nd := [sn_149_0, sn_149_1]
set_option maxRecDepth 100000 in
theorem sk_149 : se_chk0 se_tt [] se_Z 37 se_zt sc_149 sn_149 6 = true := by decide +kernel
set_option maxRecDepth 100000 in
theorem sk_149_0 : se_chkn se_tt [] se_Z 37 se_zt sc_149 sn_149 6 sn_149_0 = true := by decide +kernel
set_option maxRecDepth 100000 in
theorem sk_149_1 : se_chkn se_tt [] se_Z 37 se_zt sc_149 sn_149 6 sn_149_1 = true := by decide +kernel
theorem sm_149 {ty : Nat → Option Nat} {J : List mm_C → Prop} {kx : Nat} {zs : List mm_Zt} (hO : se_Ok ty J kx zs) : se_Met ty se_tt J kx zs sc_149 := se_sound (C := []) hO.1 hO.2.1 hO.2.2 (fun _ hn => absurd hn List.not_mem_nil) sk_149 (fun n hn => by
  rcases List.mem_cons.mp hn with rfl | hn
  · exact sk_149_0
  rcases List.mem_cons.mp hn with rfl | hn
  · exact sk_149_1
  exact absurd hn List.not_mem_nil)
