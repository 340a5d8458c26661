/-! ===== printed by wip/p2/gen_tab.py: contracts and their checks ===== -/
/-- RaftTownModel.happens -/
def sc_150 : se_C := ((255, 1), ([(((91, 0, 0), 0, (0, 0, 0), (0, 0, 0)), (0, (0, 0, 0), (0, 0, 0))), (((0, (-2147483648), 2147483647), 0, (0, 0, 0), (0, 0, 0)), (0, (0, 1, 0), (0, 0, 0))), (((0, (-2147483648), 2147483647), 0, (0, 0, 0), (0, 0, 0)), (0, (0, 2, 0), (0, 0, 0))), (((0, (-2147483648), 2147483647), 0, (0, 0, 0), (0, 0, 0)), (0, (0, 3, 0), (0, 0, 0)))], [some (1, 0, 0), some (1, 1, 0), some (1, 2, 0), some (1, 3, 0)], [], []), [([], none, [], [])], [(56, 0, 528)])
def sn_150_0 : se_Nd := (15, ([(((91, 0, 0), 0, (0, 0, 0), (0, 0, 0)), (3, (0, 0, 0), (0, 0, 0))), (((0, (-2147483648), 2147483647), 0, (0, 0, 0), (0, 0, 0)), (3, (0, 1, 0), (0, 0, 0))), (((0, (-2147483648), 2147483647), 0, (0, 0, 0), (0, 0, 0)), (3, (0, 2, 0), (0, 0, 0))), (((0, (-2147483648), 2147483647), 0, (0, 0, 0), (0, 0, 0)), (3, (0, 3, 0), (0, 0, 0))), (((0, 0, 156), 0, (0, 0, 0), (0, 0, 0)), (0, (0, 4, 0), (0, 0, 0))), (((58, 0, 0), 0, (0, 0, 0), (0, 0, 0)), (1, (1, 0, 0), (0, 0, 0))), (((0, 40, 40), 0, (0, 0, 0), (0, 0, 0)), (1, (1, 5, 0), (0, 0, 6)))], [some (1, 0, 0), some (1, 1, 0), some (1, 2, 0), some (1, 3, 0), some (1, 4, 0)], [((1, 0, 0), (0, 0, 0), (1, 5, 0)), ((1, 5, 0), (0, 0, 6), (1, 6, 0))], []), [(0, 0, 0), ((-1), 4, 0), (0, 0, 0)])
abbrev sn_150 : List se_Nd := [sn_150_0]
set_option maxRecDepth 100000 in
theorem sk_150 : se_chk0 se_tt [] se_Z 37 se_zt sc_150 sn_150 6 = true := by decide +kernel
set_option maxRecDepth 100000 in
theorem sk_150_0 : se_chkn se_tt [] se_Z 37 se_zt sc_150 sn_150 6 sn_150_0 = true := by decide +kernel
theorem sm_150 {ty : Nat → Option Nat} {J : List mm_C → Prop} {kx : Nat} {zs : List mm_Zt} (hO : se_Ok ty J kx zs) : se_Met ty se_tt J kx zs sc_150 := se_sound (C := []) hO.1 hO.2.1 hO.2.2 (fun _ hn => absurd hn List.not_mem_nil) sk_150 (fun n hn => by
  rcases List.mem_cons.mp hn with rfl | hn
  · exact sk_150_0
  exact absurd hn List.not_mem_nil)
/-- RaftTownModel.tie -/
def sc_151 : se_C := ((252, 2), ([(((91, 0, 0), 0, (0, 0, 0), (0, 0, 0)), (0, (0, 0, 0), (0, 0, 0))), (((0, (-2147483648), 2147483647), 0, (0, 0, 0), (0, 0, 0)), (0, (0, 1, 0), (0, 0, 0))), (((0, (-2147483648), 2147483647), 0, (0, 0, 0), (0, 0, 0)), (0, (0, 2, 0), (0, 0, 0))), (((0, (-2147483648), 2147483647), 0, (0, 0, 0), (0, 0, 0)), (0, (0, 3, 0), (0, 0, 0))), (((0, (-2147483648), 2147483647), 0, (0, 0, 0), (0, 0, 0)), (0, (0, 4, 0), (0, 0, 0))), (((0, (-2147483648), 2147483647), 0, (0, 0, 0), (0, 0, 0)), (0, (0, 5, 0), (0, 0, 0)))], [some (1, 0, 0), some (1, 1, 0), some (1, 2, 0), some (1, 3, 0), some (1, 4, 0), some (1, 5, 0)], [], []), [([(((0, (-100008), 11), 0, (0, 0, 0), (0, 0, 0)), (0, (0, 0, 0), (0, 0, 0)))], some (1, 6, 0), [], [])], [(56, 0, 528), (89, 3, 4)])
def sn_151_0 : se_Nd := (139, ([(((91, 0, 0), 0, (0, 0, 0), (0, 0, 0)), (3, (0, 0, 0), (0, 0, 0))), (((0, 0, 9), 0, (0, 0, 0), (0, 0, 0)), (3, (0, 1, 0), (0, 0, 0))), (((0, 0, 3), 0, (0, 0, 0), (0, 0, 0)), (3, (0, 2, 0), (0, 0, 0))), (((0, 0, 9), 0, (0, 0, 0), (0, 0, 0)), (3, (0, 3, 0), (0, 0, 0))), (((0, 0, 3), 0, (0, 0, 0), (0, 0, 0)), (3, (0, 4, 0), (0, 0, 0))), (((0, 1, 99), 0, (0, 0, 0), (0, 0, 0)), (3, (0, 5, 0), (0, 0, 0))), (((0, 0, 12), 0, (0, 0, 0), (0, 0, 0)), (0, (0, 6, 0), (0, 0, 0)))], [some (1, 0, 0), some (1, 1, 0), some (1, 2, 0), some (1, 3, 0), some (1, 4, 0), some (1, 5, 0), some (1, 6, 0), none, none], [], []), [(0, 0, 0), ((-1), 6, 0), (0, 0, 0)])
abbrev sn_151 : List se_Nd := [sn_151_0]
set_option maxRecDepth 100000 in
theorem sk_151 : se_chk0 se_tt [sc_135, sc_136, sc_148, sc_149, sc_150] se_Z 37 se_zt sc_151 sn_151 8 = true := by decide +kernel
set_option maxRecDepth 100000 in
theorem sk_151_0 : se_chkn se_tt [sc_135, sc_136, sc_148, sc_149, sc_150] se_Z 37 se_zt sc_151 sn_151 8 sn_151_0 = true := by decide +kernel
theorem sm_151 {ty : Nat → Option Nat} {J : List mm_C → Prop} {kx : Nat} {zs : List mm_Zt} (hO : se_Ok ty J kx zs) (h135 : se_Met ty se_tt J kx zs sc_135) (h136 : se_Met ty se_tt J kx zs sc_136) (h148 : se_Met ty se_tt J kx zs sc_148) (h149 : se_Met ty se_tt J kx zs sc_149) (h150 : se_Met ty se_tt J kx zs sc_150) : se_Met ty se_tt J kx zs sc_151 := se_sound (C := [sc_135, sc_136, sc_148, sc_149, sc_150]) hO.1 hO.2.1 hO.2.2 (fun n hn => by
  rcases List.mem_cons.mp hn with rfl | hn
  · exact h135
  rcases List.mem_cons.mp hn with rfl | hn
  · exact h136
  rcases List.mem_cons.mp hn with rfl | hn
  · exact h148
  rcases List.mem_cons.mp hn with rfl | hn
  · exact h149
  rcases List.mem_cons.mp hn with rfl | hn
  · exact h150
  exact absurd hn List.not_mem_nil) sk_151 (fun n hn => by
  rcases List.mem_cons.mp hn with rfl | hn
  · exact sk_151_0
  exact absurd hn List.not_mem_nil)
/-- RaftTownModel.weighs -/
def sc_152 : se_C := ((259, 3), ([(((91, 0, 0), 0, (0, 0, 0), (0, 0, 0)), (0, (0, 0, 0), (0, 0, 0)))], [some (1, 0, 0)], [], []), [([], none, [], [])], [(57, 0, 10)])
def sn_152_0 : se_Nd := (2, ([(((91, 0, 0), 0, (0, 0, 0), (0, 0, 0)), (3, (0, 0, 0), (0, 0, 0))), (((0, 0, 10), 0, (0, 0, 0), (0, 0, 0)), (0, (0, 1, 0), (0, 0, 0)))], [some (1, 0, 0), some (1, 1, 0)], [], []), [(0, 0, 0), ((-1), 1, 0), (0, 0, 0)])
abbrev sn_152 : List se_Nd := [sn_152_0]
set_option maxRecDepth 100000 in
theorem sk_152 : se_chk0 se_tt [sc_134] se_Z 37 se_zt sc_152 sn_152 4 = true := by decide +kernel
set_option maxRecDepth 100000 in
theorem sk_152_0 : se_chkn se_tt [sc_134] se_Z 37 se_zt sc_152 sn_152 4 sn_152_0 = true := by decide +kernel
theorem sm_152 {ty : Nat → Option Nat} {J : List mm_C → Prop} {kx : Nat} {zs : List mm_Zt} (hO : se_Ok ty J kx zs) (h134 : se_Met ty se_tt J kx zs sc_134) : se_Met ty se_tt J kx zs sc_152 := se_sound (C := [sc_134]) hO.1 hO.2.1 hO.2.2 (fun n hn => by
  rcases List.mem_cons.mp hn with rfl | hn
  · exact h134
  exact absurd hn List.not_mem_nil) sk_152 (fun n hn => by
  rcases List.mem_cons.mp hn with rfl | hn
  · exact sk_152_0
  exact absurd hn List.not_mem_nil)
/-- RaftTownModel.weightOfAll -/
def sc_153 : se_C := ((261, 1), ([(((91, 0, 0), 0, (0, 0, 0), (0, 0, 0)), (0, (0, 0, 0), (0, 0, 0))), (((0, (-2147483648), 2147483647), 0, (0, 0, 0), (0, 0, 0)), (0, (0, 1, 0), (0, 0, 0)))], [some (1, 0, 0), some (1, 1, 0)], [], []), [([(((0, (-2147483648), 2147483647), 0, (0, 0, 0), (0, 0, 0)), (0, (0, 0, 0), (0, 0, 0)))], some (1, 2, 0), [], [])], [])
def sn_153_0 : se_Nd := (4, ([(((91, 0, 0), 0, (0, 0, 0), (0, 0, 0)), (3, (0, 0, 0), (0, 0, 0))), (((0, (-2147483648), 2147483647), 0, (0, 0, 0), (0, 0, 0)), (3, (0, 1, 0), (0, 0, 0))), (((0, (-2147483648), 2147483647), 0, (0, 0, 0), (0, 0, 0)), (0, (0, 2, 0), (0, 0, 0))), (((0, 0, 10), 0, (0, 0, 0), (0, 0, 0)), (0, (0, 3, 0), (0, 0, 0)))], [some (1, 0, 0), some (1, 1, 0), some (1, 2, 0), some (1, 3, 0)], [], []), [(0, 0, 0), ((-1), 3, 0), (0, 0, 0)])
abbrev sn_153 : List se_Nd := [sn_153_0]
set_option maxRecDepth 100000 in
theorem sk_153 : se_chk0 se_tt [] se_Z 37 se_zt sc_153 sn_153 5 = true := by decide +kernel
set_option maxRecDepth 100000 in
theorem sk_153_0 : se_chkn se_tt [] se_Z 37 se_zt sc_153 sn_153 5 sn_153_0 = true := by decide +kernel
theorem sm_153 {ty : Nat → Option Nat} {J : List mm_C → Prop} {kx : Nat} {zs : List mm_Zt} (hO : se_Ok ty J kx zs) : se_Met ty se_tt J kx zs sc_153 := se_sound (C := []) hO.1 hO.2.1 hO.2.2 (fun _ hn => absurd hn List.not_mem_nil) sk_153 (fun n hn => by
  rcases List.mem_cons.mp hn with rfl | hn
  · exact sk_153_0
  exact absurd hn List.not_mem_nil)
/-- RaftTownModel.hangOf -/
def sc_154 : se_C := ((260, 2), ([(((91, 0, 0), 0, (0, 0, 0), (0, 0, 0)), (0, (0, 0, 0), (0, 0, 0))), (((0, 0, 11), 0, (0, 0, 0), (0, 0, 0)), (0, (0, 1, 0), (0, 0, 0))), (((0, (-2147483648), 2147483647), 0, (0, 0, 0), (0, 0, 0)), (0, (0, 2, 0), (0, 0, 0)))], [some (1, 0, 0), some (1, 1, 0), some (1, 2, 0)], [], []), [([(((0, (-2147483648), 2147483647), 0, (0, 0, 0), (0, 0, 0)), (0, (0, 0, 0), (0, 0, 0)))], some (1, 3, 0), [], [])], [])
abbrev sn_154 : List se_Nd := []
set_option maxRecDepth 100000 in
theorem sk_154 : se_chk0 se_tt [sc_136, sc_153] se_Z 37 se_zt sc_154 sn_154 7 = true := by decide +kernel
theorem sm_154 {ty : Nat → Option Nat} {J : List mm_C → Prop} {kx : Nat} {zs : List mm_Zt} (hO : se_Ok ty J kx zs) (h136 : se_Met ty se_tt J kx zs sc_136) (h153 : se_Met ty se_tt J kx zs sc_153) : se_Met ty se_tt J kx zs sc_154 := se_sound (C := [sc_136, sc_153]) hO.1 hO.2.1 hO.2.2 (fun n hn => by
  rcases List.mem_cons.mp hn with rfl | hn
  · exact h136
  rcases List.mem_cons.mp hn with rfl | hn
  · exact h153
  exact absurd hn List.not_mem_nil) sk_154 (fun _ hn => absurd hn List.not_mem_nil)
/-- RaftTownModel.rope -/
def sc_155 : se_C := ((256, 4), ([(((91, 0, 0), 0, (0, 0, 0), (0, 0, 0)), (0, (0, 0, 0), (0, 0, 0))), (((0, (-2147483648), 2147483647), 0, (0, 0, 0), (0, 0, 0)), (0, (0, 1, 0), (0, 0, 0))), (((0, (-2147483648), 2147483647), 0, (0, 0, 0), (0, 0, 0)), (0, (0, 2, 0), (0, 0, 0)))], [some (1, 0, 0), some (1, 1, 0), some (1, 2, 0)], [], []), [([(((0, (-2147483648), 2147483647), 0, (0, 0, 0), (0, 0, 0)), (0, (0, 0, 0), (0, 0, 0)))], some (1, 3, 0), [], [])], [(57, 0, 10), (89, 3, 4)])
abbrev sn_155 : List se_Nd := []
set_option maxRecDepth 100000 in
theorem sk_155 : se_chk0 se_tt [sc_135, sc_152, sc_154] se_Z 37 se_zt sc_155 sn_155 7 = true := by decide +kernel
theorem sm_155 {ty : Nat → Option Nat} {J : List mm_C → Prop} {kx : Nat} {zs : List mm_Zt} (hO : se_Ok ty J kx zs) (h135 : se_Met ty se_tt J kx zs sc_135) (h152 : se_Met ty se_tt J kx zs sc_152) (h154 : se_Met ty se_tt J kx zs sc_154) : se_Met ty se_tt J kx zs sc_155 := se_sound (C := [sc_135, sc_152, sc_154]) hO.1 hO.2.1 hO.2.2 (fun n hn => by
  rcases List.mem_cons.mp hn with rfl | hn
  · exact h135
  rcases List.mem_cons.mp hn with rfl | hn
  · exact h152
  rcases List.mem_cons.mp hn with rfl | hn
  · exact h154
  exact absurd hn List.not_mem_nil) sk_155 (fun _ hn => absurd hn List.not_mem_nil)
/-- RaftTownModel.loadOf -/
def sc_156 : se_C := ((264, 3), ([(((91, 0, 0), 0, (0, 0, 0), (0, 0, 0)), (0, (0, 0, 0), (0, 0, 0))), (((0, 0, 11), 0, (0, 0, 0), (0, 0, 0)), (0, (0, 1, 0), (0, 0, 0))), (((0, (-2147483648), 2147483647), 0, (0, 0, 0), (0, 0, 0)), (0, (0, 2, 0), (0, 0, 0))), (((0, (-2147483648), 2147483647), 0, (0, 0, 0), (0, 0, 0)), (0, (0, 3, 0), (0, 0, 0)))], [some (1, 0, 0), some (1, 1, 0), some (1, 2, 0), some (1, 3, 0)], [], []), [([(((0, (-2147483648), 2147483647), 0, (0, 0, 0), (0, 0, 0)), (0, (0, 0, 0), (0, 0, 0)))], some (1, 4, 0), [], [])], [])
abbrev sn_156 : List se_Nd := []
set_option maxRecDepth 100000 in
theorem sk_156 : se_chk0 se_tt [sc_154] se_Z 37 se_zt sc_156 sn_156 4 = true := by decide +kernel
theorem sm_156 {ty : Nat → Option Nat} {J : List mm_C → Prop} {kx : Nat} {zs : List mm_Zt} (hO : se_Ok ty J kx zs) (h154 : se_Met ty se_tt J kx zs sc_154) : se_Met ty se_tt J kx zs sc_156 := se_sound (C := [sc_154]) hO.1 hO.2.1 hO.2.2 (fun n hn => by
  rcases List.mem_cons.mp hn with rfl | hn
  · exact h154
  exact absurd hn List.not_mem_nil) sk_156 (fun _ hn => absurd hn List.not_mem_nil)
/-- RaftTownModel.bears -/
def sc_157 : se_C := ((262, 4), ([(((91, 0, 0), 0, (0, 0, 0), (0, 0, 0)), (0, (0, 0, 0), (0, 0, 0))), (((0, (-2147483648), 2147483647), 0, (0, 0, 0), (0, 0, 0)), (0, (0, 1, 0), (0, 0, 0))), (((0, (-2147483648), 2147483647), 0, (0, 0, 0), (0, 0, 0)), (0, (0, 2, 0), (0, 0, 0)))], [some (1, 0, 0), some (1, 1, 0), some (1, 2, 0)], [], []), [([(((0, (-2147483648), 2147483647), 0, (0, 0, 0), (0, 0, 0)), (0, (0, 0, 0), (0, 0, 0)))], some (1, 3, 0), [], [])], [(57, 0, 10), (89, 3, 4)])
abbrev sn_157 : List se_Nd := []
set_option maxRecDepth 100000 in
theorem sk_157 : se_chk0 se_tt [sc_135, sc_152, sc_156] se_Z 37 se_zt sc_157 sn_157 7 = true := by decide +kernel
theorem sm_157 {ty : Nat → Option Nat} {J : List mm_C → Prop} {kx : Nat} {zs : List mm_Zt} (hO : se_Ok ty J kx zs) (h135 : se_Met ty se_tt J kx zs sc_135) (h152 : se_Met ty se_tt J kx zs sc_152) (h156 : se_Met ty se_tt J kx zs sc_156) : se_Met ty se_tt J kx zs sc_157 := se_sound (C := [sc_135, sc_152, sc_156]) hO.1 hO.2.1 hO.2.2 (fun n hn => by
  rcases List.mem_cons.mp hn with rfl | hn
  · exact h135
  rcases List.mem_cons.mp hn with rfl | hn
  · exact h152
  rcases List.mem_cons.mp hn with rfl | hn
  · exact h156
  exact absurd hn List.not_mem_nil) sk_157 (fun _ hn => absurd hn List.not_mem_nil)
/-- RaftTownModel.partsFirst -/
def sc_158 : se_C := ((266, 4), ([(((91, 0, 0), 0, (0, 0, 0), (0, 0, 0)), (0, (0, 0, 0), (0, 0, 0))), (((0, 0, 4095), 0, (0, 0, 0), (0, 0, 0)), (0, (0, 1, 0), (0, 0, 0))), (((0, (-2147483648), 2147483647), 0, (0, 0, 0), (0, 0, 0)), (0, (0, 2, 0), (0, 0, 0)))], [some (1, 0, 0), some (1, 1, 0), some (1, 2, 0)], [], []), [([], some (0, 0, (-1)), [], []), ([(((0, 0, 11), 0, (0, 0, 0), (0, 0, 0)), (0, (0, 0, 0), (0, 0, 0))), (((0, (-2147483648), 2147483647), 8, (1, 1, 0), (1, 3, 0)), (2, (0, 0, 0), (0, 0, 0))), (((0, 1, 1), 4, (1, 4, 0), (0, 0, 1)), (2, (0, 0, 0), (0, 0, 0)))], some (1, 3, 0), [], [])], [])
def sn_158_0 : se_Nd := (8, ([(((91, 0, 0), 0, (0, 0, 0), (0, 0, 0)), (3, (0, 0, 0), (0, 0, 0))), (((0, 0, 4095), 0, (0, 0, 0), (0, 0, 0)), (3, (0, 1, 0), (0, 0, 0))), (((0, (-2147483648), 2147483647), 0, (0, 0, 0), (0, 0, 0)), (3, (0, 2, 0), (0, 0, 0))), (((0, 0, 12), 0, (0, 0, 0), (0, 0, 0)), (0, (0, 5, 0), (0, 0, 0)))], [some (1, 0, 0), some (1, 1, 0), some (1, 2, 0), some (0, 0, (-1)), some (0, 0, 0), some (1, 3, 0), none], [], []), [(0, 0, 1), ((-1), 3, 0), (0, 0, 0)])
def sn_158_1 : se_Nd := (8, ([(((91, 0, 0), 0, (0, 0, 0), (0, 0, 0)), (3, (0, 0, 0), (0, 0, 0))), (((0, 0, 4095), 0, (0, 0, 0), (0, 0, 0)), (3, (0, 1, 0), (0, 0, 0))), (((0, (-2147483648), 2147483647), 0, (0, 0, 0), (0, 0, 0)), (3, (0, 2, 0), (0, 0, 0))), (((0, 0, 11), 0, (0, 0, 0), (0, 0, 0)), (0, (0, 3, 0), (0, 0, 0))), (((0, 1, 2147483647), 0, (0, 0, 0), (0, 0, 0)), (0, (0, 4, 0), (0, 0, 0))), (((0, 1, 12), 0, (0, 0, 0), (0, 0, 0)), (0, (0, 5, 0), (0, 0, 0))), (((0, (-2147483648), 2147483647), 0, (0, 0, 0), (0, 0, 0)), (0, (0, 6, 0), (0, 0, 0))), (((0, 0, 4095), 8, (1, 1, 0), (1, 3, 0)), (2, (0, 0, 0), (0, 0, 0))), (((0, 1, 1), 4, (1, 7, 0), (0, 0, 1)), (2, (0, 0, 0), (0, 0, 0)))], [some (1, 0, 0), some (1, 1, 0), some (1, 2, 0), some (1, 3, 0), some (1, 4, 0), some (1, 5, 0), some (1, 6, 0)], [], []), [(0, 0, 0), ((-1), 5, 0), (0, 0, 0)])
abbrev sn_158 : List se_Nd := [sn_158_0, sn_158_1]
set_option maxRecDepth 100000 in
theorem sk_158 : se_chk0 se_tt [sc_156] se_Z 37 se_zt sc_158 sn_158 7 = true := by decide +kernel
set_option maxRecDepth 100000 in
theorem sk_158_0 : se_chkn se_tt [sc_156] se_Z 37 se_zt sc_158 sn_158 7 sn_158_0 = true := by decide +kernel
set_option maxRecDepth 100000 in
theorem sk_158_1 : se_chkn se_tt [sc_156] se_Z 37 se_zt sc_158 sn_158 7 sn_158_1 = true := by decide +kernel
theorem sm_158 {ty : Nat → Option Nat} {J : List mm_C → Prop} {kx : Nat} {zs : List mm_Zt} (hO : se_Ok ty J kx zs) (h156 : se_Met ty se_tt J kx zs sc_156) : se_Met ty se_tt J kx zs sc_158 := se_sound (C := [sc_156]) hO.1 hO.2.1 hO.2.2 (fun n hn => by
  rcases List.mem_cons.mp hn with rfl | hn
  · exact h156
  exact absurd hn List.not_mem_nil) sk_158 (fun n hn => by
  rcases List.mem_cons.mp hn with rfl | hn
  · exact sk_158_0
  rcases List.mem_cons.mp hn with rfl | hn
  · exact sk_158_1
  exact absurd hn List.not_mem_nil)
/-- RaftTownModel.worst -/
def sc_159 : se_C := ((265, 5), ([(((91, 0, 0), 0, (0, 0, 0), (0, 0, 0)), (0, (0, 0, 0), (0, 0, 0))), (((0, (-2147483648), 2147483647), 0, (0, 0, 0), (0, 0, 0)), (0, (0, 1, 0), (0, 0, 0))), (((0, (-2147483648), 2147483647), 0, (0, 0, 0), (0, 0, 0)), (0, (0, 2, 0), (0, 0, 0)))], [some (1, 0, 0), some (1, 1, 0), some (1, 2, 0)], [], []), [([(((0, (-2147483648), 2147483647), 0, (0, 0, 0), (0, 0, 0)), (0, (0, 0, 0), (0, 0, 0)))], some (1, 3, 0), [], [])], [(57, 0, 10), (89, 3, 4)])
def sn_159_0 : se_Nd := (39, ([(((91, 0, 0), 0, (0, 0, 0), (0, 0, 0)), (3, (0, 0, 0), (0, 0, 0))), (((0, 0, 20), 0, (0, 0, 0), (0, 0, 0)), (3, (0, 1, 0), (0, 0, 0))), (((0, (-1), 2147483647), 0, (0, 0, 0), (0, 0, 0)), (3, (0, 2, 0), (0, 0, 0))), (((0, 0, 4095), 0, (0, 0, 0), (0, 0, 0)), (0, (0, 3, 0), (0, 0, 0))), (((0, (-2147483648), 2147483647), 0, (0, 0, 0), (0, 0, 0)), (0, (0, 4, 0), (0, 0, 0)))], [some (1, 0, 0), some (1, 1, 0), some (1, 2, 0), some (1, 3, 0), some (1, 4, 0), some (0, 0, (-1))], [], []), [(0, 0, 0)])
def sn_159_1 : se_Nd := (39, ([(((91, 0, 0), 0, (0, 0, 0), (0, 0, 0)), (3, (0, 0, 0), (0, 0, 0))), (((0, 0, 20), 0, (0, 0, 0), (0, 0, 0)), (3, (0, 1, 0), (0, 0, 0))), (((0, (-1), 2147483647), 0, (0, 0, 0), (0, 0, 0)), (3, (0, 2, 0), (0, 0, 0))), (((0, 0, 4095), 0, (0, 0, 0), (0, 0, 0)), (0, (0, 3, 0), (0, 0, 0))), (((0, (-2147483648), 2147483647), 0, (0, 0, 0), (0, 0, 0)), (0, (0, 4, 0), (0, 0, 0))), (((0, 0, 11), 0, (0, 0, 0), (0, 0, 0)), (0, (0, 5, 0), (0, 0, 0))), (((0, (-2147483648), 2147483647), 8, (1, 3, 0), (1, 5, 0)), (2, (0, 0, 0), (0, 0, 0))), (((0, 1, 1), 4, (1, 6, 0), (0, 0, 1)), (2, (0, 0, 0), (0, 0, 0)))], [some (1, 0, 0), some (1, 1, 0), some (1, 2, 0), some (1, 3, 0), some (1, 4, 0), some (1, 5, 0)], [], []), [(0, 0, 1), (1, 3, 0), (0, 0, 0)])
abbrev sn_159 : List se_Nd := [sn_159_0, sn_159_1]
set_option maxRecDepth 100000 in
theorem sk_159 : se_chk0 se_tt [sc_135, sc_152, sc_158] se_Z 37 se_zt sc_159 sn_159 6 = true := by decide +kernel
set_option maxRecDepth 100000 in
theorem sk_159_0 : se_chkn se_tt [sc_135, sc_152, sc_158] se_Z 37 se_zt sc_159 sn_159 6 sn_159_0 = true := by decide +kernel
set_option maxRecDepth 100000 in
theorem sk_159_1 : se_chkn se_tt [sc_135, sc_152, sc_158] se_Z 37 se_zt sc_159 sn_159 6 sn_159_1 = true := by decide +kernel
theorem sm_159 {ty : Nat → Option Nat} {J : List mm_C → Prop} {kx : Nat} {zs : List mm_Zt} (hO : se_Ok ty J kx zs) (h135 : se_Met ty se_tt J kx zs sc_135) (h152 : se_Met ty se_tt J kx zs sc_152) (h158 : se_Met ty se_tt J kx zs sc_158) : se_Met ty se_tt J kx zs sc_159 := se_sound (C := [sc_135, sc_152, sc_158]) hO.1 hO.2.1 hO.2.2 (fun n hn => by
  rcases List.mem_cons.mp hn with rfl | hn
  · exact h135
  rcases List.mem_cons.mp hn with rfl | hn
  · exact h152
  rcases List.mem_cons.mp hn with rfl | hn
  · exact h158
  exact absurd hn List.not_mem_nil) sk_159 (fun n hn => by
  rcases List.mem_cons.mp hn with rfl | hn
  · exact sk_159_0
  rcases List.mem_cons.mp hn with rfl | hn
  · exact sk_159_1
  exact absurd hn List.not_mem_nil)
/-- RaftTownModel.events -/
def sc_160 : se_C := ((267, 1), ([(((91, 0, 0), 0, (0, 0, 0), (0, 0, 0)), (0, (0, 0, 0), (0, 0, 0))), (((0, (-2147483648), 2147483647), 0, (0, 0, 0), (0, 0, 0)), (0, (0, 1, 0), (0, 0, 0)))], [some (1, 0, 0), some (1, 1, 0)], [], []), [([(((0, (-2147483648), 2147483647), 0, (0, 0, 0), (0, 0, 0)), (0, (0, 0, 0), (0, 0, 0)))], some (1, 2, 0), [], [])], [(89, 3, 4)])
def sn_160_0 : se_Nd := (36, ([(((91, 0, 0), 0, (0, 0, 0), (0, 0, 0)), (3, (0, 0, 0), (0, 0, 0))), (((0, 0, 9), 0, (0, 0, 0), (0, 0, 0)), (3, (0, 1, 0), (0, 0, 0))), (((0, (-2147483648), 2147483647), 0, (0, 0, 0), (0, 0, 0)), (0, (0, 2, 0), (0, 0, 0))), (((0, 0, 40), 0, (0, 0, 0), (0, 0, 0)), (0, (0, 3, 0), (0, 0, 0)))], [some (1, 0, 0), some (1, 1, 0), some (1, 2, 0), some (1, 3, 0)], [], []), [(0, 0, 0), ((-1), 3, 0), (0, 0, 0)])
abbrev sn_160 : List se_Nd := [sn_160_0]
set_option maxRecDepth 100000 in
theorem sk_160 : se_chk0 se_tt [] se_Z 37 se_zt sc_160 sn_160 6 = true := by decide +kernel
set_option maxRecDepth 100000 in
theorem sk_160_0 : se_chkn se_tt [] se_Z 37 se_zt sc_160 sn_160 6 sn_160_0 = true := by decide +kernel
theorem sm_160 {ty : Nat → Option Nat} {J : List mm_C → Prop} {kx : Nat} {zs : List mm_Zt} (hO : se_Ok ty J kx zs) : se_Met ty se_tt J kx zs sc_160 := se_sound (C := []) hO.1 hO.2.1 hO.2.2 (fun _ hn => absurd hn List.not_mem_nil) sk_160 (fun n hn => by
  rcases List.mem_cons.mp hn with rfl | hn
  · exact sk_160_0
  exact absurd hn List.not_mem_nil)
/-- RaftTownModel.event -/
def sc_161 : se_C := ((268, 1), ([(((91, 0, 0), 0, (0, 0, 0), (0, 0, 0)), (0, (0, 0, 0), (0, 0, 0))), (((0, (-2147483648), 2147483647), 0, (0, 0, 0), (0, 0, 0)), (0, (0, 1, 0), (0, 0, 0))), (((0, (-2147483648), 2147483647), 0, (0, 0, 0), (0, 0, 0)), (0, (0, 2, 0), (0, 0, 0)))], [some (1, 0, 0), some (1, 1, 0), some (1, 2, 0)], [], []), [([(((0, (-2147483648), 2147483647), 0, (0, 0, 0), (0, 0, 0)), (0, (0, 0, 0), (0, 0, 0)))], some (1, 3, 0), [], [])], [(89, 3, 4)])
abbrev sn_161 : List se_Nd := []
set_option maxRecDepth 100000 in
theorem sk_161 : se_chk0 se_tt [] se_Z 37 se_zt sc_161 sn_161 6 = true := by decide +kernel
theorem sm_161 {ty : Nat → Option Nat} {J : List mm_C → Prop} {kx : Nat} {zs : List mm_Zt} (hO : se_Ok ty J kx zs) : se_Met ty se_tt J kx zs sc_161 := se_sound (C := []) hO.1 hO.2.1 hO.2.2 (fun _ hn => absurd hn List.not_mem_nil) sk_161 (fun _ hn => absurd hn List.not_mem_nil)
/-- RaftTownModel.partsAll -/
def sc_162 : se_C := ((271, 5), ([(((91, 0, 0), 0, (0, 0, 0), (0, 0, 0)), (0, (0, 0, 0), (0, 0, 0))), (((0, (-2147483648), 2147483647), 0, (0, 0, 0), (0, 0, 0)), (0, (0, 1, 0), (0, 0, 0)))], [some (1, 0, 0), some (1, 1, 0)], [], []), [([(((0, (-2147483648), 2147483647), 0, (0, 0, 0), (0, 0, 0)), (0, (0, 0, 0), (0, 0, 0)))], some (1, 2, 0), [], [])], [(56, 0, 528), (57, 0, 10)])
def sn_162_0 : se_Nd := (19, ([(((91, 0, 0), 0, (0, 0, 0), (0, 0, 0)), (3, (0, 0, 0), (0, 0, 0))), (((0, (-2147483648), 2147483647), 0, (0, 0, 0), (0, 0, 0)), (3, (0, 1, 0), (0, 0, 0))), (((0, 0, 4095), 0, (0, 0, 0), (0, 0, 0)), (0, (0, 2, 0), (0, 0, 0))), (((0, (-2147483648), 2147483647), 0, (0, 0, 0), (0, 0, 0)), (0, (0, 3, 0), (0, 0, 0)))], [some (1, 0, 0), some (1, 1, 0), some (1, 2, 0), some (1, 3, 0), some (0, 0, (-1))], [], []), [(0, 0, 0)])
def sn_162_1 : se_Nd := (19, ([(((91, 0, 0), 0, (0, 0, 0), (0, 0, 0)), (3, (0, 0, 0), (0, 0, 0))), (((0, (-2147483648), 2147483647), 0, (0, 0, 0), (0, 0, 0)), (3, (0, 1, 0), (0, 0, 0))), (((0, 0, 4095), 0, (0, 0, 0), (0, 0, 0)), (0, (0, 2, 0), (0, 0, 0))), (((0, (-2147483648), 2147483647), 0, (0, 0, 0), (0, 0, 0)), (0, (0, 3, 0), (0, 0, 0))), (((0, 0, 11), 0, (0, 0, 0), (0, 0, 0)), (0, (0, 4, 0), (0, 0, 0))), (((0, (-2147483648), 2147483647), 8, (1, 2, 0), (1, 4, 0)), (2, (0, 0, 0), (0, 0, 0))), (((0, 1, 1), 4, (1, 5, 0), (0, 0, 1)), (2, (0, 0, 0), (0, 0, 0)))], [some (1, 0, 0), some (1, 1, 0), some (1, 2, 0), some (1, 3, 0), some (1, 4, 0)], [], []), [(0, 0, 1), (1, 2, 0), (0, 0, 0)])
abbrev sn_162 : List se_Nd := [sn_162_0, sn_162_1]
set_option maxRecDepth 100000 in
theorem sk_162 : se_chk0 se_tt [sc_135, sc_136, sc_150, sc_152, sc_158] se_Z 37 se_zt sc_162 sn_162 6 = true := by decide +kernel
set_option maxRecDepth 100000 in
theorem sk_162_0 : se_chkn se_tt [sc_135, sc_136, sc_150, sc_152, sc_158] se_Z 37 se_zt sc_162 sn_162 6 sn_162_0 = true := by decide +kernel
set_option maxRecDepth 100000 in
theorem sk_162_1 : se_chkn se_tt [sc_135, sc_136, sc_150, sc_152, sc_158] se_Z 37 se_zt sc_162 sn_162 6 sn_162_1 = true := by decide +kernel
theorem sm_162 {ty : Nat → Option Nat} {J : List mm_C → Prop} {kx : Nat} {zs : List mm_Zt} (hO : se_Ok ty J kx zs) (h135 : se_Met ty se_tt J kx zs sc_135) (h136 : se_Met ty se_tt J kx zs sc_136) (h150 : se_Met ty se_tt J kx zs sc_150) (h152 : se_Met ty se_tt J kx zs sc_152) (h158 : se_Met ty se_tt J kx zs sc_158) : se_Met ty se_tt J kx zs sc_162 := se_sound (C := [sc_135, sc_136, sc_150, sc_152, sc_158]) hO.1 hO.2.1 hO.2.2 (fun n hn => by
  rcases List.mem_cons.mp hn with rfl | hn
  · exact h135
  rcases List.mem_cons.mp hn with rfl | hn
  · exact h136
  rcases List.mem_cons.mp hn with rfl | hn
  · exact h150
  rcases List.mem_cons.mp hn with rfl | hn
  · exact h152
  rcases List.mem_cons.mp hn with rfl | hn
  · exact h158
  exact absurd hn List.not_mem_nil) sk_162 (fun n hn => by
  rcases List.mem_cons.mp hn with rfl | hn
  · exact sk_162_0
  rcases List.mem_cons.mp hn with rfl | hn
  · exact sk_162_1
  exact absurd hn List.not_mem_nil)
/-- RaftTownModel.drinks -/
def sc_163 : se_C := ((273, 1), ([(((91, 0, 0), 0, (0, 0, 0), (0, 0, 0)), (0, (0, 0, 0), (0, 0, 0))), (((0, 0, 9), 0, (0, 0, 0), (0, 0, 0)), (0, (0, 1, 0), (0, 0, 0)))], [some (1, 0, 0), some (1, 1, 0)], [], []), [([(((0, 0, 1), 0, (0, 0, 0), (0, 0, 0)), (0, (0, 0, 0), (0, 0, 0)))], some (1, 2, 0), [], [])], [(56, 0, 528)])
abbrev sn_163 : List se_Nd := []
set_option maxRecDepth 100000 in
theorem sk_163 : se_chk0 se_tt [] se_Z 37 se_zt sc_163 sn_163 6 = true := by decide +kernel
theorem sm_163 {ty : Nat → Option Nat} {J : List mm_C → Prop} {kx : Nat} {zs : List mm_Zt} (hO : se_Ok ty J kx zs) : se_Met ty se_tt J kx zs sc_163 := se_sound (C := []) hO.1 hO.2.1 hO.2.2 (fun _ hn => absurd hn List.not_mem_nil) sk_163 (fun _ hn => absurd hn List.not_mem_nil)
/-- RaftTownModel.rains -/
def sc_164 : se_C := ((272, 2), ([(((91, 0, 0), 0, (0, 0, 0), (0, 0, 0)), (0, (0, 0, 0), (0, 0, 0))), (((0, (-2147483648), 2147483647), 0, (0, 0, 0), (0, 0, 0)), (0, (0, 1, 0), (0, 0, 0)))], [some (1, 0, 0), some (1, 1, 0)], [], []), [([], none, [], [])], [(56, 0, 528)])
def sn_164_0 : se_Nd := (2, ([(((91, 0, 0), 0, (0, 0, 0), (0, 0, 0)), (3, (0, 0, 0), (0, 0, 0))), (((0, (-2147483648), 2147483647), 0, (0, 0, 0), (0, 0, 0)), (3, (0, 1, 0), (0, 0, 0))), (((0, 0, 10), 0, (0, 0, 0), (0, 0, 0)), (0, (0, 2, 0), (0, 0, 0)))], [some (1, 0, 0), some (1, 1, 0), some (1, 2, 0), none], [], []), [(0, 0, 1), ((-1), 2, 0), (0, 0, 0)])
def sn_164_1 : se_Nd := (70, ([(((91, 0, 0), 0, (0, 0, 0), (0, 0, 0)), (3, (0, 0, 0), (0, 0, 0))), (((0, (-2147483648), 2147483647), 0, (0, 0, 0), (0, 0, 0)), (3, (0, 1, 0), (0, 0, 0))), (((0, 0, 10), 0, (0, 0, 0), (0, 0, 0)), (0, (0, 2, 0), (0, 0, 0)))], [some (1, 0, 0), some (1, 1, 0), some (1, 2, 0), none], [], []), [(0, 0, 0), ((-1), 2, 0), (0, 0, 0)])
abbrev sn_164 : List se_Nd := [sn_164_0, sn_164_1]
set_option maxRecDepth 100000 in
theorem sk_164 : se_chk0 se_tt [sc_133, sc_163] se_Z 37 se_zt sc_164 sn_164 8 = true := by decide +kernel
set_option maxRecDepth 100000 in
theorem sk_164_0 : se_chkn se_tt [sc_133, sc_163] se_Z 37 se_zt sc_164 sn_164 8 sn_164_0 = true := by decide +kernel
set_option maxRecDepth 100000 in
theorem sk_164_1 : se_chkn se_tt [sc_133, sc_163] se_Z 37 se_zt sc_164 sn_164 8 sn_164_1 = true := by decide +kernel
theorem sm_164 {ty : Nat → Option Nat} {J : List mm_C → Prop} {kx : Nat} {zs : List mm_Zt} (hO : se_Ok ty J kx zs) (h133 : se_Met ty se_tt J kx zs sc_133) (h163 : se_Met ty se_tt J kx zs sc_163) : se_Met ty se_tt J kx zs sc_164 := se_sound (C := [sc_133, sc_163]) hO.1 hO.2.1 hO.2.2 (fun n hn => by
  rcases List.mem_cons.mp hn with rfl | hn
  · exact h133
  rcases List.mem_cons.mp hn with rfl | hn
  · exact h163
  exact absurd hn List.not_mem_nil) sk_164 (fun n hn => by
  rcases List.mem_cons.mp hn with rfl | hn
  · exact sk_164_0
  rcases List.mem_cons.mp hn with rfl | hn
  · exact sk_164_1
  exact absurd hn List.not_mem_nil)
