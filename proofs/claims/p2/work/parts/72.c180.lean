/-! ===== printed by wip/p2/gen_tab.py: contracts and their checks ===== -/
/-- RaftTownModel.waitsOf -/
def sc_180 : se_C := ((296, 1), ([(((91, 0, 0), 0, (0, 0, 0), (0, 0, 0)), (0, (0, 0, 0), (0, 0, 0))), (((0, (-2147483648), 2147483647), 0, (0, 0, 0), (0, 0, 0)), (0, (0, 1, 0), (0, 0, 0)))], [some (1, 0, 0), some (1, 1, 0)], [], []), [([(((0, (-2147483648), 2147483647), 0, (0, 0, 0), (0, 0, 0)), (0, (0, 0, 0), (0, 0, 0)))], some (1, 2, 0), [], [])], [])
def sn_180_0 : se_Nd := (4, ([(((91, 0, 0), 0, (0, 0, 0), (0, 0, 0)), (3, (0, 0, 0), (0, 0, 0))), (((0, (-2147483648), 2147483647), 0, (0, 0, 0), (0, 0, 0)), (3, (0, 1, 0), (0, 0, 0))), (((0, (-2147483648), 2147483647), 0, (0, 0, 0), (0, 0, 0)), (0, (0, 2, 0), (0, 0, 0))), (((0, 0, 200), 0, (0, 0, 0), (0, 0, 0)), (0, (0, 3, 0), (0, 0, 0)))], [some (1, 0, 0), some (1, 1, 0), some (1, 2, 0), some (1, 3, 0)], [], []), [(0, 0, 0), ((-1), 3, 0), (0, 0, 0)])
abbrev sn_180 : List se_Nd := [sn_180_0]
set_option maxRecDepth 100000 in
theorem sk_180 : se_chk0 se_tt [] se_Z 37 se_zt sc_180 sn_180 5 = true := by decide +kernel
set_option maxRecDepth 100000 in
theorem sk_180_0 : se_chkn se_tt [] se_Z 37 se_zt sc_180 sn_180 5 sn_180_0 = true := by decide +kernel
theorem sm_180 {ty : Nat → Option Nat} {J : List mm_C → Prop} {kx : Nat} {zs : List mm_Zt} (hO : se_Ok ty J kx zs) : se_Met ty se_tt J kx zs sc_180 := se_sound (C := []) hO.1 hO.2.1 hO.2.2 (fun _ hn => absurd hn List.not_mem_nil) sk_180 (fun n hn => by
  rcases List.mem_cons.mp hn with rfl | hn
  · exact sk_180_0
  exact absurd hn List.not_mem_nil)
/-- RaftTownModel.isTested -/
def sc_181 : se_C := ((300, 1), ([(((91, 0, 0), 0, (0, 0, 0), (0, 0, 0)), (0, (0, 0, 0), (0, 0, 0)))], [some (1, 0, 0)], [], []), [([(((0, 0, 1), 0, (0, 0, 0), (0, 0, 0)), (0, (0, 0, 0), (0, 0, 0)))], some (1, 1, 0), [], [])], [])
def sn_181_0 : se_Nd := (7, ([(((91, 0, 0), 0, (0, 0, 0), (0, 0, 0)), (3, (0, 0, 0), (0, 0, 0))), (((0, (-1), 199), 0, (0, 0, 0), (0, 0, 0)), (0, (0, 1, 0), (0, 0, 0)))], [some (1, 0, 0), some (1, 1, 0)], [], []), [(0, 0, 0), (1, 1, 0), (0, 0, 0)])
abbrev sn_181 : List se_Nd := [sn_181_0]
set_option maxRecDepth 100000 in
theorem sk_181 : se_chk0 se_tt [] se_Z 37 se_zt sc_181 sn_181 7 = true := by decide +kernel
set_option maxRecDepth 100000 in
theorem sk_181_0 : se_chkn se_tt [] se_Z 37 se_zt sc_181 sn_181 7 sn_181_0 = true := by decide +kernel
theorem sm_181 {ty : Nat → Option Nat} {J : List mm_C → Prop} {kx : Nat} {zs : List mm_Zt} (hO : se_Ok ty J kx zs) : se_Met ty se_tt J kx zs sc_181 := se_sound (C := []) hO.1 hO.2.1 hO.2.2 (fun _ hn => absurd hn List.not_mem_nil) sk_181 (fun n hn => by
  rcases List.mem_cons.mp hn with rfl | hn
  · exact sk_181_0
  exact absurd hn List.not_mem_nil)
/-- RaftTownModel.force -/
def sc_182 : se_C := ((301, 2), ([(((91, 0, 0), 0, (0, 0, 0), (0, 0, 0)), (0, (0, 0, 0), (0, 0, 0))), (((0, (-2147483648), 2147483647), 0, (0, 0, 0), (0, 0, 0)), (0, (0, 1, 0), (0, 0, 0))), (((0, (-2147483648), 2147483647), 0, (0, 0, 0), (0, 0, 0)), (0, (0, 2, 0), (0, 0, 0)))], [some (1, 0, 0), some (1, 1, 0), some (1, 2, 0)], [], []), [([(((0, (-100006), 11), 0, (0, 0, 0), (0, 0, 0)), (0, (0, 0, 0), (0, 0, 0)))], some (1, 3, 0), [], [])], [(56, 0, 528), (89, 3, 4)])
abbrev sn_182 : List se_Nd := []
set_option maxRecDepth 100000 in
theorem sk_182 : se_chk0 se_tt [sc_135, sc_136, sc_150] se_Z 37 se_zt sc_182 sn_182 7 = true := by decide +kernel
theorem sm_182 {ty : Nat → Option Nat} {J : List mm_C → Prop} {kx : Nat} {zs : List mm_Zt} (hO : se_Ok ty J kx zs) (h135 : se_Met ty se_tt J kx zs sc_135) (h136 : se_Met ty se_tt J kx zs sc_136) (h150 : se_Met ty se_tt J kx zs sc_150) : se_Met ty se_tt J kx zs sc_182 := se_sound (C := [sc_135, sc_136, sc_150]) hO.1 hO.2.1 hO.2.2 (fun n hn => by
  rcases List.mem_cons.mp hn with rfl | hn
  · exact h135
  rcases List.mem_cons.mp hn with rfl | hn
  · exact h136
  rcases List.mem_cons.mp hn with rfl | hn
  · exact h150
  exact absurd hn List.not_mem_nil) sk_182 (fun _ hn => absurd hn List.not_mem_nil)
/-- RaftTownModel.lawOf -/
def sc_183 : se_C := ((303, 1), ([(((91, 0, 0), 0, (0, 0, 0), (0, 0, 0)), (0, (0, 0, 0), (0, 0, 0))), (((0, (-2147483648), 2147483647), 0, (0, 0, 0), (0, 0, 0)), (0, (0, 1, 0), (0, 0, 0)))], [some (1, 0, 0), some (1, 1, 0)], [], []), [([(((0, (-1), 11), 0, (0, 0, 0), (0, 0, 0)), (0, (0, 0, 0), (0, 0, 0)))], some (1, 2, 0), [], [])], [])
def sn_183_0 : se_Nd := (4, ([(((91, 0, 0), 0, (0, 0, 0), (0, 0, 0)), (3, (0, 0, 0), (0, 0, 0))), (((0, (-2147483648), 2147483647), 0, (0, 0, 0), (0, 0, 0)), (3, (0, 1, 0), (0, 0, 0))), (((0, (-1), 11), 0, (0, 0, 0), (0, 0, 0)), (0, (0, 2, 0), (0, 0, 0))), (((0, 0, 12), 0, (0, 0, 0), (0, 0, 0)), (0, (0, 3, 0), (0, 0, 0)))], [some (1, 0, 0), some (1, 1, 0), some (1, 2, 0), some (1, 3, 0)], [], []), [(0, 0, 0), ((-1), 3, 0), (0, 0, 0)])
abbrev sn_183 : List se_Nd := [sn_183_0]
set_option maxRecDepth 100000 in
theorem sk_183 : se_chk0 se_tt [] se_Z 37 se_zt sc_183 sn_183 5 = true := by decide +kernel
set_option maxRecDepth 100000 in
theorem sk_183_0 : se_chkn se_tt [] se_Z 37 se_zt sc_183 sn_183 5 sn_183_0 = true := by decide +kernel
theorem sm_183 {ty : Nat → Option Nat} {J : List mm_C → Prop} {kx : Nat} {zs : List mm_Zt} (hO : se_Ok ty J kx zs) : se_Met ty se_tt J kx zs sc_183 := se_sound (C := []) hO.1 hO.2.1 hO.2.2 (fun _ hn => absurd hn List.not_mem_nil) sk_183 (fun n hn => by
  rcases List.mem_cons.mp hn with rfl | hn
  · exact sk_183_0
  exact absurd hn List.not_mem_nil)
/-- RaftTownModel.law -/
def sc_184 : se_C := ((302, 2), ([(((91, 0, 0), 0, (0, 0, 0), (0, 0, 0)), (0, (0, 0, 0), (0, 0, 0))), (((0, (-2147483648), 2147483647), 0, (0, 0, 0), (0, 0, 0)), (0, (0, 1, 0), (0, 0, 0)))], [some (1, 0, 0), some (1, 1, 0)], [], []), [([(((0, (-100006), 11), 0, (0, 0, 0), (0, 0, 0)), (0, (0, 0, 0), (0, 0, 0)))], some (1, 2, 0), [], [])], [(89, 3, 4)])
abbrev sn_184 : List se_Nd := []
set_option maxRecDepth 100000 in
theorem sk_184 : se_chk0 se_tt [sc_135, sc_136, sc_183] se_Z 37 se_zt sc_184 sn_184 7 = true := by decide +kernel
theorem sm_184 {ty : Nat → Option Nat} {J : List mm_C → Prop} {kx : Nat} {zs : List mm_Zt} (hO : se_Ok ty J kx zs) (h135 : se_Met ty se_tt J kx zs sc_135) (h136 : se_Met ty se_tt J kx zs sc_136) (h183 : se_Met ty se_tt J kx zs sc_183) : se_Met ty se_tt J kx zs sc_184 := se_sound (C := [sc_135, sc_136, sc_183]) hO.1 hO.2.1 hO.2.2 (fun n hn => by
  rcases List.mem_cons.mp hn with rfl | hn
  · exact h135
  rcases List.mem_cons.mp hn with rfl | hn
  · exact h136
  rcases List.mem_cons.mp hn with rfl | hn
  · exact h183
  exact absurd hn List.not_mem_nil) sk_184 (fun _ hn => absurd hn List.not_mem_nil)
/-- RaftTownModel.namesOf -/
def sc_185 : se_C := ((306, 2), ([(((91, 0, 0), 0, (0, 0, 0), (0, 0, 0)), (0, (0, 0, 0), (0, 0, 0))), (((0, (-2147483648), 2147483647), 0, (0, 0, 0), (0, 0, 0)), (0, (0, 1, 0), (0, 0, 0)))], [some (1, 0, 0), some (1, 1, 0)], [], []), [([], none, [], [])], [(63, 0, 9)])
def sn_185_0 : se_Nd := (2, ([(((91, 0, 0), 0, (0, 0, 0), (0, 0, 0)), (3, (0, 0, 0), (0, 0, 0))), (((0, (-2147483648), 2147483647), 0, (0, 0, 0), (0, 0, 0)), (3, (0, 1, 0), (0, 0, 0))), (((0, 0, 9), 0, (0, 0, 0), (0, 0, 0)), (0, (0, 2, 0), (0, 0, 0)))], [some (1, 0, 0), some (1, 1, 0), some (1, 2, 0)], [], []), [(0, 0, 0), ((-1), 2, 0), (0, 0, 0)])
abbrev sn_185 : List se_Nd := [sn_185_0]
set_option maxRecDepth 100000 in
theorem sk_185 : se_chk0 se_tt [sc_174, sc_175] se_Z 37 se_zt sc_185 sn_185 5 = true := by decide +kernel
set_option maxRecDepth 100000 in
theorem sk_185_0 : se_chkn se_tt [sc_174, sc_175] se_Z 37 se_zt sc_185 sn_185 5 sn_185_0 = true := by decide +kernel
theorem sm_185 {ty : Nat → Option Nat} {J : List mm_C → Prop} {kx : Nat} {zs : List mm_Zt} (hO : se_Ok ty J kx zs) (h174 : se_Met ty se_tt J kx zs sc_174) (h175 : se_Met ty se_tt J kx zs sc_175) : se_Met ty se_tt J kx zs sc_185 := se_sound (C := [sc_174, sc_175]) hO.1 hO.2.1 hO.2.2 (fun n hn => by
  rcases List.mem_cons.mp hn with rfl | hn
  · exact h174
  rcases List.mem_cons.mp hn with rfl | hn
  · exact h175
  exact absurd hn List.not_mem_nil) sk_185 (fun n hn => by
  rcases List.mem_cons.mp hn with rfl | hn
  · exact sk_185_0
  exact absurd hn List.not_mem_nil)
/-- RaftTownModel.kinOn -/
def sc_186 : se_C := ((307, 2), ([(((91, 0, 0), 0, (0, 0, 0), (0, 0, 0)), (0, (0, 0, 0), (0, 0, 0))), (((0, (-2147483648), 2147483647), 0, (0, 0, 0), (0, 0, 0)), (0, (0, 1, 0), (0, 0, 0))), (((0, (-2147483648), 2147483647), 0, (0, 0, 0), (0, 0, 0)), (0, (0, 2, 0), (0, 0, 0)))], [some (1, 0, 0), some (1, 1, 0), some (1, 2, 0)], [], []), [([(((0, (-2147483648), 2147483647), 0, (0, 0, 0), (0, 0, 0)), (0, (0, 0, 0), (0, 0, 0)))], some (1, 3, 0), [], [])], [])
def sn_186_0 : se_Nd := (5, ([(((91, 0, 0), 0, (0, 0, 0), (0, 0, 0)), (3, (0, 0, 0), (0, 0, 0))), (((0, (-2147483648), 2147483647), 0, (0, 0, 0), (0, 0, 0)), (3, (0, 1, 0), (0, 0, 0))), (((0, (-2147483648), 2147483647), 0, (0, 0, 0), (0, 0, 0)), (3, (0, 2, 0), (0, 0, 0))), (((0, (-2147483648), 2147483647), 0, (0, 0, 0), (0, 0, 0)), (0, (0, 3, 0), (0, 0, 0))), (((0, 0, 14), 0, (0, 0, 0), (0, 0, 0)), (0, (0, 4, 0), (0, 0, 0)))], [some (1, 0, 0), some (1, 1, 0), some (1, 2, 0), some (1, 3, 0), some (1, 4, 0), none], [], []), [(0, 0, 0), ((-1), 4, 0), (0, 0, 1)])
def sn_186_1 : se_Nd := (19, ([(((91, 0, 0), 0, (0, 0, 0), (0, 0, 0)), (3, (0, 0, 0), (0, 0, 0))), (((0, (-2147483648), 2147483647), 0, (0, 0, 0), (0, 0, 0)), (3, (0, 1, 0), (0, 0, 0))), (((0, (-2147483648), 2147483647), 0, (0, 0, 0), (0, 0, 0)), (3, (0, 2, 0), (0, 0, 0))), (((0, (-2147483648), 2147483647), 0, (0, 0, 0), (0, 0, 0)), (0, (0, 3, 0), (0, 0, 0))), (((0, 0, 13), 0, (0, 0, 0), (0, 0, 0)), (0, (0, 4, 0), (0, 0, 0))), (((0, 0, 14), 0, (0, 0, 0), (0, 0, 0)), (0, (0, 5, 0), (0, 0, 0)))], [some (1, 0, 0), some (1, 1, 0), some (1, 2, 0), some (1, 3, 0), some (1, 4, 0), some (1, 5, 0)], [], []), [(0, 0, 0), ((-1), 4, 0), (0, 0, 0), ((-1), 5, 0), (0, 0, 0)])
abbrev sn_186 : List se_Nd := [sn_186_0, sn_186_1]
set_option maxRecDepth 100000 in
theorem sk_186 : se_chk0 se_tt [sc_143] se_Z 37 se_zt sc_186 sn_186 7 = true := by decide +kernel
set_option maxRecDepth 100000 in
theorem sk_186_0 : se_chkn se_tt [sc_143] se_Z 37 se_zt sc_186 sn_186 7 sn_186_0 = true := by decide +kernel
set_option maxRecDepth 100000 in
theorem sk_186_1 : se_chkn se_tt [sc_143] se_Z 37 se_zt sc_186 sn_186 7 sn_186_1 = true := by decide +kernel
theorem sm_186 {ty : Nat → Option Nat} {J : List mm_C → Prop} {kx : Nat} {zs : List mm_Zt} (hO : se_Ok ty J kx zs) (h143 : se_Met ty se_tt J kx zs sc_143) : se_Met ty se_tt J kx zs sc_186 := se_sound (C := [sc_143]) hO.1 hO.2.1 hO.2.2 (fun n hn => by
  rcases List.mem_cons.mp hn with rfl | hn
  · exact h143
  exact absurd hn List.not_mem_nil) sk_186 (fun n hn => by
  rcases List.mem_cons.mp hn with rfl | hn
  · exact sk_186_0
  rcases List.mem_cons.mp hn with rfl | hn
  · exact sk_186_1
  exact absurd hn List.not_mem_nil)
/-- RaftTownModel.cutOf -/
def sc_187 : se_C := ((305, 4), ([(((91, 0, 0), 0, (0, 0, 0), (0, 0, 0)), (0, (0, 0, 0), (0, 0, 0))), (((0, 0, 11), 0, (0, 0, 0), (0, 0, 0)), (0, (0, 1, 0), (0, 0, 0))), (((0, 0, 11), 0, (0, 0, 0), (0, 0, 0)), (0, (0, 2, 0), (0, 0, 0))), (((0, (-2147483648), 2147483647), 0, (0, 0, 0), (0, 0, 0)), (0, (0, 3, 0), (0, 0, 0))), (((0, (-2147483648), 2147483647), 0, (0, 0, 0), (0, 0, 0)), (0, (0, 4, 0), (0, 0, 0)))], [some (1, 0, 0), some (1, 1, 0), some (1, 2, 0), some (1, 3, 0), some (1, 4, 0)], [], []), [([(((0, (-2147483648), 2147483647), 0, (0, 0, 0), (0, 0, 0)), (0, (0, 0, 0), (0, 0, 0)))], some (1, 5, 0), [], [])], [(57, 0, 10), (63, 0, 9), (64, 0, 200)])
abbrev sn_187 : List se_Nd := []
set_option maxRecDepth 100000 in
theorem sk_187 : se_chk0 se_tt [sc_h4, sc_135, sc_152, sc_156, sc_185, sc_186] se_Z 37 se_zt sc_187 sn_187 8 = true := by decide +kernel
theorem sm_187 {ty : Nat → Option Nat} {J : List mm_C → Prop} {kx : Nat} {zs : List mm_Zt} (hO : se_Ok ty J kx zs) (hh4 : se_Met ty se_tt J kx zs sc_h4) (h135 : se_Met ty se_tt J kx zs sc_135) (h152 : se_Met ty se_tt J kx zs sc_152) (h156 : se_Met ty se_tt J kx zs sc_156) (h185 : se_Met ty se_tt J kx zs sc_185) (h186 : se_Met ty se_tt J kx zs sc_186) : se_Met ty se_tt J kx zs sc_187 := se_sound (C := [sc_h4, sc_135, sc_152, sc_156, sc_185, sc_186]) hO.1 hO.2.1 hO.2.2 (fun n hn => by
  rcases List.mem_cons.mp hn with rfl | hn
  · exact hh4
  rcases List.mem_cons.mp hn with rfl | hn
  · exact h135
  rcases List.mem_cons.mp hn with rfl | hn
  · exact h152
  rcases List.mem_cons.mp hn with rfl | hn
  · exact h156
  rcases List.mem_cons.mp hn with rfl | hn
  · exact h185
  rcases List.mem_cons.mp hn with rfl | hn
  · exact h186
  exact absurd hn List.not_mem_nil) sk_187 (fun _ hn => absurd hn List.not_mem_nil)
/-- RaftTownModel.cut -/
def sc_188 : se_C := ((304, 5), ([(((91, 0, 0), 0, (0, 0, 0), (0, 0, 0)), (0, (0, 0, 0), (0, 0, 0))), (((0, (-2147483648), 2147483647), 0, (0, 0, 0), (0, 0, 0)), (0, (0, 1, 0), (0, 0, 0)))], [some (1, 0, 0), some (1, 1, 0)], [], []), [([(((0, (-2147483648), 2147483647), 0, (0, 0, 0), (0, 0, 0)), (0, (0, 0, 0), (0, 0, 0)))], some (1, 2, 0), [], [])], [(56, 0, 528), (57, 0, 10), (63, 0, 9), (64, 0, 200), (89, 3, 4)])
abbrev sn_188 : List se_Nd := []
set_option maxRecDepth 100000 in
theorem sk_188 : se_chk0 se_tt [sc_135, sc_136, sc_145, sc_150, sc_183, sc_187] se_Z 37 se_zt sc_188 sn_188 7 = true := by decide +kernel
theorem sm_188 {ty : Nat → Option Nat} {J : List mm_C → Prop} {kx : Nat} {zs : List mm_Zt} (hO : se_Ok ty J kx zs) (h135 : se_Met ty se_tt J kx zs sc_135) (h136 : se_Met ty se_tt J kx zs sc_136) (h145 : se_Met ty se_tt J kx zs sc_145) (h150 : se_Met ty se_tt J kx zs sc_150) (h183 : se_Met ty se_tt J kx zs sc_183) (h187 : se_Met ty se_tt J kx zs sc_187) : se_Met ty se_tt J kx zs sc_188 := se_sound (C := [sc_135, sc_136, sc_145, sc_150, sc_183, sc_187]) hO.1 hO.2.1 hO.2.2 (fun n hn => by
  rcases List.mem_cons.mp hn with rfl | hn
  · exact h135
  rcases List.mem_cons.mp hn with rfl | hn
  · exact h136
  rcases List.mem_cons.mp hn with rfl | hn
  · exact h145
  rcases List.mem_cons.mp hn with rfl | hn
  · exact h150
  rcases List.mem_cons.mp hn with rfl | hn
  · exact h183
  rcases List.mem_cons.mp hn with rfl | hn
  · exact h187
  exact absurd hn List.not_mem_nil) sk_188 (fun _ hn => absurd hn List.not_mem_nil)
/-- RaftTownModel.may -/
def sc_189 : se_C := ((310, 5), ([(((91, 0, 0), 0, (0, 0, 0), (0, 0, 0)), (0, (0, 0, 0), (0, 0, 0))), (((0, (-2147483648), 2147483647), 0, (0, 0, 0), (0, 0, 0)), (0, (0, 1, 0), (0, 0, 0))), (((0, (-2147483648), 2147483647), 0, (0, 0, 0), (0, 0, 0)), (0, (0, 2, 0), (0, 0, 0)))], [some (1, 0, 0), some (1, 1, 0), some (1, 2, 0)], [], []), [([(((0, (-2147483648), 2147483647), 0, (0, 0, 0), (0, 0, 0)), (0, (0, 0, 0), (0, 0, 0)))], some (1, 3, 0), [], [])], [(57, 0, 10), (63, 0, 9), (64, 0, 200), (89, 3, 4)])
abbrev sn_189 : List se_Nd := []
set_option maxRecDepth 100000 in
theorem sk_189 : se_chk0 se_tt [sc_135, sc_136, sc_183, sc_187] se_Z 37 se_zt sc_189 sn_189 8 = true := by decide +kernel
theorem sm_189 {ty : Nat → Option Nat} {J : List mm_C → Prop} {kx : Nat} {zs : List mm_Zt} (hO : se_Ok ty J kx zs) (h135 : se_Met ty se_tt J kx zs sc_135) (h136 : se_Met ty se_tt J kx zs sc_136) (h183 : se_Met ty se_tt J kx zs sc_183) (h187 : se_Met ty se_tt J kx zs sc_187) : se_Met ty se_tt J kx zs sc_189 := se_sound (C := [sc_135, sc_136, sc_183, sc_187]) hO.1 hO.2.1 hO.2.2 (fun n hn => by
  rcases List.mem_cons.mp hn with rfl | hn
  · exact h135
  rcases List.mem_cons.mp hn with rfl | hn
  · exact h136
  rcases List.mem_cons.mp hn with rfl | hn
  · exact h183
  rcases List.mem_cons.mp hn with rfl | hn
  · exact h187
  exact absurd hn List.not_mem_nil) sk_189 (fun _ hn => absurd hn List.not_mem_nil)
/-- RaftTownModel.must -/
def sc_190 : se_C := ((311, 3), ([(((91, 0, 0), 0, (0, 0, 0), (0, 0, 0)), (0, (0, 0, 0), (0, 0, 0))), (((0, (-2147483648), 2147483647), 0, (0, 0, 0), (0, 0, 0)), (0, (0, 1, 0), (0, 0, 0))), (((0, (-2147483648), 2147483647), 0, (0, 0, 0), (0, 0, 0)), (0, (0, 2, 0), (0, 0, 0)))], [some (1, 0, 0), some (1, 1, 0), some (1, 2, 0)], [], []), [([(((0, (-2147483648), 2147483647), 0, (0, 0, 0), (0, 0, 0)), (0, (0, 0, 0), (0, 0, 0)))], some (1, 3, 0), [], [])], [(63, 0, 9), (64, 0, 200), (89, 3, 4)])
abbrev sn_190 : List se_Nd := []
set_option maxRecDepth 100000 in
theorem sk_190 : se_chk0 se_tt [sc_h4, sc_135, sc_136, sc_183, sc_185, sc_186] se_Z 37 se_zt sc_190 sn_190 8 = true := by decide +kernel
theorem sm_190 {ty : Nat → Option Nat} {J : List mm_C → Prop} {kx : Nat} {zs : List mm_Zt} (hO : se_Ok ty J kx zs) (hh4 : se_Met ty se_tt J kx zs sc_h4) (h135 : se_Met ty se_tt J kx zs sc_135) (h136 : se_Met ty se_tt J kx zs sc_136) (h183 : se_Met ty se_tt J kx zs sc_183) (h185 : se_Met ty se_tt J kx zs sc_185) (h186 : se_Met ty se_tt J kx zs sc_186) : se_Met ty se_tt J kx zs sc_190 := se_sound (C := [sc_h4, sc_135, sc_136, sc_183, sc_185, sc_186]) hO.1 hO.2.1 hO.2.2 (fun n hn => by
  rcases List.mem_cons.mp hn with rfl | hn
  · exact hh4
  rcases List.mem_cons.mp hn with rfl | hn
  · exact h135
  rcases List.mem_cons.mp hn with rfl | hn
  · exact h136
  rcases List.mem_cons.mp hn with rfl | hn
  · exact h183
  rcases List.mem_cons.mp hn with rfl | hn
  · exact h185
  rcases List.mem_cons.mp hn with rfl | hn
  · exact h186
  exact absurd hn List.not_mem_nil) sk_190 (fun _ hn => absurd hn List.not_mem_nil)
/-- RaftTownModel.speaks -/
def sc_191 : se_C := ((312, 3), ([(((91, 0, 0), 0, (0, 0, 0), (0, 0, 0)), (0, (0, 0, 0), (0, 0, 0))), (((0, (-2147483648), 2147483647), 0, (0, 0, 0), (0, 0, 0)), (0, (0, 1, 0), (0, 0, 0)))], [some (1, 0, 0), some (1, 1, 0)], [], []), [([(((0, (-100006), 13), 0, (0, 0, 0), (0, 0, 0)), (0, (0, 0, 0), (0, 0, 0)))], some (1, 2, 0), [], [])], [(63, 0, 9), (64, 0, 200), (89, 3, 4)])
def sn_191_0 : se_Nd := (52, ([(((91, 0, 0), 0, (0, 0, 0), (0, 0, 0)), (3, (0, 0, 0), (0, 0, 0))), (((0, 0, 9), 0, (0, 0, 0), (0, 0, 0)), (3, (0, 1, 0), (0, 0, 0))), (((0, 0, 1023), 0, (0, 0, 0), (0, 0, 0)), (0, (0, 2, 0), (0, 0, 0))), (((0, (-1), 11), 0, (0, 0, 0), (0, 0, 0)), (0, (0, 3, 0), (0, 0, 0))), (((0, (-1), 13), 0, (0, 0, 0), (0, 0, 0)), (0, (0, 4, 0), (0, 0, 0))), (((0, (-2147483648), 2147483647), 0, (0, 0, 0), (0, 0, 0)), (0, (0, 5, 0), (0, 0, 0))), (((0, 0, 14), 0, (0, 0, 0), (0, 0, 0)), (0, (0, 6, 0), (0, 0, 0)))], [some (1, 0, 0), some (1, 1, 0), some (1, 2, 0), some (1, 3, 0), some (1, 4, 0), some (1, 5, 0), some (1, 6, 0), none], [], []), [(0, 0, 0), ((-1), 6, 0), (0, 0, 1)])
def sn_191_1 : se_Nd := (115, ([(((91, 0, 0), 0, (0, 0, 0), (0, 0, 0)), (3, (0, 0, 0), (0, 0, 0))), (((0, 0, 9), 0, (0, 0, 0), (0, 0, 0)), (3, (0, 1, 0), (0, 0, 0))), (((0, 0, 1023), 0, (0, 0, 0), (0, 0, 0)), (0, (0, 2, 0), (0, 0, 0))), (((0, 0, 11), 0, (0, 0, 0), (0, 0, 0)), (0, (0, 3, 0), (0, 0, 0))), (((0, (-1), 13), 0, (0, 0, 0), (0, 0, 0)), (0, (0, 4, 0), (0, 0, 0))), (((0, (-2147483648), 2147483647), 0, (0, 0, 0), (0, 0, 0)), (0, (0, 5, 0), (0, 0, 0))), (((0, 0, 13), 0, (0, 0, 0), (0, 0, 0)), (0, (0, 6, 0), (0, 0, 0))), (((0, 0, 14), 0, (0, 0, 0), (0, 0, 0)), (0, (0, 7, 0), (0, 0, 0)))], [some (1, 0, 0), some (1, 1, 0), some (1, 2, 0), some (1, 3, 0), some (1, 4, 0), some (1, 5, 0), some (1, 6, 0), some (1, 7, 0)], [], []), [(0, 0, 0), ((-1), 6, 0), (0, 0, 0), ((-1), 7, 0), (0, 0, 0)])
abbrev sn_191 : List se_Nd := [sn_191_0, sn_191_1]
set_option maxRecDepth 100000 in
theorem sk_191 : se_chk0 se_tt [sc_h4, sc_135, sc_136, sc_143, sc_183, sc_185] se_Z 37 se_zt sc_191 sn_191 7 = true := by decide +kernel
set_option maxRecDepth 100000 in
theorem sk_191_0 : se_chkn se_tt [sc_h4, sc_135, sc_136, sc_143, sc_183, sc_185] se_Z 37 se_zt sc_191 sn_191 7 sn_191_0 = true := by decide +kernel
set_option maxRecDepth 100000 in
theorem sk_191_1 : se_chkn se_tt [sc_h4, sc_135, sc_136, sc_143, sc_183, sc_185] se_Z 37 se_zt sc_191 sn_191 7 sn_191_1 = true := by decide +kernel
theorem sm_191 {ty : Nat → Option Nat} {J : List mm_C → Prop} {kx : Nat} {zs : List mm_Zt} (hO : se_Ok ty J kx zs) (hh4 : se_Met ty se_tt J kx zs sc_h4) (h135 : se_Met ty se_tt J kx zs sc_135) (h136 : se_Met ty se_tt J kx zs sc_136) (h143 : se_Met ty se_tt J kx zs sc_143) (h183 : se_Met ty se_tt J kx zs sc_183) (h185 : se_Met ty se_tt J kx zs sc_185) : se_Met ty se_tt J kx zs sc_191 := se_sound (C := [sc_h4, sc_135, sc_136, sc_143, sc_183, sc_185]) hO.1 hO.2.1 hO.2.2 (fun n hn => by
  rcases List.mem_cons.mp hn with rfl | hn
  · exact hh4
  rcases List.mem_cons.mp hn with rfl | hn
  · exact h135
  rcases List.mem_cons.mp hn with rfl | hn
  · exact h136
  rcases List.mem_cons.mp hn with rfl | hn
  · exact h143
  rcases List.mem_cons.mp hn with rfl | hn
  · exact h183
  rcases List.mem_cons.mp hn with rfl | hn
  · exact h185
  exact absurd hn List.not_mem_nil) sk_191 (fun n hn => by
  rcases List.mem_cons.mp hn with rfl | hn
  · exact sk_191_0
  rcases List.mem_cons.mp hn with rfl | hn
  · exact sk_191_1
  exact absurd hn List.not_mem_nil)
/-- RaftTownModel.ones -/
def sc_192 : se_C := ((314, 1), ([(((0, 0, 2147483647), 0, (0, 0, 0), (0, 0, 0)), (0, (0, 0, 0), (0, 0, 0)))], [some (1, 0, 0)], [], []), [([(((0, (-2147483648), 2147483647), 0, (0, 0, 0), (0, 0, 0)), (0, (0, 0, 0), (0, 0, 0)))], some (1, 1, 0), [], [])], [])
def sn_192_0 : se_Nd := (4, ([(((0, 0, 2147483647), 0, (0, 0, 0), (0, 0, 0)), (3, (0, 0, 0), (0, 0, 0))), (((0, (-2147483648), 2147483647), 0, (0, 0, 0), (0, 0, 0)), (0, (0, 1, 0), (0, 0, 0))), (((0, 0, 2147483647), 0, (0, 0, 0), (0, 0, 0)), (0, (0, 2, 0), (0, 0, 0)))], [some (1, 0, 0), some (1, 1, 0), some (1, 2, 0)], [], []), [(0, 0, 0), (1, 2, 0), (0, 0, 0)])
abbrev sn_192 : List se_Nd := [sn_192_0]
set_option maxRecDepth 100000 in
theorem sk_192 : se_chk0 se_tt [] se_Z 37 se_zt sc_192 sn_192 4 = true := by decide +kernel
set_option maxRecDepth 100000 in
theorem sk_192_0 : se_chkn se_tt [] se_Z 37 se_zt sc_192 sn_192 4 sn_192_0 = true := by decide +kernel
theorem sm_192 {ty : Nat → Option Nat} {J : List mm_C → Prop} {kx : Nat} {zs : List mm_Zt} (hO : se_Ok ty J kx zs) : se_Met ty se_tt J kx zs sc_192 := se_sound (C := []) hO.1 hO.2.1 hO.2.2 (fun _ hn => absurd hn List.not_mem_nil) sk_192 (fun n hn => by
  rcases List.mem_cons.mp hn with rfl | hn
  · exact sk_192_0
  exact absurd hn List.not_mem_nil)
/-- RaftTownModel.lash -/
def sc_193 : se_C := ((313, 5), ([(((91, 0, 0), 0, (0, 0, 0), (0, 0, 0)), (0, (0, 0, 0), (0, 0, 0))), (((0, (-2147483648), 2147483647), 0, (0, 0, 0), (0, 0, 0)), (0, (0, 1, 0), (0, 0, 0))), (((0, (-2147483648), 2147483647), 0, (0, 0, 0), (0, 0, 0)), (0, (0, 2, 0), (0, 0, 0)))], [some (1, 0, 0), some (1, 1, 0), some (1, 2, 0)], [], []), [([(((0, (-100006), 4095), 0, (0, 0, 0), (0, 0, 0)), (0, (0, 0, 0), (0, 0, 0)))], some (1, 3, 0), [], [])], [(57, 0, 10), (89, 3, 4)])
def sn_193_0 : se_Nd := (53, ([(((91, 0, 0), 0, (0, 0, 0), (0, 0, 0)), (3, (0, 0, 0), (0, 0, 0))), (((0, 0, 9), 0, (0, 0, 0), (0, 0, 0)), (3, (0, 1, 0), (0, 0, 0))), (((0, 0, 20), 0, (0, 0, 0), (0, 0, 0)), (3, (0, 2, 0), (0, 0, 0))), (((0, 1, 1023), 0, (0, 0, 0), (0, 0, 0)), (0, (0, 3, 0), (0, 0, 0))), (((0, 0, 4095), 0, (0, 0, 0), (0, 0, 0)), (0, (0, 4, 0), (0, 0, 0))), (((0, 0, 12), 0, (0, 0, 0), (0, 0, 0)), (0, (0, 5, 0), (0, 0, 0)))], [some (1, 0, 0), some (1, 1, 0), some (1, 2, 0), some (1, 3, 0), some (1, 4, 0), some (1, 5, 0), none], [], []), [(0, 0, 1), ((-1), 5, 0), (0, 0, 0)])
def sn_193_1 : se_Nd := (117, ([(((91, 0, 0), 0, (0, 0, 0), (0, 0, 0)), (3, (0, 0, 0), (0, 0, 0))), (((0, 0, 9), 0, (0, 0, 0), (0, 0, 0)), (3, (0, 1, 0), (0, 0, 0))), (((0, 0, 20), 0, (0, 0, 0), (0, 0, 0)), (3, (0, 2, 0), (0, 0, 0))), (((0, 1, 1023), 0, (0, 0, 0), (0, 0, 0)), (0, (0, 3, 0), (0, 0, 0))), (((0, 0, 4095), 0, (0, 0, 0), (0, 0, 0)), (0, (0, 4, 0), (0, 0, 0))), (((0, (-1), 4095), 0, (0, 0, 0), (0, 0, 0)), (0, (0, 5, 0), (0, 0, 0))), (((0, 0, 4096), 0, (0, 0, 0), (0, 0, 0)), (0, (0, 6, 0), (0, 0, 0)))], [some (1, 0, 0), some (1, 1, 0), some (1, 2, 0), some (1, 3, 0), some (1, 4, 0), some (1, 5, 0), some (1, 6, 0)], [], []), [(0, 0, 0), ((-1), 6, 0), (0, 0, 0)])
abbrev sn_193 : List se_Nd := [sn_193_0, sn_193_1]
set_option maxRecDepth 100000 in
theorem sk_193 : se_chk0 se_tt [sc_135, sc_136, sc_152, sc_158, sc_192] se_Z 37 se_zt sc_193 sn_193 7 = true := by decide +kernel
set_option maxRecDepth 100000 in
theorem sk_193_0 : se_chkn se_tt [sc_135, sc_136, sc_152, sc_158, sc_192] se_Z 37 se_zt sc_193 sn_193 7 sn_193_0 = true := by decide +kernel
set_option maxRecDepth 100000 in
theorem sk_193_1 : se_chkn se_tt [sc_135, sc_136, sc_152, sc_158, sc_192] se_Z 37 se_zt sc_193 sn_193 7 sn_193_1 = true := by decide +kernel
theorem sm_193 {ty : Nat → Option Nat} {J : List mm_C → Prop} {kx : Nat} {zs : List mm_Zt} (hO : se_Ok ty J kx zs) (h135 : se_Met ty se_tt J kx zs sc_135) (h136 : se_Met ty se_tt J kx zs sc_136) (h152 : se_Met ty se_tt J kx zs sc_152) (h158 : se_Met ty se_tt J kx zs sc_158) (h192 : se_Met ty se_tt J kx zs sc_192) : se_Met ty se_tt J kx zs sc_193 := se_sound (C := [sc_135, sc_136, sc_152, sc_158, sc_192]) hO.1 hO.2.1 hO.2.2 (fun n hn => by
  rcases List.mem_cons.mp hn with rfl | hn
  · exact h135
  rcases List.mem_cons.mp hn with rfl | hn
  · exact h136
  rcases List.mem_cons.mp hn with rfl | hn
  · exact h152
  rcases List.mem_cons.mp hn with rfl | hn
  · exact h158
  rcases List.mem_cons.mp hn with rfl | hn
  · exact h192
  exact absurd hn List.not_mem_nil) sk_193 (fun n hn => by
  rcases List.mem_cons.mp hn with rfl | hn
  · exact sk_193_0
  rcases List.mem_cons.mp hn with rfl | hn
  · exact sk_193_1
  exact absurd hn List.not_mem_nil)
/-- RaftTownModel.lostBy -/
def sc_194 : se_C := ((317, 5), ([(((91, 0, 0), 0, (0, 0, 0), (0, 0, 0)), (0, (0, 0, 0), (0, 0, 0))), (((0, 0, 4095), 0, (0, 0, 0), (0, 0, 0)), (0, (0, 1, 0), (0, 0, 0))), (((0, (-2147483648), 2147483647), 0, (0, 0, 0), (0, 0, 0)), (0, (0, 2, 0), (0, 0, 0)))], [some (1, 0, 0), some (1, 1, 0), some (1, 2, 0)], [], []), [([(((0, (-2147483648), 2147483647), 0, (0, 0, 0), (0, 0, 0)), (0, (0, 0, 0), (0, 0, 0)))], some (1, 3, 0), [], [])], [(65, 0, 4096)])
def sn_194_0 : se_Nd := (5, ([(((91, 0, 0), 0, (0, 0, 0), (0, 0, 0)), (3, (0, 0, 0), (0, 0, 0))), (((0, 0, 4095), 0, (0, 0, 0), (0, 0, 0)), (3, (0, 1, 0), (0, 0, 0))), (((0, (-2147483648), 2147483647), 0, (0, 0, 0), (0, 0, 0)), (3, (0, 2, 0), (0, 0, 0))), (((0, 0, 4095), 0, (0, 0, 0), (0, 0, 0)), (0, (0, 3, 0), (0, 0, 0))), (((0, (-2147483648), 2147483647), 0, (0, 0, 0), (0, 0, 0)), (0, (0, 4, 0), (0, 0, 0))), (((67, 0, 0), 0, (0, 0, 0), (0, 0, 0)), (1, (1, 0, 0), (0, 0, 19))), (((0, 0, 0), 0, (0, 0, 0), (0, 0, 0)), (1, (1, 5, 0), (1, 3, 0)))], [some (1, 0, 0), some (1, 1, 0), some (1, 2, 0), some (1, 3, 0), some (1, 4, 0), some (0, 0, (-1))], [((1, 0, 0), (0, 0, 19), (1, 5, 0)), ((1, 5, 0), (1, 3, 0), (1, 6, 0))], []), [(0, 0, 0)])
def sn_194_1 : se_Nd := (5, ([(((91, 0, 0), 0, (0, 0, 0), (0, 0, 0)), (3, (0, 0, 0), (0, 0, 0))), (((0, 0, 4095), 0, (0, 0, 0), (0, 0, 0)), (3, (0, 1, 0), (0, 0, 0))), (((0, (-2147483648), 2147483647), 0, (0, 0, 0), (0, 0, 0)), (3, (0, 2, 0), (0, 0, 0))), (((0, 0, 4095), 0, (0, 0, 0), (0, 0, 0)), (0, (0, 3, 0), (0, 0, 0))), (((0, (-2147483648), 2147483647), 0, (0, 0, 0), (0, 0, 0)), (0, (0, 4, 0), (0, 0, 0)))], [some (1, 0, 0), some (1, 1, 0), some (1, 2, 0), some (1, 3, 0), some (1, 4, 0), none], [], []), [(0, 0, 1), (1, 3, 0), (0, 0, 0)])
abbrev sn_194 : List se_Nd := [sn_194_0, sn_194_1]
set_option maxRecDepth 100000 in
theorem sk_194 : se_chk0 se_tt [sc_158] se_Z 37 se_zt sc_194 sn_194 5 = true := by decide +kernel
set_option maxRecDepth 100000 in
theorem sk_194_0 : se_chkn se_tt [sc_158] se_Z 37 se_zt sc_194 sn_194 5 sn_194_0 = true := by decide +kernel
set_option maxRecDepth 100000 in
theorem sk_194_1 : se_chkn se_tt [sc_158] se_Z 37 se_zt sc_194 sn_194 5 sn_194_1 = true := by decide +kernel
theorem sm_194 {ty : Nat → Option Nat} {J : List mm_C → Prop} {kx : Nat} {zs : List mm_Zt} (hO : se_Ok ty J kx zs) (h158 : se_Met ty se_tt J kx zs sc_158) : se_Met ty se_tt J kx zs sc_194 := se_sound (C := [sc_158]) hO.1 hO.2.1 hO.2.2 (fun n hn => by
  rcases List.mem_cons.mp hn with rfl | hn
  · exact h158
  exact absurd hn List.not_mem_nil) sk_194 (fun n hn => by
  rcases List.mem_cons.mp hn with rfl | hn
  · exact sk_194_0
  rcases List.mem_cons.mp hn with rfl | hn
  · exact sk_194_1
  exact absurd hn List.not_mem_nil)
