/-! ===== printed by wip/p2/gen_tab.py: contracts and their checks ===== -/
/-- RaftTownModel.storm -/
def sc_195 : se_C := ((316, 6), ([(((91, 0, 0), 0, (0, 0, 0), (0, 0, 0)), (0, (0, 0, 0), (0, 0, 0))), (((0, (-2147483648), 2147483647), 0, (0, 0, 0), (0, 0, 0)), (0, (0, 1, 0), (0, 0, 0))), (((0, 0, 1), 0, (0, 0, 0), (0, 0, 0)), (0, (0, 2, 0), (0, 0, 0)))], [some (1, 0, 0), some (1, 1, 0), some (1, 2, 0)], [], []), [([(((0, (-2147483648), 4095), 0, (0, 0, 0), (0, 0, 0)), (0, (0, 0, 0), (0, 0, 0)))], some (1, 3, 0), [], [])], [(57, 0, 10), (65, 0, 4096), (89, 3, 4)])
def sn_195_0 : se_Nd := (26, ([(((91, 0, 0), 0, (0, 0, 0), (0, 0, 0)), (3, (0, 0, 0), (0, 0, 0))), (((0, 0, 20), 0, (0, 0, 0), (0, 0, 0)), (3, (0, 1, 0), (0, 0, 0))), (((0, 0, 1), 0, (0, 0, 0), (0, 0, 0)), (3, (0, 2, 0), (0, 0, 0))), (((0, 0, 4095), 0, (0, 0, 0), (0, 0, 0)), (0, (0, 3, 0), (0, 0, 0))), (((0, 0, 4096), 0, (0, 0, 0), (0, 0, 0)), (0, (0, 4, 0), (0, 0, 0)))], [some (1, 0, 0), some (1, 1, 0), some (1, 2, 0), some (1, 3, 0), some (1, 4, 0), none, none, none], [], []), [(0, 0, 1), ((-1), 4, 0), (0, 0, 0)])
def sn_195_1 : se_Nd := (58, ([(((91, 0, 0), 0, (0, 0, 0), (0, 0, 0)), (3, (0, 0, 0), (0, 0, 0))), (((0, 0, 20), 0, (0, 0, 0), (0, 0, 0)), (3, (0, 1, 0), (0, 0, 0))), (((0, 0, 1), 0, (0, 0, 0), (0, 0, 0)), (3, (0, 2, 0), (0, 0, 0))), (((0, 0, 4095), 0, (0, 0, 0), (0, 0, 0)), (0, (0, 3, 0), (0, 0, 0))), (((0, 0, 4095), 0, (0, 0, 0), (0, 0, 0)), (0, (0, 4, 0), (0, 0, 0))), (((0, (-2147483648), 100), 0, (0, 0, 0), (0, 0, 0)), (0, (0, 5, 0), (0, 0, 0))), (((0, 0, 4096), 0, (0, 0, 0), (0, 0, 0)), (0, (0, 6, 0), (0, 0, 0)))], [some (1, 0, 0), some (1, 1, 0), some (1, 2, 0), some (1, 3, 0), some (1, 4, 0), some (1, 5, 0), some (1, 6, 0), none], [], []), [(0, 0, 0), ((-1), 6, 0), (0, 0, 0)])
abbrev sn_195 : List se_Nd := [sn_195_0, sn_195_1]
set_option maxRecDepth 100000 in
theorem sk_195 : se_chk0 se_tt [sc_135, sc_152, sc_192, sc_194] se_Z 37 se_zt sc_195 sn_195 6 = true := by decide +kernel
set_option maxRecDepth 100000 in
theorem sk_195_0 : se_chkn se_tt [sc_135, sc_152, sc_192, sc_194] se_Z 37 se_zt sc_195 sn_195 6 sn_195_0 = true := by decide +kernel
set_option maxRecDepth 100000 in
theorem sk_195_1 : se_chkn se_tt [sc_135, sc_152, sc_192, sc_194] se_Z 37 se_zt sc_195 sn_195 6 sn_195_1 = true := by decide +kernel
theorem sm_195 {ty : Nat → Option Nat} {J : List mm_C → Prop} {kx : Nat} {zs : List mm_Zt} (hO : se_Ok ty J kx zs) (h135 : se_Met ty se_tt J kx zs sc_135) (h152 : se_Met ty se_tt J kx zs sc_152) (h192 : se_Met ty se_tt J kx zs sc_192) (h194 : se_Met ty se_tt J kx zs sc_194) : se_Met ty se_tt J kx zs sc_195 := se_sound (C := [sc_135, sc_152, sc_192, sc_194]) hO.1 hO.2.1 hO.2.2 (fun n hn => by
  rcases List.mem_cons.mp hn with rfl | hn
  · exact h135
  rcases List.mem_cons.mp hn with rfl | hn
  · exact h152
  rcases List.mem_cons.mp hn with rfl | hn
  · exact h192
  rcases List.mem_cons.mp hn with rfl | hn
  · exact h194
  exact absurd hn List.not_mem_nil) sk_195 (fun n hn => by
  rcases List.mem_cons.mp hn with rfl | hn
  · exact sk_195_0
  rcases List.mem_cons.mp hn with rfl | hn
  · exact sk_195_1
  exact absurd hn List.not_mem_nil)
/-- RaftTownModel.proves -/
def sc_196 : se_C := ((318, 4), ([(((91, 0, 0), 0, (0, 0, 0), (0, 0, 0)), (0, (0, 0, 0), (0, 0, 0))), (((0, (-2147483648), 2147483647), 0, (0, 0, 0), (0, 0, 0)), (0, (0, 1, 0), (0, 0, 0))), (((0, (-2147483648), 2147483647), 0, (0, 0, 0), (0, 0, 0)), (0, (0, 2, 0), (0, 0, 0))), (((0, (-2147483648), 2147483647), 0, (0, 0, 0), (0, 0, 0)), (0, (0, 3, 0), (0, 0, 0)))], [some (1, 0, 0), some (1, 1, 0), some (1, 2, 0), some (1, 3, 0)], [], []), [([(((0, (-2147483648), 2147483647), 0, (0, 0, 0), (0, 0, 0)), (0, (0, 0, 0), (0, 0, 0)))], some (1, 4, 0), [], [])], [(57, 0, 10), (89, 3, 4)])
def sn_196_0 : se_Nd := (84, ([(((91, 0, 0), 0, (0, 0, 0), (0, 0, 0)), (3, (0, 0, 0), (0, 0, 0))), (((0, 0, 2147483647), 0, (0, 0, 0), (0, 0, 0)), (3, (0, 1, 0), (0, 0, 0))), (((0, 0, 20), 0, (0, 0, 0), (0, 0, 0)), (3, (0, 2, 0), (0, 0, 0))), (((0, 0, 3), 0, (0, 0, 0), (0, 0, 0)), (3, (0, 3, 0), (0, 0, 0))), (((0, 0, 4095), 0, (0, 0, 0), (0, 0, 0)), (0, (0, 4, 0), (0, 0, 0))), (((0, 0, 12), 0, (0, 0, 0), (0, 0, 0)), (0, (0, 5, 0), (0, 0, 0))), (((0, 0, 12), 0, (0, 0, 0), (0, 0, 0)), (0, (0, 6, 0), (0, 0, 0)))], [some (1, 0, 0), some (1, 1, 0), some (1, 2, 0), some (1, 3, 0), some (1, 4, 0), some (1, 5, 0), some (1, 6, 0), none], [], [(.le, (1, 5, 0), (1, 6, 0))]), [(0, 0, 0), ((-1), 5, 0), (0, 0, 0), ((-1), 6, 0), (0, 0, 0)])
abbrev sn_196 : List se_Nd := [sn_196_0]
set_option maxRecDepth 100000 in
theorem sk_196 : se_chk0 se_tt [sc_135, sc_152, sc_156, sc_192] se_Z 37 se_zt sc_196 sn_196 7 = true := by decide +kernel
set_option maxRecDepth 100000 in
theorem sk_196_0 : se_chkn se_tt [sc_135, sc_152, sc_156, sc_192] se_Z 37 se_zt sc_196 sn_196 7 sn_196_0 = true := by decide +kernel
theorem sm_196 {ty : Nat → Option Nat} {J : List mm_C → Prop} {kx : Nat} {zs : List mm_Zt} (hO : se_Ok ty J kx zs) (h135 : se_Met ty se_tt J kx zs sc_135) (h152 : se_Met ty se_tt J kx zs sc_152) (h156 : se_Met ty se_tt J kx zs sc_156) (h192 : se_Met ty se_tt J kx zs sc_192) : se_Met ty se_tt J kx zs sc_196 := se_sound (C := [sc_135, sc_152, sc_156, sc_192]) hO.1 hO.2.1 hO.2.2 (fun n hn => by
  rcases List.mem_cons.mp hn with rfl | hn
  · exact h135
  rcases List.mem_cons.mp hn with rfl | hn
  · exact h152
  rcases List.mem_cons.mp hn with rfl | hn
  · exact h156
  rcases List.mem_cons.mp hn with rfl | hn
  · exact h192
  exact absurd hn List.not_mem_nil) sk_196 (fun n hn => by
  rcases List.mem_cons.mp hn with rfl | hn
  · exact sk_196_0
  exact absurd hn List.not_mem_nil)
/-- RaftTownModel.hasSail -/
def sc_197 : se_C := ((320, 1), ([(((91, 0, 0), 0, (0, 0, 0), (0, 0, 0)), (0, (0, 0, 0), (0, 0, 0))), (((0, (-2147483648), 2147483647), 0, (0, 0, 0), (0, 0, 0)), (0, (0, 1, 0), (0, 0, 0)))], [some (1, 0, 0), some (1, 1, 0)], [], []), [([(((0, 0, 1), 0, (0, 0, 0), (0, 0, 0)), (0, (0, 0, 0), (0, 0, 0)))], some (1, 2, 0), [], [])], [])
def sn_197_0 : se_Nd := (2, ([(((91, 0, 0), 0, (0, 0, 0), (0, 0, 0)), (3, (0, 0, 0), (0, 0, 0))), (((0, (-2147483648), 2147483647), 0, (0, 0, 0), (0, 0, 0)), (3, (0, 1, 0), (0, 0, 0))), (((0, 0, 10), 0, (0, 0, 0), (0, 0, 0)), (0, (0, 2, 0), (0, 0, 0)))], [some (1, 0, 0), some (1, 1, 0), some (1, 2, 0)], [], []), [(0, 0, 0), ((-1), 2, 0), (0, 0, 0)])
abbrev sn_197 : List se_Nd := [sn_197_0]
set_option maxRecDepth 100000 in
theorem sk_197 : se_chk0 se_tt [] se_Z 37 se_zt sc_197 sn_197 6 = true := by decide +kernel
set_option maxRecDepth 100000 in
theorem sk_197_0 : se_chkn se_tt [] se_Z 37 se_zt sc_197 sn_197 6 sn_197_0 = true := by decide +kernel
theorem sm_197 {ty : Nat → Option Nat} {J : List mm_C → Prop} {kx : Nat} {zs : List mm_Zt} (hO : se_Ok ty J kx zs) : se_Met ty se_tt J kx zs sc_197 := se_sound (C := []) hO.1 hO.2.1 hO.2.2 (fun _ hn => absurd hn List.not_mem_nil) sk_197 (fun n hn => by
  rcases List.mem_cons.mp hn with rfl | hn
  · exact sk_197_0
  exact absurd hn List.not_mem_nil)
/-- RaftTownModel.copies -/
def sc_198 : se_C := ((322, 1), ([(((91, 0, 0), 0, (0, 0, 0), (0, 0, 0)), (0, (0, 0, 0), (0, 0, 0)))], [some (1, 0, 0)], [], []), [([], none, [], [])], [(66, 0, 36)])
def sn_198_0 : se_Nd := (2, ([(((91, 0, 0), 0, (0, 0, 0), (0, 0, 0)), (3, (0, 0, 0), (0, 0, 0))), (((0, 0, 36), 0, (0, 0, 0), (0, 0, 0)), (0, (0, 1, 0), (0, 0, 0)))], [some (1, 0, 0), some (1, 1, 0)], [], []), [(0, 0, 0), ((-1), 1, 0), (0, 0, 0)])
abbrev sn_198 : List se_Nd := [sn_198_0]
set_option maxRecDepth 100000 in
theorem sk_198 : se_chk0 se_tt [] se_Z 37 se_zt sc_198 sn_198 4 = true := by decide +kernel
set_option maxRecDepth 100000 in
theorem sk_198_0 : se_chkn se_tt [] se_Z 37 se_zt sc_198 sn_198 4 sn_198_0 = true := by decide +kernel
theorem sm_198 {ty : Nat → Option Nat} {J : List mm_C → Prop} {kx : Nat} {zs : List mm_Zt} (hO : se_Ok ty J kx zs) : se_Met ty se_tt J kx zs sc_198 := se_sound (C := []) hO.1 hO.2.1 hO.2.2 (fun _ hn => absurd hn List.not_mem_nil) sk_198 (fun n hn => by
  rcases List.mem_cons.mp hn with rfl | hn
  · exact sk_198_0
  exact absurd hn List.not_mem_nil)
/-- RaftTownModel.patch -/
def sc_199 : se_C := ((319, 2), ([(((91, 0, 0), 0, (0, 0, 0), (0, 0, 0)), (0, (0, 0, 0), (0, 0, 0))), (((0, (-2147483648), 2147483647), 0, (0, 0, 0), (0, 0, 0)), (0, (0, 1, 0), (0, 0, 0))), (((0, (-2147483648), 2147483647), 0, (0, 0, 0), (0, 0, 0)), (0, (0, 2, 0), (0, 0, 0)))], [some (1, 0, 0), some (1, 1, 0), some (1, 2, 0)], [], []), [([(((0, (-2147483648), 2147483647), 0, (0, 0, 0), (0, 0, 0)), (0, (0, 0, 0), (0, 0, 0)))], some (1, 3, 0), [], [])], [(66, 0, 36), (67, 0, 36), (89, 3, 4)])
def sn_199_0 : se_Nd := (57, ([(((91, 0, 0), 0, (0, 0, 0), (0, 0, 0)), (3, (0, 0, 0), (0, 0, 0))), (((0, 0, 9), 0, (0, 0, 0), (0, 0, 0)), (3, (0, 1, 0), (0, 0, 0))), (((0, 0, 30), 0, (0, 0, 0), (0, 0, 0)), (3, (0, 2, 0), (0, 0, 0))), (((0, 0, 1), 0, (0, 0, 0), (0, 0, 0)), (0, (0, 3, 0), (0, 0, 0))), (((0, 0, 36), 0, (0, 0, 0), (0, 0, 0)), (0, (0, 4, 0), (0, 0, 0)))], [some (1, 0, 0), some (1, 1, 0), some (1, 2, 0), some (1, 3, 0), some (1, 4, 0), none, none], [], []), [(0, 0, 2), ((-1), 4, 0), (0, 0, 0)])
def sn_199_1 : se_Nd := (96, ([(((91, 0, 0), 0, (0, 0, 0), (0, 0, 0)), (3, (0, 0, 0), (0, 0, 0))), (((0, 0, 9), 0, (0, 0, 0), (0, 0, 0)), (3, (0, 1, 0), (0, 0, 0))), (((0, 0, 30), 0, (0, 0, 0), (0, 0, 0)), (3, (0, 2, 0), (0, 0, 0))), (((0, 0, 1), 0, (0, 0, 0), (0, 0, 0)), (0, (0, 3, 0), (0, 0, 0))), (((0, 0, 30), 0, (0, 0, 0), (0, 0, 0)), (0, (0, 4, 0), (0, 0, 0)))], [some (1, 0, 0), some (1, 1, 0), some (1, 2, 0), some (1, 3, 0), some (1, 4, 0), none, none], [], []), [(0, 0, 1), ((-1), 4, 0), (0, 0, 2)])
def sn_199_2 : se_Nd := (105, ([(((91, 0, 0), 0, (0, 0, 0), (0, 0, 0)), (3, (0, 0, 0), (0, 0, 0))), (((0, 0, 9), 0, (0, 0, 0), (0, 0, 0)), (3, (0, 1, 0), (0, 0, 0))), (((0, 1, 30), 0, (0, 0, 0), (0, 0, 0)), (3, (0, 2, 0), (0, 0, 0))), (((0, 0, 1), 0, (0, 0, 0), (0, 0, 0)), (0, (0, 3, 0), (0, 0, 0))), (((0, 0, 29), 0, (0, 0, 0), (0, 0, 0)), (0, (0, 4, 0), (0, 0, 0))), (((0, 0, 36), 0, (0, 0, 0), (0, 0, 0)), (0, (0, 5, 0), (0, 0, 0)))], [some (1, 0, 0), some (1, 1, 0), some (1, 2, 0), some (1, 3, 0), some (1, 4, 0), some (1, 5, 0), none], [], []), [(0, 0, 1), ((-1), 4, 0), (0, 0, 1), ((-1), 5, 0), (0, 0, 0)])
def sn_199_3 : se_Nd := (147, ([(((91, 0, 0), 0, (0, 0, 0), (0, 0, 0)), (3, (0, 0, 0), (0, 0, 0))), (((0, 0, 9), 0, (0, 0, 0), (0, 0, 0)), (3, (0, 1, 0), (0, 0, 0))), (((0, 1, 30), 0, (0, 0, 0), (0, 0, 0)), (3, (0, 2, 0), (0, 0, 0))), (((0, 0, 1), 0, (0, 0, 0), (0, 0, 0)), (0, (0, 3, 0), (0, 0, 0))), (((0, 0, 29), 0, (0, 0, 0), (0, 0, 0)), (0, (0, 4, 0), (0, 0, 0))), (((0, 0, 36), 0, (0, 0, 0), (0, 0, 0)), (0, (0, 5, 0), (0, 0, 0)))], [some (1, 0, 0), some (1, 1, 0), some (1, 2, 0), some (1, 3, 0), some (1, 4, 0), some (1, 5, 0), none], [], []), [(0, 0, 1), ((-1), 4, 0), (0, 0, 0), ((-1), 5, 0), (0, 0, 1)])
def sn_199_4 : se_Nd := (157, ([(((91, 0, 0), 0, (0, 0, 0), (0, 0, 0)), (3, (0, 0, 0), (0, 0, 0))), (((0, 0, 9), 0, (0, 0, 0), (0, 0, 0)), (3, (0, 1, 0), (0, 0, 0))), (((0, 1, 30), 0, (0, 0, 0), (0, 0, 0)), (3, (0, 2, 0), (0, 0, 0))), (((0, 0, 1), 0, (0, 0, 0), (0, 0, 0)), (0, (0, 3, 0), (0, 0, 0))), (((0, 0, 29), 0, (0, 0, 0), (0, 0, 0)), (0, (0, 4, 0), (0, 0, 0))), (((0, 0, 35), 0, (0, 0, 0), (0, 0, 0)), (0, (0, 5, 0), (0, 0, 0))), (((0, 0, 36), 0, (0, 0, 0), (0, 0, 0)), (0, (0, 6, 0), (0, 0, 0)))], [some (1, 0, 0), some (1, 1, 0), some (1, 2, 0), some (1, 3, 0), some (1, 4, 0), some (1, 5, 0), some (1, 6, 0)], [], []), [(0, 0, 1), ((-1), 4, 0), (0, 0, 0), ((-1), 5, 0), (0, 0, 0), ((-1), 6, 0), (0, 0, 0)])
def sn_199_5 : se_Nd := (233, ([(((91, 0, 0), 0, (0, 0, 0), (0, 0, 0)), (3, (0, 0, 0), (0, 0, 0))), (((0, 0, 9), 0, (0, 0, 0), (0, 0, 0)), (3, (0, 1, 0), (0, 0, 0))), (((0, 0, 30), 0, (0, 0, 0), (0, 0, 0)), (3, (0, 2, 0), (0, 0, 0))), (((0, 0, 1), 0, (0, 0, 0), (0, 0, 0)), (0, (0, 3, 0), (0, 0, 0))), (((0, (-2147483648), 2147483647), 0, (0, 0, 0), (0, 0, 0)), (0, (0, 4, 0), (0, 0, 0))), (((0, 0, 36), 0, (0, 0, 0), (0, 0, 0)), (0, (0, 5, 0), (0, 0, 0)))], [some (1, 0, 0), some (1, 1, 0), some (1, 2, 0), some (1, 3, 0), some (1, 4, 0), some (1, 5, 0), none], [], []), [(0, 0, 0), ((-1), 5, 0), (0, 0, 0)])
abbrev sn_199 : List se_Nd := [sn_199_0, sn_199_1, sn_199_2, sn_199_3, sn_199_4, sn_199_5]
set_option maxRecDepth 100000 in
theorem sk_199 : se_chk0 se_tt [sc_135, sc_136, sc_170, sc_197, sc_198] se_Z 37 se_zt sc_199 sn_199 7 = true := by decide +kernel
set_option maxRecDepth 100000 in
theorem sk_199_0 : se_chkn se_tt [sc_135, sc_136, sc_170, sc_197, sc_198] se_Z 37 se_zt sc_199 sn_199 7 sn_199_0 = true := by decide +kernel
set_option maxRecDepth 100000 in
theorem sk_199_1 : se_chkn se_tt [sc_135, sc_136, sc_170, sc_197, sc_198] se_Z 37 se_zt sc_199 sn_199 7 sn_199_1 = true := by decide +kernel
set_option maxRecDepth 100000 in
theorem sk_199_2 : se_chkn se_tt [sc_135, sc_136, sc_170, sc_197, sc_198] se_Z 37 se_zt sc_199 sn_199 7 sn_199_2 = true := by decide +kernel
set_option maxRecDepth 100000 in
theorem sk_199_3 : se_chkn se_tt [sc_135, sc_136, sc_170, sc_197, sc_198] se_Z 37 se_zt sc_199 sn_199 7 sn_199_3 = true := by decide +kernel
set_option maxRecDepth 100000 in
theorem sk_199_4 : se_chkn se_tt [sc_135, sc_136, sc_170, sc_197, sc_198] se_Z 37 se_zt sc_199 sn_199 7 sn_199_4 = true := by decide +kernel
set_option maxRecDepth 100000 in
theorem sk_199_5 : se_chkn se_tt [sc_135, sc_136, sc_170, sc_197, sc_198] se_Z 37 se_zt sc_199 sn_199 7 sn_199_5 = true := by decide +kernel
theorem sm_199 {ty : Nat → Option Nat} {J : List mm_C → Prop} {kx : Nat} {zs : List mm_Zt} (hO : se_Ok ty J kx zs) (h135 : se_Met ty se_tt J kx zs sc_135) (h136 : se_Met ty se_tt J kx zs sc_136) (h170 : se_Met ty se_tt J kx zs sc_170) (h197 : se_Met ty se_tt J kx zs sc_197) (h198 : se_Met ty se_tt J kx zs sc_198) : se_Met ty se_tt J kx zs sc_199 := se_sound (C := [sc_135, sc_136, sc_170, sc_197, sc_198]) hO.1 hO.2.1 hO.2.2 (fun n hn => by
  rcases List.mem_cons.mp hn with rfl | hn
  · exact h135
  rcases List.mem_cons.mp hn with rfl | hn
  · exact h136
  rcases List.mem_cons.mp hn with rfl | hn
  · exact h170
  rcases List.mem_cons.mp hn with rfl | hn
  · exact h197
  rcases List.mem_cons.mp hn with rfl | hn
  · exact h198
  exact absurd hn List.not_mem_nil) sk_199 (fun n hn => by
  rcases List.mem_cons.mp hn with rfl | hn
  · exact sk_199_0
  rcases List.mem_cons.mp hn with rfl | hn
  · exact sk_199_1
  rcases List.mem_cons.mp hn with rfl | hn
  · exact sk_199_2
  rcases List.mem_cons.mp hn with rfl | hn
  · exact sk_199_3
  rcases List.mem_cons.mp hn with rfl | hn
  · exact sk_199_4
  rcases List.mem_cons.mp hn with rfl | hn
  · exact sk_199_5
  exact absurd hn List.not_mem_nil)
/-- RaftTownModel.tow -/
def sc_200 : se_C := ((323, 2), ([(((91, 0, 0), 0, (0, 0, 0), (0, 0, 0)), (0, (0, 0, 0), (0, 0, 0))), (((0, (-2147483648), 2147483647), 0, (0, 0, 0), (0, 0, 0)), (0, (0, 1, 0), (0, 0, 0))), (((0, (-2147483648), 2147483647), 0, (0, 0, 0), (0, 0, 0)), (0, (0, 2, 0), (0, 0, 0)))], [some (1, 0, 0), some (1, 1, 0), some (1, 2, 0)], [], []), [([(((0, (-100006), 30), 0, (0, 0, 0), (0, 0, 0)), (0, (0, 0, 0), (0, 0, 0)))], some (1, 3, 0), [], [])], [(66, 0, 36), (67, 0, 36), (89, 3, 4)])
def sn_200_0 : se_Nd := (71, ([(((91, 0, 0), 0, (0, 0, 0), (0, 0, 0)), (3, (0, 0, 0), (0, 0, 0))), (((0, 0, 9), 0, (0, 0, 0), (0, 0, 0)), (3, (0, 1, 0), (0, 0, 0))), (((0, 0, 9), 0, (0, 0, 0), (0, 0, 0)), (3, (0, 2, 0), (0, 0, 0))), (((0, 0, 1), 0, (0, 0, 0), (0, 0, 0)), (0, (0, 3, 0), (0, 0, 0))), (((0, 0, 35), 0, (0, 0, 0), (0, 0, 0)), (0, (0, 4, 0), (0, 0, 0))), (((0, 0, 36), 0, (0, 0, 0), (0, 0, 0)), (0, (0, 5, 0), (0, 0, 0)))], [some (1, 0, 0), some (1, 1, 0), some (1, 2, 0), some (1, 3, 0), some (1, 4, 0), some (1, 5, 0), none, none], [], []), [(0, 0, 1), ((-1), 5, 0), (0, 0, 0)])
def sn_200_1 : se_Nd := (110, ([(((91, 0, 0), 0, (0, 0, 0), (0, 0, 0)), (3, (0, 0, 0), (0, 0, 0))), (((0, 0, 9), 0, (0, 0, 0), (0, 0, 0)), (3, (0, 1, 0), (0, 0, 0))), (((0, 0, 9), 0, (0, 0, 0), (0, 0, 0)), (3, (0, 2, 0), (0, 0, 0))), (((0, 0, 1), 0, (0, 0, 0), (0, 0, 0)), (0, (0, 3, 0), (0, 0, 0))), (((0, 0, 35), 0, (0, 0, 0), (0, 0, 0)), (0, (0, 4, 0), (0, 0, 0))), (((0, 0, 31), 0, (0, 0, 0), (0, 0, 0)), (0, (0, 5, 0), (0, 0, 0)))], [some (1, 0, 0), some (1, 1, 0), some (1, 2, 0), some (1, 3, 0), some (1, 4, 0), some (1, 5, 0), none, none], [], []), [(0, 0, 0), ((-1), 5, 0), (0, 0, 3)])
def sn_200_2 : se_Nd := (133, ([(((91, 0, 0), 0, (0, 0, 0), (0, 0, 0)), (3, (0, 0, 0), (0, 0, 0))), (((0, 0, 9), 0, (0, 0, 0), (0, 0, 0)), (3, (0, 1, 0), (0, 0, 0))), (((0, 0, 9), 0, (0, 0, 0), (0, 0, 0)), (3, (0, 2, 0), (0, 0, 0))), (((0, 0, 1), 0, (0, 0, 0), (0, 0, 0)), (0, (0, 3, 0), (0, 0, 0))), (((0, 0, 35), 0, (0, 0, 0), (0, 0, 0)), (0, (0, 4, 0), (0, 0, 0))), (((0, 0, 30), 0, (0, 0, 0), (0, 0, 0)), (0, (0, 5, 0), (0, 0, 0))), (((0, 0, 36), 0, (0, 0, 0), (0, 0, 0)), (0, (0, 6, 0), (0, 0, 0)))], [some (1, 0, 0), some (1, 1, 0), some (1, 2, 0), some (1, 3, 0), some (1, 4, 0), some (1, 5, 0), some (1, 6, 0), none], [], []), [(0, 0, 0), ((-1), 5, 0), (0, 0, 2), ((-1), 6, 0), (0, 0, 0)])
def sn_200_3 : se_Nd := (157, ([(((91, 0, 0), 0, (0, 0, 0), (0, 0, 0)), (3, (0, 0, 0), (0, 0, 0))), (((0, 0, 9), 0, (0, 0, 0), (0, 0, 0)), (3, (0, 1, 0), (0, 0, 0))), (((0, 0, 9), 0, (0, 0, 0), (0, 0, 0)), (3, (0, 2, 0), (0, 0, 0))), (((0, 0, 1), 0, (0, 0, 0), (0, 0, 0)), (0, (0, 3, 0), (0, 0, 0))), (((0, 0, 35), 0, (0, 0, 0), (0, 0, 0)), (0, (0, 4, 0), (0, 0, 0))), (((0, 0, 30), 0, (0, 0, 0), (0, 0, 0)), (0, (0, 5, 0), (0, 0, 0))), (((0, 0, 36), 0, (0, 0, 0), (0, 0, 0)), (0, (0, 6, 0), (0, 0, 0)))], [some (1, 0, 0), some (1, 1, 0), some (1, 2, 0), some (1, 3, 0), some (1, 4, 0), some (1, 5, 0), some (1, 6, 0), none], [], []), [(0, 0, 0), ((-1), 5, 0), (0, 0, 1), ((-1), 6, 0), (0, 0, 0)])
def sn_200_4 : se_Nd := (201, ([(((91, 0, 0), 0, (0, 0, 0), (0, 0, 0)), (3, (0, 0, 0), (0, 0, 0))), (((0, 0, 9), 0, (0, 0, 0), (0, 0, 0)), (3, (0, 1, 0), (0, 0, 0))), (((0, 0, 9), 0, (0, 0, 0), (0, 0, 0)), (3, (0, 2, 0), (0, 0, 0))), (((0, 0, 1), 0, (0, 0, 0), (0, 0, 0)), (0, (0, 3, 0), (0, 0, 0))), (((0, 0, 35), 0, (0, 0, 0), (0, 0, 0)), (0, (0, 4, 0), (0, 0, 0))), (((0, 0, 30), 0, (0, 0, 0), (0, 0, 0)), (0, (0, 5, 0), (0, 0, 0))), (((0, 0, 36), 0, (0, 0, 0), (0, 0, 0)), (0, (0, 6, 0), (0, 0, 0)))], [some (1, 0, 0), some (1, 1, 0), some (1, 2, 0), some (1, 3, 0), some (1, 4, 0), some (1, 5, 0), some (1, 6, 0), none], [], []), [(0, 0, 0), ((-1), 5, 0), (0, 0, 0), ((-1), 6, 0), (0, 0, 1)])
def sn_200_5 : se_Nd := (211, ([(((91, 0, 0), 0, (0, 0, 0), (0, 0, 0)), (3, (0, 0, 0), (0, 0, 0))), (((0, 0, 9), 0, (0, 0, 0), (0, 0, 0)), (3, (0, 1, 0), (0, 0, 0))), (((0, 0, 9), 0, (0, 0, 0), (0, 0, 0)), (3, (0, 2, 0), (0, 0, 0))), (((0, 0, 1), 0, (0, 0, 0), (0, 0, 0)), (0, (0, 3, 0), (0, 0, 0))), (((0, 0, 35), 0, (0, 0, 0), (0, 0, 0)), (0, (0, 4, 0), (0, 0, 0))), (((0, 0, 30), 0, (0, 0, 0), (0, 0, 0)), (0, (0, 5, 0), (0, 0, 0))), (((0, 0, 35), 0, (0, 0, 0), (0, 0, 0)), (0, (0, 6, 0), (0, 0, 0))), (((0, 0, 36), 0, (0, 0, 0), (0, 0, 0)), (0, (0, 7, 0), (0, 0, 0)))], [some (1, 0, 0), some (1, 1, 0), some (1, 2, 0), some (1, 3, 0), some (1, 4, 0), some (1, 5, 0), some (1, 6, 0), some (1, 7, 0)], [], []), [(0, 0, 0), ((-1), 5, 0), (0, 0, 0), ((-1), 6, 0), (0, 0, 0), ((-1), 7, 0), (0, 0, 0)])
abbrev sn_200 : List se_Nd := [sn_200_0, sn_200_1, sn_200_2, sn_200_3, sn_200_4, sn_200_5]
set_option maxRecDepth 100000 in
theorem sk_200 : se_chk0 se_tt [sc_135, sc_136, sc_170, sc_197, sc_198] se_Z 37 se_zt sc_200 sn_200 7 = true := by decide +kernel
set_option maxRecDepth 100000 in
theorem sk_200_0 : se_chkn se_tt [sc_135, sc_136, sc_170, sc_197, sc_198] se_Z 37 se_zt sc_200 sn_200 7 sn_200_0 = true := by decide +kernel
set_option maxRecDepth 100000 in
theorem sk_200_1 : se_chkn se_tt [sc_135, sc_136, sc_170, sc_197, sc_198] se_Z 37 se_zt sc_200 sn_200 7 sn_200_1 = true := by decide +kernel
set_option maxRecDepth 100000 in
theorem sk_200_2 : se_chkn se_tt [sc_135, sc_136, sc_170, sc_197, sc_198] se_Z 37 se_zt sc_200 sn_200 7 sn_200_2 = true := by decide +kernel
set_option maxRecDepth 100000 in
theorem sk_200_3 : se_chkn se_tt [sc_135, sc_136, sc_170, sc_197, sc_198] se_Z 37 se_zt sc_200 sn_200 7 sn_200_3 = true := by decide +kernel
set_option maxRecDepth 100000 in
theorem sk_200_4 : se_chkn se_tt [sc_135, sc_136, sc_170, sc_197, sc_198] se_Z 37 se_zt sc_200 sn_200 7 sn_200_4 = true := by decide +kernel
set_option maxRecDepth 100000 in
theorem sk_200_5 : se_chkn se_tt [sc_135, sc_136, sc_170, sc_197, sc_198] se_Z 37 se_zt sc_200 sn_200 7 sn_200_5 = true := by decide +kernel
theorem sm_200 {ty : Nat → Option Nat} {J : List mm_C → Prop} {kx : Nat} {zs : List mm_Zt} (hO : se_Ok ty J kx zs) (h135 : se_Met ty se_tt J kx zs sc_135) (h136 : se_Met ty se_tt J kx zs sc_136) (h170 : se_Met ty se_tt J kx zs sc_170) (h197 : se_Met ty se_tt J kx zs sc_197) (h198 : se_Met ty se_tt J kx zs sc_198) : se_Met ty se_tt J kx zs sc_200 := se_sound (C := [sc_135, sc_136, sc_170, sc_197, sc_198]) hO.1 hO.2.1 hO.2.2 (fun n hn => by
  rcases List.mem_cons.mp hn with rfl | hn
  · exact h135
  rcases List.mem_cons.mp hn with rfl | hn
  · exact h136
  rcases List.mem_cons.mp hn with rfl | hn
  · exact h170
  rcases List.mem_cons.mp hn with rfl | hn
  · exact h197
  rcases List.mem_cons.mp hn with rfl | hn
  · exact h198
  exact absurd hn List.not_mem_nil) sk_200 (fun n hn => by
  rcases List.mem_cons.mp hn with rfl | hn
  · exact sk_200_0
  rcases List.mem_cons.mp hn with rfl | hn
  · exact sk_200_1
  rcases List.mem_cons.mp hn with rfl | hn
  · exact sk_200_2
  rcases List.mem_cons.mp hn with rfl | hn
  · exact sk_200_3
  rcases List.mem_cons.mp hn with rfl | hn
  · exact sk_200_4
  rcases List.mem_cons.mp hn with rfl | hn
  · exact sk_200_5
  exact absurd hn List.not_mem_nil)
/-- RaftTownModel.sheet -/
def sc_201 : se_C := ((324, 1), ([(((91, 0, 0), 0, (0, 0, 0), (0, 0, 0)), (0, (0, 0, 0), (0, 0, 0))), (((0, (-2147483648), 2147483647), 0, (0, 0, 0), (0, 0, 0)), (0, (0, 1, 0), (0, 0, 0))), (((0, (-2147483648), 2147483647), 0, (0, 0, 0), (0, 0, 0)), (0, (0, 2, 0), (0, 0, 0))), (((0, (-2147483648), 2147483647), 0, (0, 0, 0), (0, 0, 0)), (0, (0, 3, 0), (0, 0, 0)))], [some (1, 0, 0), some (1, 1, 0), some (1, 2, 0), some (1, 3, 0)], [], []), [([(((0, (-100003), 20), 0, (0, 0, 0), (0, 0, 0)), (0, (0, 0, 0), (0, 0, 0)))], some (1, 4, 0), [], [])], [(68, 0, 4), (69, 0, 4), (70, 0, 80), (89, 3, 4)])
def sn_201_0 : se_Nd := (85, ([(((91, 0, 0), 0, (0, 0, 0), (0, 0, 0)), (3, (0, 0, 0), (0, 0, 0))), (((0, 0, 3), 0, (0, 0, 0), (0, 0, 0)), (3, (0, 1, 0), (0, 0, 0))), (((0, 0, 32), 0, (0, 0, 0), (0, 0, 0)), (3, (0, 2, 0), (0, 0, 0))), (((0, 0, 20), 0, (0, 0, 0), (0, 0, 0)), (3, (0, 3, 0), (0, 0, 0))), (((0, 0, 20), 0, (0, 0, 0), (0, 0, 0)), (0, (0, 4, 0), (0, 0, 0)))], [some (1, 0, 0), some (1, 1, 0), some (1, 2, 0), some (1, 3, 0), some (1, 4, 0)], [], []), [(0, 0, 0), ((-1), 4, 0), (0, 0, 0)])
abbrev sn_201 : List se_Nd := [sn_201_0]
set_option maxRecDepth 100000 in
theorem sk_201 : se_chk0 se_tt [] se_Z 37 se_zt sc_201 sn_201 6 = true := by decide +kernel
set_option maxRecDepth 100000 in
theorem sk_201_0 : se_chkn se_tt [] se_Z 37 se_zt sc_201 sn_201 6 sn_201_0 = true := by decide +kernel
theorem sm_201 {ty : Nat → Option Nat} {J : List mm_C → Prop} {kx : Nat} {zs : List mm_Zt} (hO : se_Ok ty J kx zs) : se_Met ty se_tt J kx zs sc_201 := se_sound (C := []) hO.1 hO.2.1 hO.2.2 (fun _ hn => absurd hn List.not_mem_nil) sk_201 (fun n hn => by
  rcases List.mem_cons.mp hn with rfl | hn
  · exact sk_201_0
  exact absurd hn List.not_mem_nil)
/-- RaftTownModel.put -/
def sc_202 : se_C := ((325, 1), ([(((91, 0, 0), 0, (0, 0, 0), (0, 0, 0)), (0, (0, 0, 0), (0, 0, 0))), (((0, (-2147483648), 2147483647), 0, (0, 0, 0), (0, 0, 0)), (0, (0, 1, 0), (0, 0, 0))), (((0, (-2147483648), 2147483647), 0, (0, 0, 0), (0, 0, 0)), (0, (0, 2, 0), (0, 0, 0))), (((0, (-2147483648), 2147483647), 0, (0, 0, 0), (0, 0, 0)), (0, (0, 3, 0), (0, 0, 0)))], [some (1, 0, 0), some (1, 1, 0), some (1, 2, 0), some (1, 3, 0)], [], []), [([(((0, (-100002), 0), 0, (0, 0, 0), (0, 0, 0)), (0, (0, 0, 0), (0, 0, 0)))], some (1, 4, 0), [], [])], [(70, 0, 80), (89, 3, 4)])
abbrev sn_202 : List se_Nd := []
set_option maxRecDepth 100000 in
theorem sk_202 : se_chk0 se_tt [] se_Z 37 se_zt sc_202 sn_202 7 = true := by decide +kernel
theorem sm_202 {ty : Nat → Option Nat} {J : List mm_C → Prop} {kx : Nat} {zs : List mm_Zt} (hO : se_Ok ty J kx zs) : se_Met ty se_tt J kx zs sc_202 := se_sound (C := []) hO.1 hO.2.1 hO.2.2 (fun _ hn => absurd hn List.not_mem_nil) sk_202 (fun _ hn => absurd hn List.not_mem_nil)
/-- RaftTownModel.copy -/
def sc_203 : se_C := ((326, 1), ([(((91, 0, 0), 0, (0, 0, 0), (0, 0, 0)), (0, (0, 0, 0), (0, 0, 0))), (((0, (-2147483648), 2147483647), 0, (0, 0, 0), (0, 0, 0)), (0, (0, 1, 0), (0, 0, 0))), (((0, (-2147483648), 2147483647), 0, (0, 0, 0), (0, 0, 0)), (0, (0, 2, 0), (0, 0, 0))), (((0, (-2147483648), 2147483647), 0, (0, 0, 0), (0, 0, 0)), (0, (0, 3, 0), (0, 0, 0))), (((0, (-2147483648), 2147483647), 0, (0, 0, 0), (0, 0, 0)), (0, (0, 4, 0), (0, 0, 0))), (((0, (-2147483648), 2147483647), 0, (0, 0, 0), (0, 0, 0)), (0, (0, 5, 0), (0, 0, 0)))], [some (1, 0, 0), some (1, 1, 0), some (1, 2, 0), some (1, 3, 0), some (1, 4, 0), some (1, 5, 0)], [], []), [([(((0, (-100004), 20), 0, (0, 0, 0), (0, 0, 0)), (0, (0, 0, 0), (0, 0, 0)))], some (1, 6, 0), [], [])], [(70, 0, 80), (71, 0, 20), (89, 3, 4)])
def sn_203_0 : se_Nd := (127, ([(((91, 0, 0), 0, (0, 0, 0), (0, 0, 0)), (3, (0, 0, 0), (0, 0, 0))), (((0, 0, 3), 0, (0, 0, 0), (0, 0, 0)), (3, (0, 1, 0), (0, 0, 0))), (((0, 0, 20), 0, (0, 0, 0), (0, 0, 0)), (3, (0, 2, 0), (0, 0, 0))), (((0, 0, 3), 0, (0, 0, 0), (0, 0, 0)), (3, (0, 3, 0), (0, 0, 0))), (((0, 0, 20), 0, (0, 0, 0), (0, 0, 0)), (3, (0, 4, 0), (0, 0, 0))), (((0, 0, 20), 0, (0, 0, 0), (0, 0, 0)), (3, (0, 5, 0), (0, 0, 0))), (((0, 0, 20), 0, (0, 0, 0), (0, 0, 0)), (0, (0, 6, 0), (0, 0, 0))), (((0, (-2147483648), 2147483647), 1, (1, 2, 0), (1, 5, 0)), (2, (0, 0, 0), (0, 0, 0))), (((0, (-2147483648), 2147483647), 1, (1, 4, 0), (1, 5, 0)), (2, (0, 0, 0), (0, 0, 0)))], [some (1, 0, 0), some (1, 1, 0), some (1, 2, 0), some (1, 3, 0), some (1, 4, 0), some (1, 5, 0), some (1, 6, 0)], [], [(.le, (1, 7, 0), (0, 0, 20)), (.le, (1, 8, 0), (0, 0, 20))]), [(0, 0, 1), ((-1), 6, 0), (0, 0, 0)])
def sn_203_1 : se_Nd := (164, ([(((91, 0, 0), 0, (0, 0, 0), (0, 0, 0)), (3, (0, 0, 0), (0, 0, 0))), (((0, 0, 3), 0, (0, 0, 0), (0, 0, 0)), (3, (0, 1, 0), (0, 0, 0))), (((0, 0, 20), 0, (0, 0, 0), (0, 0, 0)), (3, (0, 2, 0), (0, 0, 0))), (((0, 0, 3), 0, (0, 0, 0), (0, 0, 0)), (3, (0, 3, 0), (0, 0, 0))), (((0, 0, 20), 0, (0, 0, 0), (0, 0, 0)), (3, (0, 4, 0), (0, 0, 0))), (((0, 0, 20), 0, (0, 0, 0), (0, 0, 0)), (3, (0, 5, 0), (0, 0, 0))), (((0, 0, 20), 0, (0, 0, 0), (0, 0, 0)), (0, (0, 6, 0), (0, 0, 0))), (((0, (-2147483648), 2147483647), 1, (1, 2, 0), (1, 5, 0)), (2, (0, 0, 0), (0, 0, 0))), (((0, (-2147483648), 2147483647), 1, (1, 4, 0), (1, 5, 0)), (2, (0, 0, 0), (0, 0, 0)))], [some (1, 0, 0), some (1, 1, 0), some (1, 2, 0), some (1, 3, 0), some (1, 4, 0), some (1, 5, 0), some (1, 6, 0)], [], [(.le, (1, 7, 0), (0, 0, 20)), (.le, (1, 8, 0), (0, 0, 20))]), [(0, 0, 0), ((-1), 6, 0), (0, 0, 0)])
abbrev sn_203 : List se_Nd := [sn_203_0, sn_203_1]
set_option maxRecDepth 100000 in
theorem sk_203 : se_chk0 se_tt [] se_Z 37 se_zt sc_203 sn_203 7 = true := by decide +kernel
set_option maxRecDepth 100000 in
theorem sk_203_0 : se_chkn se_tt [] se_Z 37 se_zt sc_203 sn_203 7 sn_203_0 = true := by decide +kernel
set_option maxRecDepth 100000 in
theorem sk_203_1 : se_chkn se_tt [] se_Z 37 se_zt sc_203 sn_203 7 sn_203_1 = true := by decide +kernel
theorem sm_203 {ty : Nat → Option Nat} {J : List mm_C → Prop} {kx : Nat} {zs : List mm_Zt} (hO : se_Ok ty J kx zs) : se_Met ty se_tt J kx zs sc_203 := se_sound (C := []) hO.1 hO.2.1 hO.2.2 (fun _ hn => absurd hn List.not_mem_nil) sk_203 (fun n hn => by
  rcases List.mem_cons.mp hn with rfl | hn
  · exact sk_203_0
  rcases List.mem_cons.mp hn with rfl | hn
  · exact sk_203_1
  exact absurd hn List.not_mem_nil)
/-- RaftTownModel.count -/
def sc_204 : se_C := ((329, 2), ([(((91, 0, 0), 0, (0, 0, 0), (0, 0, 0)), (0, (0, 0, 0), (0, 0, 0))), (((0, (-2147483648), 2147483647), 0, (0, 0, 0), (0, 0, 0)), (0, (0, 1, 0), (0, 0, 0)))], [some (1, 0, 0), some (1, 1, 0)], [], []), [([(((0, (-2147483648), 2147483647), 0, (0, 0, 0), (0, 0, 0)), (0, (0, 0, 0), (0, 0, 0)))], some (1, 2, 0), [], [])], [(89, 3, 4)])
def sn_204_0 : se_Nd := (50, ([(((91, 0, 0), 0, (0, 0, 0), (0, 0, 0)), (3, (0, 0, 0), (0, 0, 0))), (((0, 0, 0), 0, (0, 0, 0), (0, 0, 0)), (3, (0, 1, 0), (0, 0, 0))), (((0, (-2147483648), 2147483647), 0, (0, 0, 0), (0, 0, 0)), (0, (0, 2, 0), (0, 0, 0))), (((0, 0, 10), 0, (0, 0, 0), (0, 0, 0)), (0, (0, 3, 0), (0, 0, 0)))], [some (1, 0, 0), some (1, 1, 0), some (1, 2, 0), some (1, 3, 0)], [], []), [(0, 0, 0), ((-1), 3, 0), (0, 0, 0)])
def sn_204_1 : se_Nd := (86, ([(((91, 0, 0), 0, (0, 0, 0), (0, 0, 0)), (3, (0, 0, 0), (0, 0, 0))), (((0, 1, 1), 0, (0, 0, 0), (0, 0, 0)), (3, (0, 1, 0), (0, 0, 0))), (((0, (-2147483648), 2147483647), 0, (0, 0, 0), (0, 0, 0)), (0, (0, 2, 0), (0, 0, 0))), (((0, 0, 14), 0, (0, 0, 0), (0, 0, 0)), (0, (0, 3, 0), (0, 0, 0)))], [some (1, 0, 0), some (1, 1, 0), some (1, 2, 0), some (1, 3, 0)], [], []), [(0, 0, 1), ((-1), 3, 0), (0, 0, 0)])
def sn_204_2 : se_Nd := (137, ([(((91, 0, 0), 0, (0, 0, 0), (0, 0, 0)), (3, (0, 0, 0), (0, 0, 0))), (((0, 4, 4), 0, (0, 0, 0), (0, 0, 0)), (3, (0, 1, 0), (0, 0, 0))), (((0, (-2147483648), 2147483647), 0, (0, 0, 0), (0, 0, 0)), (0, (0, 2, 0), (0, 0, 0))), (((0, 0, 10), 0, (0, 0, 0), (0, 0, 0)), (0, (0, 3, 0), (0, 0, 0)))], [some (1, 0, 0), some (1, 1, 0), some (1, 2, 0), some (1, 3, 0)], [], []), [(0, 0, 2), ((-1), 3, 0), (0, 0, 0)])
abbrev sn_204 : List se_Nd := [sn_204_0, sn_204_1, sn_204_2]
set_option maxRecDepth 100000 in
theorem sk_204 : se_chk0 se_tt [sc_135, sc_192] se_Z 37 se_zt sc_204 sn_204 6 = true := by decide +kernel
set_option maxRecDepth 100000 in
theorem sk_204_0 : se_chkn se_tt [sc_135, sc_192] se_Z 37 se_zt sc_204 sn_204 6 sn_204_0 = true := by decide +kernel
set_option maxRecDepth 100000 in
theorem sk_204_1 : se_chkn se_tt [sc_135, sc_192] se_Z 37 se_zt sc_204 sn_204 6 sn_204_1 = true := by decide +kernel
set_option maxRecDepth 100000 in
theorem sk_204_2 : se_chkn se_tt [sc_135, sc_192] se_Z 37 se_zt sc_204 sn_204 6 sn_204_2 = true := by decide +kernel
theorem sm_204 {ty : Nat → Option Nat} {J : List mm_C → Prop} {kx : Nat} {zs : List mm_Zt} (hO : se_Ok ty J kx zs) (h135 : se_Met ty se_tt J kx zs sc_135) (h192 : se_Met ty se_tt J kx zs sc_192) : se_Met ty se_tt J kx zs sc_204 := se_sound (C := [sc_135, sc_192]) hO.1 hO.2.1 hO.2.2 (fun n hn => by
  rcases List.mem_cons.mp hn with rfl | hn
  · exact h135
  rcases List.mem_cons.mp hn with rfl | hn
  · exact h192
  exact absurd hn List.not_mem_nil) sk_204 (fun n hn => by
  rcases List.mem_cons.mp hn with rfl | hn
  · exact sk_204_0
  rcases List.mem_cons.mp hn with rfl | hn
  · exact sk_204_1
  rcases List.mem_cons.mp hn with rfl | hn
  · exact sk_204_2
  exact absurd hn List.not_mem_nil)
