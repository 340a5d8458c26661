/-! ===== printed by wip/p2/gen_tab.py: contracts and their checks ===== -/
/-- RaftTownModel.looks -/
def sc_195 : se_C := ((289, 2), ([(((91, 0, 0), 0, (0, 0, 0), (0, 0, 0)), (0, (0, 0, 0), (0, 0, 0))), (((0, 0, 160), 0, (0, 0, 0), (0, 0, 0)), (1, (1, 0, 0), (0, 0, 13)))], [some (1, 0, 0)], [((1, 0, 0), (0, 0, 13), (1, 1, 0))], []), [([], none, [((1, 0, 0), (0, 0, 14), (0, 0, 0))], []), ([(((0, 0, 9999), 0, (0, 0, 0), (0, 0, 0)), (1, (1, 0, 0), (0, 0, 15))), (((0, 0, 160), 0, (0, 0, 0), (0, 0, 0)), (1, (1, 0, 0), (0, 0, 13)))], none, [((1, 0, 0), (0, 0, 14), (0, 0, 50)), ((1, 0, 0), (0, 0, 15), (1, 2, 0)), ((1, 0, 0), (0, 0, 13), (1, 3, 0))], [(.gt, (1, 3, 0), (1, 1, 0))]), ([(((0, 1, 49), 0, (0, 0, 0), (0, 0, 0)), (1, (1, 0, 0), (0, 0, 14))), (((0, 0, 160), 0, (0, 0, 0), (0, 0, 0)), (1, (1, 0, 0), (0, 0, 13)))], none, [((1, 0, 0), (0, 0, 14), (1, 2, 0)), ((1, 0, 0), (0, 0, 13), (1, 3, 0))], [(.gt, (1, 3, 0), (1, 1, 0))]), ([(((0, 51, 255), 0, (0, 0, 0), (0, 0, 0)), (1, (1, 0, 0), (0, 0, 14))), (((0, 0, 160), 0, (0, 0, 0), (0, 0, 0)), (1, (1, 0, 0), (0, 0, 13)))], none, [((1, 0, 0), (0, 0, 14), (1, 2, 0)), ((1, 0, 0), (0, 0, 13), (1, 3, 0))], [(.gt, (1, 3, 0), (1, 1, 0))])], [(89, 12, 13), (89, 13, 14), (89, 14, 15), (89, 15, 16)])
def sn_195_0 : se_Nd := (8, ([(((91, 0, 0), 0, (0, 0, 0), (0, 0, 0)), (3, (0, 0, 0), (0, 0, 0))), (((0, 0, 160), 0, (0, 0, 0), (0, 0, 0)), (3, (0, 1, 0), (0, 0, 0))), (((0, 0, 160), 0, (0, 0, 0), (0, 0, 0)), (1, (1, 0, 0), (0, 0, 12)))], [some (1, 0, 0), none], [((1, 0, 0), (0, 0, 12), (1, 2, 0))], [(.ge, (1, 2, 0), (1, 1, 0))]), [(0, 0, 7), ((-1), 2, 0), (0, 0, 0)])
def sn_195_1 : se_Nd := (70, ([(((91, 0, 0), 0, (0, 0, 0), (0, 0, 0)), (3, (0, 0, 0), (0, 0, 0))), (((0, 0, 160), 0, (0, 0, 0), (0, 0, 0)), (3, (0, 1, 0), (0, 0, 0))), (((0, 97, 122), 0, (0, 0, 0), (0, 0, 0)), (0, (0, 1, 0), (0, 0, 0))), (((0, 0, 159), 0, (0, 0, 0), (0, 0, 0)), (1, (1, 0, 0), (0, 0, 12))), (((60, 0, 0), 0, (0, 0, 0), (0, 0, 0)), (1, (1, 0, 0), (0, 0, 5))), (((0, 1, 160), 0, (0, 0, 0), (0, 0, 0)), (1, (1, 0, 0), (0, 0, 6))), (((0, (-128), 127), 0, (0, 0, 0), (0, 0, 0)), (1, (1, 4, 0), (1, 3, 0))), (((0, 97, 122), 4, (1, 6, 0), (0, 0, 255)), (2, (0, 0, 0), (0, 0, 0)))], [some (1, 0, 0), some (1, 2, 0)], [((1, 0, 0), (0, 0, 12), (1, 3, 0)), ((1, 0, 0), (0, 0, 5), (1, 4, 0)), ((1, 0, 0), (0, 0, 6), (1, 5, 0)), ((1, 4, 0), (1, 3, 0), (1, 6, 0)), ((1, 0, 0), (0, 0, 13), (1, 3, 0))], [(.lt, (1, 3, 0), (1, 5, 0)), (.ge, (1, 3, 0), (1, 1, 0))]), [(0, 0, 2)])
def sn_195_2 : se_Nd := (70, ([(((91, 0, 0), 0, (0, 0, 0), (0, 0, 0)), (3, (0, 0, 0), (0, 0, 0))), (((0, 0, 160), 0, (0, 0, 0), (0, 0, 0)), (3, (0, 1, 0), (0, 0, 0))), (((0, 97, 122), 0, (0, 0, 0), (0, 0, 0)), (0, (0, 1, 0), (0, 0, 0))), (((0, 0, 160), 0, (0, 0, 0), (0, 0, 0)), (1, (1, 0, 0), (0, 0, 12))), (((0, 0, 160), 0, (0, 0, 0), (0, 0, 0)), (1, (1, 0, 0), (0, 0, 13)))], [some (1, 0, 0), some (1, 2, 0)], [((1, 0, 0), (0, 0, 12), (1, 3, 0)), ((1, 0, 0), (0, 0, 13), (1, 4, 0))], [(.gt, (1, 4, 0), (1, 3, 0)), (.ge, (1, 3, 0), (1, 1, 0))]), [(0, 0, 0), ((-1), 4, 0), (0, 0, 0)])
def sn_195_3 : se_Nd := (120, ([(((91, 0, 0), 0, (0, 0, 0), (0, 0, 0)), (3, (0, 0, 0), (0, 0, 0))), (((0, 0, 160), 0, (0, 0, 0), (0, 0, 0)), (3, (0, 1, 0), (0, 0, 0))), (((0, 48, 57), 0, (0, 0, 0), (0, 0, 0)), (0, (0, 1, 0), (0, 0, 0))), (((0, 0, 159), 0, (0, 0, 0), (0, 0, 0)), (1, (1, 0, 0), (0, 0, 12))), (((60, 0, 0), 0, (0, 0, 0), (0, 0, 0)), (1, (1, 0, 0), (0, 0, 5))), (((0, 1, 160), 0, (0, 0, 0), (0, 0, 0)), (1, (1, 0, 0), (0, 0, 6))), (((0, (-128), 127), 0, (0, 0, 0), (0, 0, 0)), (1, (1, 4, 0), (1, 3, 0))), (((0, 48, 57), 4, (1, 6, 0), (0, 0, 255)), (2, (0, 0, 0), (0, 0, 0)))], [some (1, 0, 0), some (1, 2, 0)], [((1, 0, 0), (0, 0, 12), (1, 3, 0)), ((1, 0, 0), (0, 0, 5), (1, 4, 0)), ((1, 0, 0), (0, 0, 6), (1, 5, 0)), ((1, 4, 0), (1, 3, 0), (1, 6, 0)), ((1, 0, 0), (0, 0, 13), (1, 3, 0)), ((1, 0, 0), (0, 0, 15), (0, 0, 0))], [(.lt, (1, 3, 0), (1, 5, 0)), (.ge, (1, 3, 0), (1, 1, 0))]), [(0, 0, 6)])
def sn_195_4 : se_Nd := (120, ([(((91, 0, 0), 0, (0, 0, 0), (0, 0, 0)), (3, (0, 0, 0), (0, 0, 0))), (((0, 0, 160), 0, (0, 0, 0), (0, 0, 0)), (3, (0, 1, 0), (0, 0, 0))), (((0, 48, 57), 0, (0, 0, 0), (0, 0, 0)), (0, (0, 1, 0), (0, 0, 0))), (((0, 0, 159), 0, (0, 0, 0), (0, 0, 0)), (1, (1, 0, 0), (0, 0, 12))), (((0, 0, 9), 0, (0, 0, 0), (0, 0, 0)), (1, (1, 0, 0), (0, 0, 15)))], [some (1, 0, 0), some (1, 2, 0)], [((1, 0, 0), (0, 0, 12), (1, 3, 0)), ((1, 0, 0), (0, 0, 13), (1, 3, 1)), ((1, 0, 0), (0, 0, 15), (1, 4, 0))], [(.ge, (1, 3, 0), (1, 1, 0))]), [(0, 0, 5)])
def sn_195_5 : se_Nd := (120, ([(((91, 0, 0), 0, (0, 0, 0), (0, 0, 0)), (3, (0, 0, 0), (0, 0, 0))), (((0, 0, 160), 0, (0, 0, 0), (0, 0, 0)), (3, (0, 1, 0), (0, 0, 0))), (((0, 48, 57), 0, (0, 0, 0), (0, 0, 0)), (0, (0, 1, 0), (0, 0, 0))), (((0, 0, 158), 0, (0, 0, 0), (0, 0, 0)), (1, (1, 0, 0), (0, 0, 12))), (((0, 0, 99), 0, (0, 0, 0), (0, 0, 0)), (1, (1, 0, 0), (0, 0, 15)))], [some (1, 0, 0), some (1, 2, 0)], [((1, 0, 0), (0, 0, 12), (1, 3, 0)), ((1, 0, 0), (0, 0, 13), (1, 3, 2)), ((1, 0, 0), (0, 0, 15), (1, 4, 0))], [(.ge, (1, 3, 0), (1, 1, 0))]), [(0, 0, 4)])
def sn_195_6 : se_Nd := (120, ([(((91, 0, 0), 0, (0, 0, 0), (0, 0, 0)), (3, (0, 0, 0), (0, 0, 0))), (((0, 0, 160), 0, (0, 0, 0), (0, 0, 0)), (3, (0, 1, 0), (0, 0, 0))), (((0, 48, 57), 0, (0, 0, 0), (0, 0, 0)), (0, (0, 1, 0), (0, 0, 0))), (((0, 0, 157), 0, (0, 0, 0), (0, 0, 0)), (1, (1, 0, 0), (0, 0, 12))), (((0, 0, 999), 0, (0, 0, 0), (0, 0, 0)), (1, (1, 0, 0), (0, 0, 15)))], [some (1, 0, 0), some (1, 2, 0)], [((1, 0, 0), (0, 0, 12), (1, 3, 0)), ((1, 0, 0), (0, 0, 13), (1, 3, 3)), ((1, 0, 0), (0, 0, 15), (1, 4, 0))], [(.ge, (1, 3, 0), (1, 1, 0))]), [(0, 0, 3)])
def sn_195_7 : se_Nd := (120, ([(((91, 0, 0), 0, (0, 0, 0), (0, 0, 0)), (3, (0, 0, 0), (0, 0, 0))), (((0, 0, 160), 0, (0, 0, 0), (0, 0, 0)), (3, (0, 1, 0), (0, 0, 0))), (((0, 48, 57), 0, (0, 0, 0), (0, 0, 0)), (0, (0, 1, 0), (0, 0, 0))), (((0, 0, 160), 0, (0, 0, 0), (0, 0, 0)), (1, (1, 0, 0), (0, 0, 12))), (((0, 0, 160), 0, (0, 0, 0), (0, 0, 0)), (1, (1, 0, 0), (0, 0, 13))), (((0, 4, 160), 2, (1, 4, 0), (1, 3, 0)), (2, (0, 0, 0), (0, 0, 0))), (((0, 0, 9999), 0, (0, 0, 0), (0, 0, 0)), (1, (1, 0, 0), (0, 0, 15)))], [some (1, 0, 0), some (1, 2, 0)], [((1, 0, 0), (0, 0, 12), (1, 3, 0)), ((1, 0, 0), (0, 0, 13), (1, 4, 0)), ((1, 0, 0), (0, 0, 15), (1, 6, 0))], [(.ge, (1, 4, 0), (1, 3, 4)), (.ge, (1, 3, 0), (1, 1, 0))]), [(0, 0, 1), ((-1), 4, 0), (0, 0, 0)])
abbrev sn_195 : List se_Nd := [sn_195_0, sn_195_1, sn_195_2, sn_195_3, sn_195_4, sn_195_5, sn_195_6, sn_195_7]
set_option maxRecDepth 100000 in
theorem sk_195 : se_chk0 se_tt [sc_194] se_Z 37 se_zt sc_195 sn_195 7 = true := by decide +kernel
set_option maxRecDepth 100000 in
theorem sk_195_0 : se_chkn se_tt [sc_194] se_Z 37 se_zt sc_195 sn_195 7 sn_195_0 = true := by decide +kernel
set_option maxRecDepth 100000 in
theorem sk_195_1 : se_chkn se_tt [sc_194] se_Z 37 se_zt sc_195 sn_195 7 sn_195_1 = true := by decide +kernel
set_option maxRecDepth 100000 in
theorem sk_195_2 : se_chkn se_tt [sc_194] se_Z 37 se_zt sc_195 sn_195 7 sn_195_2 = true := by decide +kernel
set_option maxRecDepth 100000 in
theorem sk_195_3 : se_chkn se_tt [sc_194] se_Z 37 se_zt sc_195 sn_195 7 sn_195_3 = true := by decide +kernel
set_option maxRecDepth 100000 in
theorem sk_195_4 : se_chkn se_tt [sc_194] se_Z 37 se_zt sc_195 sn_195 7 sn_195_4 = true := by decide +kernel
set_option maxRecDepth 100000 in
theorem sk_195_5 : se_chkn se_tt [sc_194] se_Z 37 se_zt sc_195 sn_195 7 sn_195_5 = true := by decide +kernel
set_option maxRecDepth 100000 in
theorem sk_195_6 : se_chkn se_tt [sc_194] se_Z 37 se_zt sc_195 sn_195 7 sn_195_6 = true := by decide +kernel
set_option maxRecDepth 100000 in
theorem sk_195_7 : se_chkn se_tt [sc_194] se_Z 37 se_zt sc_195 sn_195 7 sn_195_7 = true := by decide +kernel
theorem sm_195 {ty : Nat → Option Nat} {J : List mm_C → Prop} {kx : Nat} {zs : List mm_Zt} (hO : se_Ok ty J kx zs) (h194 : se_Met ty se_tt J kx zs sc_194) : se_Met ty se_tt J kx zs sc_195 := se_sound (C := [sc_194]) hO.1 hO.2.1 hO.2.2 (fun n hn => by
  rcases List.mem_cons.mp hn with rfl | hn
  · exact h194
  exact absurd hn List.not_mem_nil) sk_195 (fun n hn => by
  rcases List.mem_cons.mp hn with rfl | hn
  · exact sk_195_0
  rcases List.mem_cons.mp hn with rfl | hn
  · exact sk_195_1
  rcases List.mem_cons.mp hn with rfl | hn
  · exact sk_195_2
  rcases List.mem_cons.mp hn with rfl | hn
  · exact sk_195_3
  rcases List.mem_cons.mp hn with rfl | hn
  · exact sk_195_4
  rcases List.mem_cons.mp hn with rfl | hn
  · exact sk_195_5
  rcases List.mem_cons.mp hn with rfl | hn
  · exact sk_195_6
  rcases List.mem_cons.mp hn with rfl | hn
  · exact sk_195_7
  exact absurd hn List.not_mem_nil)
/-- RaftTownModel.waitsOf -/
def sc_196 : se_C := ((296, 1), ([(((91, 0, 0), 0, (0, 0, 0), (0, 0, 0)), (0, (0, 0, 0), (0, 0, 0))), (((0, (-2147483648), 2147483647), 0, (0, 0, 0), (0, 0, 0)), (0, (0, 1, 0), (0, 0, 0)))], [some (1, 0, 0), some (1, 1, 0)], [], []), [([(((0, (-2147483648), 2147483647), 0, (0, 0, 0), (0, 0, 0)), (0, (0, 0, 0), (0, 0, 0)))], some (1, 2, 0), [], [])], [])
def sn_196_0 : se_Nd := (4, ([(((91, 0, 0), 0, (0, 0, 0), (0, 0, 0)), (3, (0, 0, 0), (0, 0, 0))), (((0, (-2147483648), 2147483647), 0, (0, 0, 0), (0, 0, 0)), (3, (0, 1, 0), (0, 0, 0))), (((0, (-2147483648), 2147483647), 0, (0, 0, 0), (0, 0, 0)), (0, (0, 2, 0), (0, 0, 0))), (((0, 0, 200), 0, (0, 0, 0), (0, 0, 0)), (0, (0, 3, 0), (0, 0, 0)))], [some (1, 0, 0), some (1, 1, 0), some (1, 2, 0), some (1, 3, 0)], [], []), [(0, 0, 0), ((-1), 3, 0), (0, 0, 0)])
abbrev sn_196 : List se_Nd := [sn_196_0]
set_option maxRecDepth 100000 in
theorem sk_196 : se_chk0 se_tt [] se_Z 37 se_zt sc_196 sn_196 5 = true := by decide +kernel
set_option maxRecDepth 100000 in
theorem sk_196_0 : se_chkn se_tt [] se_Z 37 se_zt sc_196 sn_196 5 sn_196_0 = true := by decide +kernel
theorem sm_196 {ty : Nat → Option Nat} {J : List mm_C → Prop} {kx : Nat} {zs : List mm_Zt} (hO : se_Ok ty J kx zs) : se_Met ty se_tt J kx zs sc_196 := se_sound (C := []) hO.1 hO.2.1 hO.2.2 (fun _ hn => absurd hn List.not_mem_nil) sk_196 (fun n hn => by
  rcases List.mem_cons.mp hn with rfl | hn
  · exact sk_196_0
  exact absurd hn List.not_mem_nil)
/-- RaftTownModel.isTested -/
def sc_197 : se_C := ((300, 1), ([(((91, 0, 0), 0, (0, 0, 0), (0, 0, 0)), (0, (0, 0, 0), (0, 0, 0)))], [some (1, 0, 0)], [], []), [([(((0, 0, 1), 0, (0, 0, 0), (0, 0, 0)), (0, (0, 0, 0), (0, 0, 0)))], some (1, 1, 0), [], [])], [])
def sn_197_0 : se_Nd := (7, ([(((91, 0, 0), 0, (0, 0, 0), (0, 0, 0)), (3, (0, 0, 0), (0, 0, 0))), (((0, (-1), 199), 0, (0, 0, 0), (0, 0, 0)), (0, (0, 1, 0), (0, 0, 0)))], [some (1, 0, 0), some (1, 1, 0)], [], []), [(0, 0, 0), (1, 1, 0), (0, 0, 0)])
abbrev sn_197 : List se_Nd := [sn_197_0]
set_option maxRecDepth 100000 in
theorem sk_197 : se_chk0 se_tt [] se_Z 37 se_zt sc_197 sn_197 7 = true := by decide +kernel
set_option maxRecDepth 100000 in
theorem sk_197_0 : se_chkn se_tt [] se_Z 37 se_zt sc_197 sn_197 7 sn_197_0 = true := by decide +kernel
theorem sm_197 {ty : Nat → Option Nat} {J : List mm_C → Prop} {kx : Nat} {zs : List mm_Zt} (hO : se_Ok ty J kx zs) : se_Met ty se_tt J kx zs sc_197 := se_sound (C := []) hO.1 hO.2.1 hO.2.2 (fun _ hn => absurd hn List.not_mem_nil) sk_197 (fun n hn => by
  rcases List.mem_cons.mp hn with rfl | hn
  · exact sk_197_0
  exact absurd hn List.not_mem_nil)
/-- RaftTownModel.force -/
def sc_198 : se_C := ((301, 2), ([(((91, 0, 0), 0, (0, 0, 0), (0, 0, 0)), (0, (0, 0, 0), (0, 0, 0))), (((0, (-2147483648), 2147483647), 0, (0, 0, 0), (0, 0, 0)), (0, (0, 1, 0), (0, 0, 0))), (((0, (-2147483648), 2147483647), 0, (0, 0, 0), (0, 0, 0)), (0, (0, 2, 0), (0, 0, 0)))], [some (1, 0, 0), some (1, 1, 0), some (1, 2, 0)], [], []), [([(((0, (-100006), 11), 0, (0, 0, 0), (0, 0, 0)), (0, (0, 0, 0), (0, 0, 0)))], some (1, 3, 0), [], [])], [(56, 0, 528), (89, 3, 4)])
abbrev sn_198 : List se_Nd := []
set_option maxRecDepth 100000 in
theorem sk_198 : se_chk0 se_tt [sc_151, sc_152, sc_166] se_Z 37 se_zt sc_198 sn_198 7 = true := by decide +kernel
theorem sm_198 {ty : Nat → Option Nat} {J : List mm_C → Prop} {kx : Nat} {zs : List mm_Zt} (hO : se_Ok ty J kx zs) (h151 : se_Met ty se_tt J kx zs sc_151) (h152 : se_Met ty se_tt J kx zs sc_152) (h166 : se_Met ty se_tt J kx zs sc_166) : se_Met ty se_tt J kx zs sc_198 := se_sound (C := [sc_151, sc_152, sc_166]) hO.1 hO.2.1 hO.2.2 (fun n hn => by
  rcases List.mem_cons.mp hn with rfl | hn
  · exact h151
  rcases List.mem_cons.mp hn with rfl | hn
  · exact h152
  rcases List.mem_cons.mp hn with rfl | hn
  · exact h166
  exact absurd hn List.not_mem_nil) sk_198 (fun _ hn => absurd hn List.not_mem_nil)
/-- RaftTownModel.lawOf -/
def sc_199 : se_C := ((303, 1), ([(((91, 0, 0), 0, (0, 0, 0), (0, 0, 0)), (0, (0, 0, 0), (0, 0, 0))), (((0, (-2147483648), 2147483647), 0, (0, 0, 0), (0, 0, 0)), (0, (0, 1, 0), (0, 0, 0)))], [some (1, 0, 0), some (1, 1, 0)], [], []), [([(((0, (-1), 11), 0, (0, 0, 0), (0, 0, 0)), (0, (0, 0, 0), (0, 0, 0)))], some (1, 2, 0), [], [])], [])
def sn_199_0 : se_Nd := (4, ([(((91, 0, 0), 0, (0, 0, 0), (0, 0, 0)), (3, (0, 0, 0), (0, 0, 0))), (((0, (-2147483648), 2147483647), 0, (0, 0, 0), (0, 0, 0)), (3, (0, 1, 0), (0, 0, 0))), (((0, (-1), 11), 0, (0, 0, 0), (0, 0, 0)), (0, (0, 2, 0), (0, 0, 0))), (((0, 0, 12), 0, (0, 0, 0), (0, 0, 0)), (0, (0, 3, 0), (0, 0, 0)))], [some (1, 0, 0), some (1, 1, 0), some (1, 2, 0), some (1, 3, 0)], [], []), [(0, 0, 0), ((-1), 3, 0), (0, 0, 0)])
abbrev sn_199 : List se_Nd := [sn_199_0]
set_option maxRecDepth 100000 in
theorem sk_199 : se_chk0 se_tt [] se_Z 37 se_zt sc_199 sn_199 5 = true := by decide +kernel
set_option maxRecDepth 100000 in
theorem sk_199_0 : se_chkn se_tt [] se_Z 37 se_zt sc_199 sn_199 5 sn_199_0 = true := by decide +kernel
theorem sm_199 {ty : Nat → Option Nat} {J : List mm_C → Prop} {kx : Nat} {zs : List mm_Zt} (hO : se_Ok ty J kx zs) : se_Met ty se_tt J kx zs sc_199 := se_sound (C := []) hO.1 hO.2.1 hO.2.2 (fun _ hn => absurd hn List.not_mem_nil) sk_199 (fun n hn => by
  rcases List.mem_cons.mp hn with rfl | hn
  · exact sk_199_0
  exact absurd hn List.not_mem_nil)
/-- RaftTownModel.law -/
def sc_200 : se_C := ((302, 2), ([(((91, 0, 0), 0, (0, 0, 0), (0, 0, 0)), (0, (0, 0, 0), (0, 0, 0))), (((0, (-2147483648), 2147483647), 0, (0, 0, 0), (0, 0, 0)), (0, (0, 1, 0), (0, 0, 0)))], [some (1, 0, 0), some (1, 1, 0)], [], []), [([(((0, (-100006), 11), 0, (0, 0, 0), (0, 0, 0)), (0, (0, 0, 0), (0, 0, 0)))], some (1, 2, 0), [], [])], [(89, 3, 4)])
abbrev sn_200 : List se_Nd := []
set_option maxRecDepth 100000 in
theorem sk_200 : se_chk0 se_tt [sc_151, sc_152, sc_199] se_Z 37 se_zt sc_200 sn_200 7 = true := by decide +kernel
theorem sm_200 {ty : Nat → Option Nat} {J : List mm_C → Prop} {kx : Nat} {zs : List mm_Zt} (hO : se_Ok ty J kx zs) (h151 : se_Met ty se_tt J kx zs sc_151) (h152 : se_Met ty se_tt J kx zs sc_152) (h199 : se_Met ty se_tt J kx zs sc_199) : se_Met ty se_tt J kx zs sc_200 := se_sound (C := [sc_151, sc_152, sc_199]) hO.1 hO.2.1 hO.2.2 (fun n hn => by
  rcases List.mem_cons.mp hn with rfl | hn
  · exact h151
  rcases List.mem_cons.mp hn with rfl | hn
  · exact h152
  rcases List.mem_cons.mp hn with rfl | hn
  · exact h199
  exact absurd hn List.not_mem_nil) sk_200 (fun _ hn => absurd hn List.not_mem_nil)
/-- RaftTownModel.namesOf -/
def sc_201 : se_C := ((306, 2), ([(((91, 0, 0), 0, (0, 0, 0), (0, 0, 0)), (0, (0, 0, 0), (0, 0, 0))), (((0, (-2147483648), 2147483647), 0, (0, 0, 0), (0, 0, 0)), (0, (0, 1, 0), (0, 0, 0)))], [some (1, 0, 0), some (1, 1, 0)], [], []), [([], none, [], [])], [(63, 0, 9)])
def sn_201_0 : se_Nd := (2, ([(((91, 0, 0), 0, (0, 0, 0), (0, 0, 0)), (3, (0, 0, 0), (0, 0, 0))), (((0, (-2147483648), 2147483647), 0, (0, 0, 0), (0, 0, 0)), (3, (0, 1, 0), (0, 0, 0))), (((0, 0, 9), 0, (0, 0, 0), (0, 0, 0)), (0, (0, 2, 0), (0, 0, 0)))], [some (1, 0, 0), some (1, 1, 0), some (1, 2, 0)], [], []), [(0, 0, 0), ((-1), 2, 0), (0, 0, 0)])
abbrev sn_201 : List se_Nd := [sn_201_0]
set_option maxRecDepth 100000 in
theorem sk_201 : se_chk0 se_tt [sc_190, sc_191] se_Z 37 se_zt sc_201 sn_201 5 = true := by decide +kernel
set_option maxRecDepth 100000 in
theorem sk_201_0 : se_chkn se_tt [sc_190, sc_191] se_Z 37 se_zt sc_201 sn_201 5 sn_201_0 = true := by decide +kernel
theorem sm_201 {ty : Nat → Option Nat} {J : List mm_C → Prop} {kx : Nat} {zs : List mm_Zt} (hO : se_Ok ty J kx zs) (h190 : se_Met ty se_tt J kx zs sc_190) (h191 : se_Met ty se_tt J kx zs sc_191) : se_Met ty se_tt J kx zs sc_201 := se_sound (C := [sc_190, sc_191]) hO.1 hO.2.1 hO.2.2 (fun n hn => by
  rcases List.mem_cons.mp hn with rfl | hn
  · exact h190
  rcases List.mem_cons.mp hn with rfl | hn
  · exact h191
  exact absurd hn List.not_mem_nil) sk_201 (fun n hn => by
  rcases List.mem_cons.mp hn with rfl | hn
  · exact sk_201_0
  exact absurd hn List.not_mem_nil)
/-- RaftTownModel.kinOn -/
def sc_202 : se_C := ((307, 2), ([(((91, 0, 0), 0, (0, 0, 0), (0, 0, 0)), (0, (0, 0, 0), (0, 0, 0))), (((0, (-2147483648), 2147483647), 0, (0, 0, 0), (0, 0, 0)), (0, (0, 1, 0), (0, 0, 0))), (((0, (-2147483648), 2147483647), 0, (0, 0, 0), (0, 0, 0)), (0, (0, 2, 0), (0, 0, 0)))], [some (1, 0, 0), some (1, 1, 0), some (1, 2, 0)], [], []), [([(((0, (-2147483648), 2147483647), 0, (0, 0, 0), (0, 0, 0)), (0, (0, 0, 0), (0, 0, 0)))], some (1, 3, 0), [], [])], [])
def sn_202_0 : se_Nd := (5, ([(((91, 0, 0), 0, (0, 0, 0), (0, 0, 0)), (3, (0, 0, 0), (0, 0, 0))), (((0, (-2147483648), 2147483647), 0, (0, 0, 0), (0, 0, 0)), (3, (0, 1, 0), (0, 0, 0))), (((0, (-2147483648), 2147483647), 0, (0, 0, 0), (0, 0, 0)), (3, (0, 2, 0), (0, 0, 0))), (((0, (-2147483648), 2147483647), 0, (0, 0, 0), (0, 0, 0)), (0, (0, 3, 0), (0, 0, 0))), (((0, 0, 14), 0, (0, 0, 0), (0, 0, 0)), (0, (0, 4, 0), (0, 0, 0)))], [some (1, 0, 0), some (1, 1, 0), some (1, 2, 0), some (1, 3, 0), some (1, 4, 0), none], [], []), [(0, 0, 0), ((-1), 4, 0), (0, 0, 1)])
def sn_202_1 : se_Nd := (19, ([(((91, 0, 0), 0, (0, 0, 0), (0, 0, 0)), (3, (0, 0, 0), (0, 0, 0))), (((0, (-2147483648), 2147483647), 0, (0, 0, 0), (0, 0, 0)), (3, (0, 1, 0), (0, 0, 0))), (((0, (-2147483648), 2147483647), 0, (0, 0, 0), (0, 0, 0)), (3, (0, 2, 0), (0, 0, 0))), (((0, (-2147483648), 2147483647), 0, (0, 0, 0), (0, 0, 0)), (0, (0, 3, 0), (0, 0, 0))), (((0, 0, 13), 0, (0, 0, 0), (0, 0, 0)), (0, (0, 4, 0), (0, 0, 0))), (((0, 0, 14), 0, (0, 0, 0), (0, 0, 0)), (0, (0, 5, 0), (0, 0, 0)))], [some (1, 0, 0), some (1, 1, 0), some (1, 2, 0), some (1, 3, 0), some (1, 4, 0), some (1, 5, 0)], [], []), [(0, 0, 0), ((-1), 4, 0), (0, 0, 0), ((-1), 5, 0), (0, 0, 0)])
abbrev sn_202 : List se_Nd := [sn_202_0, sn_202_1]
set_option maxRecDepth 100000 in
theorem sk_202 : se_chk0 se_tt [sc_159] se_Z 37 se_zt sc_202 sn_202 7 = true := by decide +kernel
set_option maxRecDepth 100000 in
theorem sk_202_0 : se_chkn se_tt [sc_159] se_Z 37 se_zt sc_202 sn_202 7 sn_202_0 = true := by decide +kernel
set_option maxRecDepth 100000 in
theorem sk_202_1 : se_chkn se_tt [sc_159] se_Z 37 se_zt sc_202 sn_202 7 sn_202_1 = true := by decide +kernel
theorem sm_202 {ty : Nat → Option Nat} {J : List mm_C → Prop} {kx : Nat} {zs : List mm_Zt} (hO : se_Ok ty J kx zs) (h159 : se_Met ty se_tt J kx zs sc_159) : se_Met ty se_tt J kx zs sc_202 := se_sound (C := [sc_159]) hO.1 hO.2.1 hO.2.2 (fun n hn => by
  rcases List.mem_cons.mp hn with rfl | hn
  · exact h159
  exact absurd hn List.not_mem_nil) sk_202 (fun n hn => by
  rcases List.mem_cons.mp hn with rfl | hn
  · exact sk_202_0
  rcases List.mem_cons.mp hn with rfl | hn
  · exact sk_202_1
  exact absurd hn List.not_mem_nil)
/-- RaftTownModel.cutOf -/
def sc_203 : se_C := ((305, 4), ([(((91, 0, 0), 0, (0, 0, 0), (0, 0, 0)), (0, (0, 0, 0), (0, 0, 0))), (((0, 0, 11), 0, (0, 0, 0), (0, 0, 0)), (0, (0, 1, 0), (0, 0, 0))), (((0, 0, 11), 0, (0, 0, 0), (0, 0, 0)), (0, (0, 2, 0), (0, 0, 0))), (((0, (-2147483648), 2147483647), 0, (0, 0, 0), (0, 0, 0)), (0, (0, 3, 0), (0, 0, 0))), (((0, (-2147483648), 2147483647), 0, (0, 0, 0), (0, 0, 0)), (0, (0, 4, 0), (0, 0, 0)))], [some (1, 0, 0), some (1, 1, 0), some (1, 2, 0), some (1, 3, 0), some (1, 4, 0)], [], []), [([(((0, (-2147483648), 2147483647), 0, (0, 0, 0), (0, 0, 0)), (0, (0, 0, 0), (0, 0, 0)))], some (1, 5, 0), [], [])], [(57, 0, 10), (63, 0, 9), (64, 0, 200)])
abbrev sn_203 : List se_Nd := []
set_option maxRecDepth 100000 in
theorem sk_203 : se_chk0 se_tt [sc_h4, sc_151, sc_168, sc_172, sc_201, sc_202] se_Z 37 se_zt sc_203 sn_203 8 = true := by decide +kernel
theorem sm_203 {ty : Nat → Option Nat} {J : List mm_C → Prop} {kx : Nat} {zs : List mm_Zt} (hO : se_Ok ty J kx zs) (hh4 : se_Met ty se_tt J kx zs sc_h4) (h151 : se_Met ty se_tt J kx zs sc_151) (h168 : se_Met ty se_tt J kx zs sc_168) (h172 : se_Met ty se_tt J kx zs sc_172) (h201 : se_Met ty se_tt J kx zs sc_201) (h202 : se_Met ty se_tt J kx zs sc_202) : se_Met ty se_tt J kx zs sc_203 := se_sound (C := [sc_h4, sc_151, sc_168, sc_172, sc_201, sc_202]) hO.1 hO.2.1 hO.2.2 (fun n hn => by
  rcases List.mem_cons.mp hn with rfl | hn
  · exact hh4
  rcases List.mem_cons.mp hn with rfl | hn
  · exact h151
  rcases List.mem_cons.mp hn with rfl | hn
  · exact h168
  rcases List.mem_cons.mp hn with rfl | hn
  · exact h172
  rcases List.mem_cons.mp hn with rfl | hn
  · exact h201
  rcases List.mem_cons.mp hn with rfl | hn
  · exact h202
  exact absurd hn List.not_mem_nil) sk_203 (fun _ hn => absurd hn List.not_mem_nil)
/-- RaftTownModel.cut -/
def sc_204 : se_C := ((304, 5), ([(((91, 0, 0), 0, (0, 0, 0), (0, 0, 0)), (0, (0, 0, 0), (0, 0, 0))), (((0, (-2147483648), 2147483647), 0, (0, 0, 0), (0, 0, 0)), (0, (0, 1, 0), (0, 0, 0)))], [some (1, 0, 0), some (1, 1, 0)], [], []), [([(((0, (-2147483648), 2147483647), 0, (0, 0, 0), (0, 0, 0)), (0, (0, 0, 0), (0, 0, 0)))], some (1, 2, 0), [], [])], [(56, 0, 528), (57, 0, 10), (63, 0, 9), (64, 0, 200), (89, 3, 4)])
abbrev sn_204 : List se_Nd := []
set_option maxRecDepth 100000 in
theorem sk_204 : se_chk0 se_tt [sc_151, sc_152, sc_161, sc_166, sc_199, sc_203] se_Z 37 se_zt sc_204 sn_204 7 = true := by decide +kernel
theorem sm_204 {ty : Nat → Option Nat} {J : List mm_C → Prop} {kx : Nat} {zs : List mm_Zt} (hO : se_Ok ty J kx zs) (h151 : se_Met ty se_tt J kx zs sc_151) (h152 : se_Met ty se_tt J kx zs sc_152) (h161 : se_Met ty se_tt J kx zs sc_161) (h166 : se_Met ty se_tt J kx zs sc_166) (h199 : se_Met ty se_tt J kx zs sc_199) (h203 : se_Met ty se_tt J kx zs sc_203) : se_Met ty se_tt J kx zs sc_204 := se_sound (C := [sc_151, sc_152, sc_161, sc_166, sc_199, sc_203]) hO.1 hO.2.1 hO.2.2 (fun n hn => by
  rcases List.mem_cons.mp hn with rfl | hn
  · exact h151
  rcases List.mem_cons.mp hn with rfl | hn
  · exact h152
  rcases List.mem_cons.mp hn with rfl | hn
  · exact h161
  rcases List.mem_cons.mp hn with rfl | hn
  · exact h166
  rcases List.mem_cons.mp hn with rfl | hn
  · exact h199
  rcases List.mem_cons.mp hn with rfl | hn
  · exact h203
  exact absurd hn List.not_mem_nil) sk_204 (fun _ hn => absurd hn List.not_mem_nil)
/-- RaftTownModel.may -/
def sc_205 : se_C := ((310, 5), ([(((91, 0, 0), 0, (0, 0, 0), (0, 0, 0)), (0, (0, 0, 0), (0, 0, 0))), (((0, (-2147483648), 2147483647), 0, (0, 0, 0), (0, 0, 0)), (0, (0, 1, 0), (0, 0, 0))), (((0, (-2147483648), 2147483647), 0, (0, 0, 0), (0, 0, 0)), (0, (0, 2, 0), (0, 0, 0)))], [some (1, 0, 0), some (1, 1, 0), some (1, 2, 0)], [], []), [([(((0, (-2147483648), 2147483647), 0, (0, 0, 0), (0, 0, 0)), (0, (0, 0, 0), (0, 0, 0)))], some (1, 3, 0), [], [])], [(57, 0, 10), (63, 0, 9), (64, 0, 200), (89, 3, 4)])
abbrev sn_205 : List se_Nd := []
set_option maxRecDepth 100000 in
theorem sk_205 : se_chk0 se_tt [sc_151, sc_152, sc_199, sc_203] se_Z 37 se_zt sc_205 sn_205 8 = true := by decide +kernel
theorem sm_205 {ty : Nat → Option Nat} {J : List mm_C → Prop} {kx : Nat} {zs : List mm_Zt} (hO : se_Ok ty J kx zs) (h151 : se_Met ty se_tt J kx zs sc_151) (h152 : se_Met ty se_tt J kx zs sc_152) (h199 : se_Met ty se_tt J kx zs sc_199) (h203 : se_Met ty se_tt J kx zs sc_203) : se_Met ty se_tt J kx zs sc_205 := se_sound (C := [sc_151, sc_152, sc_199, sc_203]) hO.1 hO.2.1 hO.2.2 (fun n hn => by
  rcases List.mem_cons.mp hn with rfl | hn
  · exact h151
  rcases List.mem_cons.mp hn with rfl | hn
  · exact h152
  rcases List.mem_cons.mp hn with rfl | hn
  · exact h199
  rcases List.mem_cons.mp hn with rfl | hn
  · exact h203
  exact absurd hn List.not_mem_nil) sk_205 (fun _ hn => absurd hn List.not_mem_nil)
/-- RaftTownModel.must -/
def sc_206 : se_C := ((311, 3), ([(((91, 0, 0), 0, (0, 0, 0), (0, 0, 0)), (0, (0, 0, 0), (0, 0, 0))), (((0, (-2147483648), 2147483647), 0, (0, 0, 0), (0, 0, 0)), (0, (0, 1, 0), (0, 0, 0))), (((0, (-2147483648), 2147483647), 0, (0, 0, 0), (0, 0, 0)), (0, (0, 2, 0), (0, 0, 0)))], [some (1, 0, 0), some (1, 1, 0), some (1, 2, 0)], [], []), [([(((0, (-2147483648), 2147483647), 0, (0, 0, 0), (0, 0, 0)), (0, (0, 0, 0), (0, 0, 0)))], some (1, 3, 0), [], [])], [(63, 0, 9), (64, 0, 200), (89, 3, 4)])
abbrev sn_206 : List se_Nd := []
set_option maxRecDepth 100000 in
theorem sk_206 : se_chk0 se_tt [sc_h4, sc_151, sc_152, sc_199, sc_201, sc_202] se_Z 37 se_zt sc_206 sn_206 8 = true := by decide +kernel
theorem sm_206 {ty : Nat → Option Nat} {J : List mm_C → Prop} {kx : Nat} {zs : List mm_Zt} (hO : se_Ok ty J kx zs) (hh4 : se_Met ty se_tt J kx zs sc_h4) (h151 : se_Met ty se_tt J kx zs sc_151) (h152 : se_Met ty se_tt J kx zs sc_152) (h199 : se_Met ty se_tt J kx zs sc_199) (h201 : se_Met ty se_tt J kx zs sc_201) (h202 : se_Met ty se_tt J kx zs sc_202) : se_Met ty se_tt J kx zs sc_206 := se_sound (C := [sc_h4, sc_151, sc_152, sc_199, sc_201, sc_202]) hO.1 hO.2.1 hO.2.2 (fun n hn => by
  rcases List.mem_cons.mp hn with rfl | hn
  · exact hh4
  rcases List.mem_cons.mp hn with rfl | hn
  · exact h151
  rcases List.mem_cons.mp hn with rfl | hn
  · exact h152
  rcases List.mem_cons.mp hn with rfl | hn
  · exact h199
  rcases List.mem_cons.mp hn with rfl | hn
  · exact h201
  rcases List.mem_cons.mp hn with rfl | hn
  · exact h202
  exact absurd hn List.not_mem_nil) sk_206 (fun _ hn => absurd hn List.not_mem_nil)
/-- RaftTownModel.speaks -/
def sc_207 : se_C := ((312, 3), ([(((91, 0, 0), 0, (0, 0, 0), (0, 0, 0)), (0, (0, 0, 0), (0, 0, 0))), (((0, (-2147483648), 2147483647), 0, (0, 0, 0), (0, 0, 0)), (0, (0, 1, 0), (0, 0, 0)))], [some (1, 0, 0), some (1, 1, 0)], [], []), [([(((0, (-100006), 13), 0, (0, 0, 0), (0, 0, 0)), (0, (0, 0, 0), (0, 0, 0)))], some (1, 2, 0), [], [])], [(63, 0, 9), (64, 0, 200), (89, 3, 4)])
def sn_207_0 : se_Nd := (52, ([(((91, 0, 0), 0, (0, 0, 0), (0, 0, 0)), (3, (0, 0, 0), (0, 0, 0))), (((0, 0, 9), 0, (0, 0, 0), (0, 0, 0)), (3, (0, 1, 0), (0, 0, 0))), (((0, 0, 1023), 0, (0, 0, 0), (0, 0, 0)), (0, (0, 2, 0), (0, 0, 0))), (((0, (-1), 11), 0, (0, 0, 0), (0, 0, 0)), (0, (0, 3, 0), (0, 0, 0))), (((0, (-1), 13), 0, (0, 0, 0), (0, 0, 0)), (0, (0, 4, 0), (0, 0, 0))), (((0, (-2147483648), 2147483647), 0, (0, 0, 0), (0, 0, 0)), (0, (0, 5, 0), (0, 0, 0))), (((0, 0, 14), 0, (0, 0, 0), (0, 0, 0)), (0, (0, 6, 0), (0, 0, 0)))], [some (1, 0, 0), some (1, 1, 0), some (1, 2, 0), some (1, 3, 0), some (1, 4, 0), some (1, 5, 0), some (1, 6, 0), none], [], []), [(0, 0, 0), ((-1), 6, 0), (0, 0, 1)])
def sn_207_1 : se_Nd := (115, ([(((91, 0, 0), 0, (0, 0, 0), (0, 0, 0)), (3, (0, 0, 0), (0, 0, 0))), (((0, 0, 9), 0, (0, 0, 0), (0, 0, 0)), (3, (0, 1, 0), (0, 0, 0))), (((0, 0, 1023), 0, (0, 0, 0), (0, 0, 0)), (0, (0, 2, 0), (0, 0, 0))), (((0, 0, 11), 0, (0, 0, 0), (0, 0, 0)), (0, (0, 3, 0), (0, 0, 0))), (((0, (-1), 13), 0, (0, 0, 0), (0, 0, 0)), (0, (0, 4, 0), (0, 0, 0))), (((0, (-2147483648), 2147483647), 0, (0, 0, 0), (0, 0, 0)), (0, (0, 5, 0), (0, 0, 0))), (((0, 0, 13), 0, (0, 0, 0), (0, 0, 0)), (0, (0, 6, 0), (0, 0, 0))), (((0, 0, 14), 0, (0, 0, 0), (0, 0, 0)), (0, (0, 7, 0), (0, 0, 0)))], [some (1, 0, 0), some (1, 1, 0), some (1, 2, 0), some (1, 3, 0), some (1, 4, 0), some (1, 5, 0), some (1, 6, 0), some (1, 7, 0)], [], []), [(0, 0, 0), ((-1), 6, 0), (0, 0, 0), ((-1), 7, 0), (0, 0, 0)])
abbrev sn_207 : List se_Nd := [sn_207_0, sn_207_1]
set_option maxRecDepth 100000 in
theorem sk_207 : se_chk0 se_tt [sc_h4, sc_151, sc_152, sc_159, sc_199, sc_201] se_Z 37 se_zt sc_207 sn_207 7 = true := by decide +kernel
set_option maxRecDepth 100000 in
theorem sk_207_0 : se_chkn se_tt [sc_h4, sc_151, sc_152, sc_159, sc_199, sc_201] se_Z 37 se_zt sc_207 sn_207 7 sn_207_0 = true := by decide +kernel
set_option maxRecDepth 100000 in
theorem sk_207_1 : se_chkn se_tt [sc_h4, sc_151, sc_152, sc_159, sc_199, sc_201] se_Z 37 se_zt sc_207 sn_207 7 sn_207_1 = true := by decide +kernel
theorem sm_207 {ty : Nat → Option Nat} {J : List mm_C → Prop} {kx : Nat} {zs : List mm_Zt} (hO : se_Ok ty J kx zs) (hh4 : se_Met ty se_tt J kx zs sc_h4) (h151 : se_Met ty se_tt J kx zs sc_151) (h152 : se_Met ty se_tt J kx zs sc_152) (h159 : se_Met ty se_tt J kx zs sc_159) (h199 : se_Met ty se_tt J kx zs sc_199) (h201 : se_Met ty se_tt J kx zs sc_201) : se_Met ty se_tt J kx zs sc_207 := se_sound (C := [sc_h4, sc_151, sc_152, sc_159, sc_199, sc_201]) hO.1 hO.2.1 hO.2.2 (fun n hn => by
  rcases List.mem_cons.mp hn with rfl | hn
  · exact hh4
  rcases List.mem_cons.mp hn with rfl | hn
  · exact h151
  rcases List.mem_cons.mp hn with rfl | hn
  · exact h152
  rcases List.mem_cons.mp hn with rfl | hn
  · exact h159
  rcases List.mem_cons.mp hn with rfl | hn
  · exact h199
  rcases List.mem_cons.mp hn with rfl | hn
  · exact h201
  exact absurd hn List.not_mem_nil) sk_207 (fun n hn => by
  rcases List.mem_cons.mp hn with rfl | hn
  · exact sk_207_0
  rcases List.mem_cons.mp hn with rfl | hn
  · exact sk_207_1
  exact absurd hn List.not_mem_nil)
/-- RaftTownModel.ones -/
def sc_208 : se_C := ((314, 1), ([(((0, 0, 2147483647), 0, (0, 0, 0), (0, 0, 0)), (0, (0, 0, 0), (0, 0, 0)))], [some (1, 0, 0)], [], []), [([(((0, (-2147483648), 2147483647), 0, (0, 0, 0), (0, 0, 0)), (0, (0, 0, 0), (0, 0, 0)))], some (1, 1, 0), [], [])], [])
def sn_208_0 : se_Nd := (4, ([(((0, 0, 2147483647), 0, (0, 0, 0), (0, 0, 0)), (3, (0, 0, 0), (0, 0, 0))), (((0, (-2147483648), 2147483647), 0, (0, 0, 0), (0, 0, 0)), (0, (0, 1, 0), (0, 0, 0))), (((0, 0, 2147483647), 0, (0, 0, 0), (0, 0, 0)), (0, (0, 2, 0), (0, 0, 0)))], [some (1, 0, 0), some (1, 1, 0), some (1, 2, 0)], [], []), [(0, 0, 0), (1, 2, 0), (0, 0, 0)])
abbrev sn_208 : List se_Nd := [sn_208_0]
set_option maxRecDepth 100000 in
theorem sk_208 : se_chk0 se_tt [] se_Z 37 se_zt sc_208 sn_208 4 = true := by decide +kernel
set_option maxRecDepth 100000 in
theorem sk_208_0 : se_chkn se_tt [] se_Z 37 se_zt sc_208 sn_208 4 sn_208_0 = true := by decide +kernel
theorem sm_208 {ty : Nat → Option Nat} {J : List mm_C → Prop} {kx : Nat} {zs : List mm_Zt} (hO : se_Ok ty J kx zs) : se_Met ty se_tt J kx zs sc_208 := se_sound (C := []) hO.1 hO.2.1 hO.2.2 (fun _ hn => absurd hn List.not_mem_nil) sk_208 (fun n hn => by
  rcases List.mem_cons.mp hn with rfl | hn
  · exact sk_208_0
  exact absurd hn List.not_mem_nil)
/-- RaftTownModel.lash -/
def sc_209 : se_C := ((313, 5), ([(((91, 0, 0), 0, (0, 0, 0), (0, 0, 0)), (0, (0, 0, 0), (0, 0, 0))), (((0, (-2147483648), 2147483647), 0, (0, 0, 0), (0, 0, 0)), (0, (0, 1, 0), (0, 0, 0))), (((0, (-2147483648), 2147483647), 0, (0, 0, 0), (0, 0, 0)), (0, (0, 2, 0), (0, 0, 0)))], [some (1, 0, 0), some (1, 1, 0), some (1, 2, 0)], [], []), [([(((0, (-100006), 4095), 0, (0, 0, 0), (0, 0, 0)), (0, (0, 0, 0), (0, 0, 0)))], some (1, 3, 0), [], [])], [(57, 0, 10), (89, 3, 4)])
def sn_209_0 : se_Nd := (53, ([(((91, 0, 0), 0, (0, 0, 0), (0, 0, 0)), (3, (0, 0, 0), (0, 0, 0))), (((0, 0, 9), 0, (0, 0, 0), (0, 0, 0)), (3, (0, 1, 0), (0, 0, 0))), (((0, 0, 20), 0, (0, 0, 0), (0, 0, 0)), (3, (0, 2, 0), (0, 0, 0))), (((0, 1, 1023), 0, (0, 0, 0), (0, 0, 0)), (0, (0, 3, 0), (0, 0, 0))), (((0, 0, 4095), 0, (0, 0, 0), (0, 0, 0)), (0, (0, 4, 0), (0, 0, 0))), (((0, 0, 12), 0, (0, 0, 0), (0, 0, 0)), (0, (0, 5, 0), (0, 0, 0)))], [some (1, 0, 0), some (1, 1, 0), some (1, 2, 0), some (1, 3, 0), some (1, 4, 0), some (1, 5, 0), none], [], []), [(0, 0, 1), ((-1), 5, 0), (0, 0, 0)])
def sn_209_1 : se_Nd := (117, ([(((91, 0, 0), 0, (0, 0, 0), (0, 0, 0)), (3, (0, 0, 0), (0, 0, 0))), (((0, 0, 9), 0, (0, 0, 0), (0, 0, 0)), (3, (0, 1, 0), (0, 0, 0))), (((0, 0, 20), 0, (0, 0, 0), (0, 0, 0)), (3, (0, 2, 0), (0, 0, 0))), (((0, 1, 1023), 0, (0, 0, 0), (0, 0, 0)), (0, (0, 3, 0), (0, 0, 0))), (((0, 0, 4095), 0, (0, 0, 0), (0, 0, 0)), (0, (0, 4, 0), (0, 0, 0))), (((0, (-1), 4095), 0, (0, 0, 0), (0, 0, 0)), (0, (0, 5, 0), (0, 0, 0))), (((0, 0, 4096), 0, (0, 0, 0), (0, 0, 0)), (0, (0, 6, 0), (0, 0, 0)))], [some (1, 0, 0), some (1, 1, 0), some (1, 2, 0), some (1, 3, 0), some (1, 4, 0), some (1, 5, 0), some (1, 6, 0)], [], []), [(0, 0, 0), ((-1), 6, 0), (0, 0, 0)])
abbrev sn_209 : List se_Nd := [sn_209_0, sn_209_1]
set_option maxRecDepth 100000 in
theorem sk_209 : se_chk0 se_tt [sc_151, sc_152, sc_168, sc_174, sc_208] se_Z 37 se_zt sc_209 sn_209 7 = true := by decide +kernel
set_option maxRecDepth 100000 in
theorem sk_209_0 : se_chkn se_tt [sc_151, sc_152, sc_168, sc_174, sc_208] se_Z 37 se_zt sc_209 sn_209 7 sn_209_0 = true := by decide +kernel
set_option maxRecDepth 100000 in
theorem sk_209_1 : se_chkn se_tt [sc_151, sc_152, sc_168, sc_174, sc_208] se_Z 37 se_zt sc_209 sn_209 7 sn_209_1 = true := by decide +kernel
theorem sm_209 {ty : Nat → Option Nat} {J : List mm_C → Prop} {kx : Nat} {zs : List mm_Zt} (hO : se_Ok ty J kx zs) (h151 : se_Met ty se_tt J kx zs sc_151) (h152 : se_Met ty se_tt J kx zs sc_152) (h168 : se_Met ty se_tt J kx zs sc_168) (h174 : se_Met ty se_tt J kx zs sc_174) (h208 : se_Met ty se_tt J kx zs sc_208) : se_Met ty se_tt J kx zs sc_209 := se_sound (C := [sc_151, sc_152, sc_168, sc_174, sc_208]) hO.1 hO.2.1 hO.2.2 (fun n hn => by
  rcases List.mem_cons.mp hn with rfl | hn
  · exact h151
  rcases List.mem_cons.mp hn with rfl | hn
  · exact h152
  rcases List.mem_cons.mp hn with rfl | hn
  · exact h168
  rcases List.mem_cons.mp hn with rfl | hn
  · exact h174
  rcases List.mem_cons.mp hn with rfl | hn
  · exact h208
  exact absurd hn List.not_mem_nil) sk_209 (fun n hn => by
  rcases List.mem_cons.mp hn with rfl | hn
  · exact sk_209_0
  rcases List.mem_cons.mp hn with rfl | hn
  · exact sk_209_1
  exact absurd hn List.not_mem_nil)
