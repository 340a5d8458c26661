/-! ===== printed by wip/p2/gen_tab.py: contracts and their checks ===== -/
/-- RaftTownModel.hasRoom -/
def sc_195 : se_C := ((253, 1), ([(((91, 0, 0), 0, (0, 0, 0), (0, 0, 0)), (0, (0, 0, 0), (0, 0, 0))), (((0, 0, 9), 0, (0, 0, 0), (0, 0, 0)), (0, (0, 1, 0), (0, 0, 0))), (((0, (-2147483648), 2147483647), 0, (0, 0, 0), (0, 0, 0)), (0, (0, 2, 0), (0, 0, 0)))], [some (1, 0, 0), some (1, 1, 0), some (1, 2, 0)], [], []), [([(((0, 0, 1), 0, (0, 0, 0), (0, 0, 0)), (0, (0, 0, 0), (0, 0, 0)))], some (1, 3, 0), [], [])], [])
def sn_195_0 : se_Nd := (5, ([(((91, 0, 0), 0, (0, 0, 0), (0, 0, 0)), (3, (0, 0, 0), (0, 0, 0))), (((0, 0, 9), 0, (0, 0, 0), (0, 0, 0)), (3, (0, 1, 0), (0, 0, 0))), (((0, (-2147483648), 2147483647), 0, (0, 0, 0), (0, 0, 0)), (3, (0, 2, 0), (0, 0, 0))), (((0, (-2147483648), 2147483647), 0, (0, 0, 0), (0, 0, 0)), (0, (0, 3, 0), (0, 0, 0))), (((0, 0, 12), 0, (0, 0, 0), (0, 0, 0)), (0, (0, 4, 0), (0, 0, 0)))], [some (1, 0, 0), some (1, 1, 0), some (1, 2, 0), some (1, 3, 0), some (1, 4, 0)], [], []), [(0, 0, 0), ((-1), 4, 0), (0, 0, 0)])
abbrev sn_195 : List se_Nd := [sn_195_0]
set_option maxRecDepth 100000 in
theorem sk_195 : se_chk0 se_tt [] se_Z 37 se_zt sc_195 sn_195 7 = true := by decide +kernel
set_option maxRecDepth 100000 in
theorem sk_195_0 : se_chkn se_tt [] se_Z 37 se_zt sc_195 sn_195 7 sn_195_0 = true := by decide +kernel
theorem sm_195 {ty : Nat → Option Nat} {J : List mm_C → Prop} {kx : Nat} {zs : List mm_Zt} (hO : se_Ok ty J kx zs) : se_Met ty se_tt J kx zs sc_195 := se_sound (C := []) hO.1 hO.2.1 hO.2.2 (fun _ hn => absurd hn List.not_mem_nil) sk_195 (fun n hn => by
  rcases List.mem_cons.mp hn with rfl | hn
  · exact sk_195_0
  exact absurd hn List.not_mem_nil)
/-- RaftTownModel.tellsOn -/
def sc_196 : se_C := ((254, 1), ([(((91, 0, 0), 0, (0, 0, 0), (0, 0, 0)), (0, (0, 0, 0), (0, 0, 0))), (((0, (-2147483648), 2147483647), 0, (0, 0, 0), (0, 0, 0)), (0, (0, 1, 0), (0, 0, 0)))], [some (1, 0, 0), some (1, 1, 0)], [], []), [([], none, [], [])], [(56, 344, 504), (56, 504, 528)])
def sn_196_0 : se_Nd := (2, ([(((91, 0, 0), 0, (0, 0, 0), (0, 0, 0)), (3, (0, 0, 0), (0, 0, 0))), (((0, (-2147483648), 2147483647), 0, (0, 0, 0), (0, 0, 0)), (3, (0, 1, 0), (0, 0, 0))), (((0, 0, 40), 0, (0, 0, 0), (0, 0, 0)), (0, (0, 2, 0), (0, 0, 0)))], [some (1, 0, 0), some (1, 1, 0), some (1, 2, 0)], [], []), [(0, 0, 1), ((-1), 2, 0), (0, 0, 0)])
def sn_196_1 : se_Nd := (58, ([(((91, 0, 0), 0, (0, 0, 0), (0, 0, 0)), (3, (0, 0, 0), (0, 0, 0))), (((0, (-2147483648), 2147483647), 0, (0, 0, 0), (0, 0, 0)), (3, (0, 1, 0), (0, 0, 0))), (((0, 0, 12), 0, (0, 0, 0), (0, 0, 0)), (0, (0, 2, 0), (0, 0, 0)))], [some (1, 0, 0), some (1, 1, 0), some (1, 2, 0)], [], []), [(0, 0, 0), ((-1), 2, 0), (0, 0, 0)])
abbrev sn_196 : List se_Nd := [sn_196_0, sn_196_1]
set_option maxRecDepth 100000 in
theorem sk_196 : se_chk0 se_tt [] se_Z 37 se_zt sc_196 sn_196 6 = true := by decide +kernel
set_option maxRecDepth 100000 in
theorem sk_196_0 : se_chkn se_tt [] se_Z 37 se_zt sc_196 sn_196 6 sn_196_0 = true := by decide +kernel
set_option maxRecDepth 100000 in
theorem sk_196_1 : se_chkn se_tt [] se_Z 37 se_zt sc_196 sn_196 6 sn_196_1 = true := by decide +kernel
theorem sm_196 {ty : Nat → Option Nat} {J : List mm_C → Prop} {kx : Nat} {zs : List mm_Zt} (hO : se_Ok ty J kx zs) : se_Met ty se_tt J kx zs sc_196 := se_sound (C := []) hO.1 hO.2.1 hO.2.2 (fun _ hn => absurd hn List.not_mem_nil) sk_196 (fun n hn => by
  rcases List.mem_cons.mp hn with rfl | hn
  · exact sk_196_0
  rcases List.mem_cons.mp hn with rfl | hn
  · exact sk_196_1
  exact absurd hn List.not_mem_nil)
/-- RaftTownModel.happens -/
def sc_197 : se_C := ((255, 1), ([(((91, 0, 0), 0, (0, 0, 0), (0, 0, 0)), (0, (0, 0, 0), (0, 0, 0))), (((0, (-2147483648), 2147483647), 0, (0, 0, 0), (0, 0, 0)), (0, (0, 1, 0), (0, 0, 0))), (((0, (-2147483648), 2147483647), 0, (0, 0, 0), (0, 0, 0)), (0, (0, 2, 0), (0, 0, 0))), (((0, (-2147483648), 2147483647), 0, (0, 0, 0), (0, 0, 0)), (0, (0, 3, 0), (0, 0, 0)))], [some (1, 0, 0), some (1, 1, 0), some (1, 2, 0), some (1, 3, 0)], [], []), [([], none, [], [])], [(56, 6, 7), (56, 344, 504)])
def sn_197_0 : se_Nd := (15, ([(((91, 0, 0), 0, (0, 0, 0), (0, 0, 0)), (3, (0, 0, 0), (0, 0, 0))), (((0, (-2147483648), 2147483647), 0, (0, 0, 0), (0, 0, 0)), (3, (0, 1, 0), (0, 0, 0))), (((0, (-2147483648), 2147483647), 0, (0, 0, 0), (0, 0, 0)), (3, (0, 2, 0), (0, 0, 0))), (((0, (-2147483648), 2147483647), 0, (0, 0, 0), (0, 0, 0)), (3, (0, 3, 0), (0, 0, 0))), (((0, 0, 156), 0, (0, 0, 0), (0, 0, 0)), (0, (0, 4, 0), (0, 0, 0))), (((58, 0, 0), 0, (0, 0, 0), (0, 0, 0)), (1, (1, 0, 0), (0, 0, 0))), (((0, 40, 40), 0, (0, 0, 0), (0, 0, 0)), (1, (1, 5, 0), (0, 0, 6)))], [some (1, 0, 0), some (1, 1, 0), some (1, 2, 0), some (1, 3, 0), some (1, 4, 0)], [((1, 0, 0), (0, 0, 0), (1, 5, 0)), ((1, 5, 0), (0, 0, 6), (1, 6, 0))], []), [(0, 0, 0), ((-1), 4, 0), (0, 0, 0)])
abbrev sn_197 : List se_Nd := [sn_197_0]
set_option maxRecDepth 100000 in
theorem sk_197 : se_chk0 se_tt [] se_Z 37 se_zt sc_197 sn_197 6 = true := by decide +kernel
set_option maxRecDepth 100000 in
theorem sk_197_0 : se_chkn se_tt [] se_Z 37 se_zt sc_197 sn_197 6 sn_197_0 = true := by decide +kernel
theorem sm_197 {ty : Nat → Option Nat} {J : List mm_C → Prop} {kx : Nat} {zs : List mm_Zt} (hO : se_Ok ty J kx zs) : se_Met ty se_tt J kx zs sc_197 := se_sound (C := []) hO.1 hO.2.1 hO.2.2 (fun _ hn => absurd hn List.not_mem_nil) sk_197 (fun n hn => by
  rcases List.mem_cons.mp hn with rfl | hn
  · exact sk_197_0
  exact absurd hn List.not_mem_nil)
/-- RaftTownModel.tie -/
def sc_198 : se_C := ((252, 2), ([(((91, 0, 0), 0, (0, 0, 0), (0, 0, 0)), (0, (0, 0, 0), (0, 0, 0))), (((0, (-2147483648), 2147483647), 0, (0, 0, 0), (0, 0, 0)), (0, (0, 1, 0), (0, 0, 0))), (((0, (-2147483648), 2147483647), 0, (0, 0, 0), (0, 0, 0)), (0, (0, 2, 0), (0, 0, 0))), (((0, (-2147483648), 2147483647), 0, (0, 0, 0), (0, 0, 0)), (0, (0, 3, 0), (0, 0, 0))), (((0, (-2147483648), 2147483647), 0, (0, 0, 0), (0, 0, 0)), (0, (0, 4, 0), (0, 0, 0))), (((0, (-2147483648), 2147483647), 0, (0, 0, 0), (0, 0, 0)), (0, (0, 5, 0), (0, 0, 0)))], [some (1, 0, 0), some (1, 1, 0), some (1, 2, 0), some (1, 3, 0), some (1, 4, 0), some (1, 5, 0)], [], []), [([(((0, (-100008), 11), 0, (0, 0, 0), (0, 0, 0)), (0, (0, 0, 0), (0, 0, 0)))], some (1, 6, 0), [], [])], [(56, 2, 3), (56, 6, 7), (56, 248, 344), (56, 344, 504), (56, 504, 528), (89, 3, 4)])
def sn_198_0 : se_Nd := (139, ([(((91, 0, 0), 0, (0, 0, 0), (0, 0, 0)), (3, (0, 0, 0), (0, 0, 0))), (((0, 0, 9), 0, (0, 0, 0), (0, 0, 0)), (3, (0, 1, 0), (0, 0, 0))), (((0, 0, 3), 0, (0, 0, 0), (0, 0, 0)), (3, (0, 2, 0), (0, 0, 0))), (((0, 0, 9), 0, (0, 0, 0), (0, 0, 0)), (3, (0, 3, 0), (0, 0, 0))), (((0, 0, 3), 0, (0, 0, 0), (0, 0, 0)), (3, (0, 4, 0), (0, 0, 0))), (((0, 1, 99), 0, (0, 0, 0), (0, 0, 0)), (3, (0, 5, 0), (0, 0, 0))), (((0, 0, 12), 0, (0, 0, 0), (0, 0, 0)), (0, (0, 6, 0), (0, 0, 0)))], [some (1, 0, 0), some (1, 1, 0), some (1, 2, 0), some (1, 3, 0), some (1, 4, 0), some (1, 5, 0), some (1, 6, 0), none, none], [], []), [(0, 0, 0), ((-1), 6, 0), (0, 0, 0)])
abbrev sn_198 : List se_Nd := [sn_198_0]
set_option maxRecDepth 100000 in
theorem sk_198 : se_chk0 se_tt [sc_182, sc_183, sc_195, sc_196, sc_197] se_Z 37 se_zt sc_198 sn_198 8 = true := by decide +kernel
set_option maxRecDepth 100000 in
theorem sk_198_0 : se_chkn se_tt [sc_182, sc_183, sc_195, sc_196, sc_197] se_Z 37 se_zt sc_198 sn_198 8 sn_198_0 = true := by decide +kernel
theorem sm_198 {ty : Nat → Option Nat} {J : List mm_C → Prop} {kx : Nat} {zs : List mm_Zt} (hO : se_Ok ty J kx zs) (h182 : se_Met ty se_tt J kx zs sc_182) (h183 : se_Met ty se_tt J kx zs sc_183) (h195 : se_Met ty se_tt J kx zs sc_195) (h196 : se_Met ty se_tt J kx zs sc_196) (h197 : se_Met ty se_tt J kx zs sc_197) : se_Met ty se_tt J kx zs sc_198 := se_sound (C := [sc_182, sc_183, sc_195, sc_196, sc_197]) hO.1 hO.2.1 hO.2.2 (fun n hn => by
  rcases List.mem_cons.mp hn with rfl | hn
  · exact h182
  rcases List.mem_cons.mp hn with rfl | hn
  · exact h183
  rcases List.mem_cons.mp hn with rfl | hn
  · exact h195
  rcases List.mem_cons.mp hn with rfl | hn
  · exact h196
  rcases List.mem_cons.mp hn with rfl | hn
  · exact h197
  exact absurd hn List.not_mem_nil) sk_198 (fun n hn => by
  rcases List.mem_cons.mp hn with rfl | hn
  · exact sk_198_0
  exact absurd hn List.not_mem_nil)
/-- RaftTownModel.weighs -/
def sc_199 : se_C := ((259, 3), ([(((91, 0, 0), 0, (0, 0, 0), (0, 0, 0)), (0, (0, 0, 0), (0, 0, 0)))], [some (1, 0, 0)], [], []), [([], none, [], [])], [(57, 0, 10)])
def sn_199_0 : se_Nd := (2, ([(((91, 0, 0), 0, (0, 0, 0), (0, 0, 0)), (3, (0, 0, 0), (0, 0, 0))), (((0, 0, 10), 0, (0, 0, 0), (0, 0, 0)), (0, (0, 1, 0), (0, 0, 0)))], [some (1, 0, 0), some (1, 1, 0)], [], []), [(0, 0, 0), ((-1), 1, 0), (0, 0, 0)])
abbrev sn_199 : List se_Nd := [sn_199_0]
set_option maxRecDepth 100000 in
theorem sk_199 : se_chk0 se_tt [sc_181] se_Z 37 se_zt sc_199 sn_199 4 = true := by decide +kernel
set_option maxRecDepth 100000 in
theorem sk_199_0 : se_chkn se_tt [sc_181] se_Z 37 se_zt sc_199 sn_199 4 sn_199_0 = true := by decide +kernel
theorem sm_199 {ty : Nat → Option Nat} {J : List mm_C → Prop} {kx : Nat} {zs : List mm_Zt} (hO : se_Ok ty J kx zs) (h181 : se_Met ty se_tt J kx zs sc_181) : se_Met ty se_tt J kx zs sc_199 := se_sound (C := [sc_181]) hO.1 hO.2.1 hO.2.2 (fun n hn => by
  rcases List.mem_cons.mp hn with rfl | hn
  · exact h181
  exact absurd hn List.not_mem_nil) sk_199 (fun n hn => by
  rcases List.mem_cons.mp hn with rfl | hn
  · exact sk_199_0
  exact absurd hn List.not_mem_nil)
/-- RaftTownModel.weightOfAll -/
def sc_200 : se_C := ((261, 1), ([(((91, 0, 0), 0, (0, 0, 0), (0, 0, 0)), (0, (0, 0, 0), (0, 0, 0))), (((0, (-2147483648), 2147483647), 0, (0, 0, 0), (0, 0, 0)), (0, (0, 1, 0), (0, 0, 0)))], [some (1, 0, 0), some (1, 1, 0)], [], []), [([(((0, (-2147483648), 2147483647), 0, (0, 0, 0), (0, 0, 0)), (0, (0, 0, 0), (0, 0, 0)))], some (1, 2, 0), [], [])], [])
def sn_200_0 : se_Nd := (4, ([(((91, 0, 0), 0, (0, 0, 0), (0, 0, 0)), (3, (0, 0, 0), (0, 0, 0))), (((0, (-2147483648), 2147483647), 0, (0, 0, 0), (0, 0, 0)), (3, (0, 1, 0), (0, 0, 0))), (((0, (-2147483648), 2147483647), 0, (0, 0, 0), (0, 0, 0)), (0, (0, 2, 0), (0, 0, 0))), (((0, 0, 10), 0, (0, 0, 0), (0, 0, 0)), (0, (0, 3, 0), (0, 0, 0)))], [some (1, 0, 0), some (1, 1, 0), some (1, 2, 0), some (1, 3, 0)], [], []), [(0, 0, 0), ((-1), 3, 0), (0, 0, 0)])
abbrev sn_200 : List se_Nd := [sn_200_0]
set_option maxRecDepth 100000 in
theorem sk_200 : se_chk0 se_tt [] se_Z 37 se_zt sc_200 sn_200 5 = true := by decide +kernel
set_option maxRecDepth 100000 in
theorem sk_200_0 : se_chkn se_tt [] se_Z 37 se_zt sc_200 sn_200 5 sn_200_0 = true := by decide +kernel
theorem sm_200 {ty : Nat → Option Nat} {J : List mm_C → Prop} {kx : Nat} {zs : List mm_Zt} (hO : se_Ok ty J kx zs) : se_Met ty se_tt J kx zs sc_200 := se_sound (C := []) hO.1 hO.2.1 hO.2.2 (fun _ hn => absurd hn List.not_mem_nil) sk_200 (fun n hn => by
  rcases List.mem_cons.mp hn with rfl | hn
  · exact sk_200_0
  exact absurd hn List.not_mem_nil)
/-- RaftTownModel.hangOf -/
def sc_201 : se_C := ((260, 2), ([(((91, 0, 0), 0, (0, 0, 0), (0, 0, 0)), (0, (0, 0, 0), (0, 0, 0))), (((0, 0, 11), 0, (0, 0, 0), (0, 0, 0)), (0, (0, 1, 0), (0, 0, 0))), (((0, (-2147483648), 2147483647), 0, (0, 0, 0), (0, 0, 0)), (0, (0, 2, 0), (0, 0, 0)))], [some (1, 0, 0), some (1, 1, 0), some (1, 2, 0)], [], []), [([(((0, (-2147483648), 2147483647), 0, (0, 0, 0), (0, 0, 0)), (0, (0, 0, 0), (0, 0, 0)))], some (1, 3, 0), [], [])], [])
abbrev sn_201 : List se_Nd := []
set_option maxRecDepth 100000 in
theorem sk_201 : se_chk0 se_tt [sc_183, sc_200] se_Z 37 se_zt sc_201 sn_201 7 = true := by decide +kernel
theorem sm_201 {ty : Nat → Option Nat} {J : List mm_C → Prop} {kx : Nat} {zs : List mm_Zt} (hO : se_Ok ty J kx zs) (h183 : se_Met ty se_tt J kx zs sc_183) (h200 : se_Met ty se_tt J kx zs sc_200) : se_Met ty se_tt J kx zs sc_201 := se_sound (C := [sc_183, sc_200]) hO.1 hO.2.1 hO.2.2 (fun n hn => by
  rcases List.mem_cons.mp hn with rfl | hn
  · exact h183
  rcases List.mem_cons.mp hn with rfl | hn
  · exact h200
  exact absurd hn List.not_mem_nil) sk_201 (fun _ hn => absurd hn List.not_mem_nil)
/-- RaftTownModel.rope -/
def sc_202 : se_C := ((256, 4), ([(((91, 0, 0), 0, (0, 0, 0), (0, 0, 0)), (0, (0, 0, 0), (0, 0, 0))), (((0, (-2147483648), 2147483647), 0, (0, 0, 0), (0, 0, 0)), (0, (0, 1, 0), (0, 0, 0))), (((0, (-2147483648), 2147483647), 0, (0, 0, 0), (0, 0, 0)), (0, (0, 2, 0), (0, 0, 0)))], [some (1, 0, 0), some (1, 1, 0), some (1, 2, 0)], [], []), [([(((0, (-2147483648), 2147483647), 0, (0, 0, 0), (0, 0, 0)), (0, (0, 0, 0), (0, 0, 0)))], some (1, 3, 0), [], [])], [(57, 0, 10), (89, 3, 4)])
abbrev sn_202 : List se_Nd := []
set_option maxRecDepth 100000 in
theorem sk_202 : se_chk0 se_tt [sc_182, sc_199, sc_201] se_Z 37 se_zt sc_202 sn_202 7 = true := by decide +kernel
theorem sm_202 {ty : Nat → Option Nat} {J : List mm_C → Prop} {kx : Nat} {zs : List mm_Zt} (hO : se_Ok ty J kx zs) (h182 : se_Met ty se_tt J kx zs sc_182) (h199 : se_Met ty se_tt J kx zs sc_199) (h201 : se_Met ty se_tt J kx zs sc_201) : se_Met ty se_tt J kx zs sc_202 := se_sound (C := [sc_182, sc_199, sc_201]) hO.1 hO.2.1 hO.2.2 (fun n hn => by
  rcases List.mem_cons.mp hn with rfl | hn
  · exact h182
  rcases List.mem_cons.mp hn with rfl | hn
  · exact h199
  rcases List.mem_cons.mp hn with rfl | hn
  · exact h201
  exact absurd hn List.not_mem_nil) sk_202 (fun _ hn => absurd hn List.not_mem_nil)
/-- RaftTownModel.loadOf -/
def sc_203 : se_C := ((264, 3), ([(((91, 0, 0), 0, (0, 0, 0), (0, 0, 0)), (0, (0, 0, 0), (0, 0, 0))), (((0, 0, 11), 0, (0, 0, 0), (0, 0, 0)), (0, (0, 1, 0), (0, 0, 0))), (((0, (-2147483648), 2147483647), 0, (0, 0, 0), (0, 0, 0)), (0, (0, 2, 0), (0, 0, 0))), (((0, (-2147483648), 2147483647), 0, (0, 0, 0), (0, 0, 0)), (0, (0, 3, 0), (0, 0, 0)))], [some (1, 0, 0), some (1, 1, 0), some (1, 2, 0), some (1, 3, 0)], [], []), [([(((0, (-2147483648), 2147483647), 0, (0, 0, 0), (0, 0, 0)), (0, (0, 0, 0), (0, 0, 0)))], some (1, 4, 0), [], [])], [])
abbrev sn_203 : List se_Nd := []
set_option maxRecDepth 100000 in
theorem sk_203 : se_chk0 se_tt [sc_201] se_Z 37 se_zt sc_203 sn_203 4 = true := by decide +kernel
theorem sm_203 {ty : Nat → Option Nat} {J : List mm_C → Prop} {kx : Nat} {zs : List mm_Zt} (hO : se_Ok ty J kx zs) (h201 : se_Met ty se_tt J kx zs sc_201) : se_Met ty se_tt J kx zs sc_203 := se_sound (C := [sc_201]) hO.1 hO.2.1 hO.2.2 (fun n hn => by
  rcases List.mem_cons.mp hn with rfl | hn
  · exact h201
  exact absurd hn List.not_mem_nil) sk_203 (fun _ hn => absurd hn List.not_mem_nil)
/-- RaftTownModel.bears -/
def sc_204 : se_C := ((262, 4), ([(((91, 0, 0), 0, (0, 0, 0), (0, 0, 0)), (0, (0, 0, 0), (0, 0, 0))), (((0, (-2147483648), 2147483647), 0, (0, 0, 0), (0, 0, 0)), (0, (0, 1, 0), (0, 0, 0))), (((0, (-2147483648), 2147483647), 0, (0, 0, 0), (0, 0, 0)), (0, (0, 2, 0), (0, 0, 0)))], [some (1, 0, 0), some (1, 1, 0), some (1, 2, 0)], [], []), [([(((0, (-2147483648), 2147483647), 0, (0, 0, 0), (0, 0, 0)), (0, (0, 0, 0), (0, 0, 0)))], some (1, 3, 0), [], [])], [(57, 0, 10), (89, 3, 4)])
abbrev sn_204 : List se_Nd := []
set_option maxRecDepth 100000 in
theorem sk_204 : se_chk0 se_tt [sc_182, sc_199, sc_203] se_Z 37 se_zt sc_204 sn_204 7 = true := by decide +kernel
theorem sm_204 {ty : Nat → Option Nat} {J : List mm_C → Prop} {kx : Nat} {zs : List mm_Zt} (hO : se_Ok ty J kx zs) (h182 : se_Met ty se_tt J kx zs sc_182) (h199 : se_Met ty se_tt J kx zs sc_199) (h203 : se_Met ty se_tt J kx zs sc_203) : se_Met ty se_tt J kx zs sc_204 := se_sound (C := [sc_182, sc_199, sc_203]) hO.1 hO.2.1 hO.2.2 (fun n hn => by
  rcases List.mem_cons.mp hn with rfl | hn
  · exact h182
  rcases List.mem_cons.mp hn with rfl | hn
  · exact h199
  rcases List.mem_cons.mp hn with rfl | hn
  · exact h203
  exact absurd hn List.not_mem_nil) sk_204 (fun _ hn => absurd hn List.not_mem_nil)
/-- RaftTownModel.partsFirst -/
def sc_205 : se_C := ((266, 4), ([(((91, 0, 0), 0, (0, 0, 0), (0, 0, 0)), (0, (0, 0, 0), (0, 0, 0))), (((0, 0, 4095), 0, (0, 0, 0), (0, 0, 0)), (0, (0, 1, 0), (0, 0, 0))), (((0, (-2147483648), 2147483647), 0, (0, 0, 0), (0, 0, 0)), (0, (0, 2, 0), (0, 0, 0)))], [some (1, 0, 0), some (1, 1, 0), some (1, 2, 0)], [], []), [([], some (0, 0, (-1)), [], []), ([(((0, 0, 11), 0, (0, 0, 0), (0, 0, 0)), (0, (0, 0, 0), (0, 0, 0))), (((0, (-2147483648), 2147483647), 8, (1, 1, 0), (1, 3, 0)), (2, (0, 0, 0), (0, 0, 0))), (((0, 1, 1), 4, (1, 4, 0), (0, 0, 1)), (2, (0, 0, 0), (0, 0, 0)))], some (1, 3, 0), [], [])], [])
def sn_205_0 : se_Nd := (8, ([(((91, 0, 0), 0, (0, 0, 0), (0, 0, 0)), (3, (0, 0, 0), (0, 0, 0))), (((0, 0, 4095), 0, (0, 0, 0), (0, 0, 0)), (3, (0, 1, 0), (0, 0, 0))), (((0, (-2147483648), 2147483647), 0, (0, 0, 0), (0, 0, 0)), (3, (0, 2, 0), (0, 0, 0))), (((0, 0, 12), 0, (0, 0, 0), (0, 0, 0)), (0, (0, 5, 0), (0, 0, 0)))], [some (1, 0, 0), some (1, 1, 0), some (1, 2, 0), some (0, 0, (-1)), some (0, 0, 0), some (1, 3, 0), none], [], []), [(0, 0, 1), ((-1), 3, 0), (0, 0, 0)])
def sn_205_1 : se_Nd := (8, ([(((91, 0, 0), 0, (0, 0, 0), (0, 0, 0)), (3, (0, 0, 0), (0, 0, 0))), (((0, 0, 4095), 0, (0, 0, 0), (0, 0, 0)), (3, (0, 1, 0), (0, 0, 0))), (((0, (-2147483648), 2147483647), 0, (0, 0, 0), (0, 0, 0)), (3, (0, 2, 0), (0, 0, 0))), (((0, 0, 11), 0, (0, 0, 0), (0, 0, 0)), (0, (0, 3, 0), (0, 0, 0))), (((0, 1, 2147483647), 0, (0, 0, 0), (0, 0, 0)), (0, (0, 4, 0), (0, 0, 0))), (((0, 1, 12), 0, (0, 0, 0), (0, 0, 0)), (0, (0, 5, 0), (0, 0, 0))), (((0, (-2147483648), 2147483647), 0, (0, 0, 0), (0, 0, 0)), (0, (0, 6, 0), (0, 0, 0))), (((0, 0, 4095), 8, (1, 1, 0), (1, 3, 0)), (2, (0, 0, 0), (0, 0, 0))), (((0, 1, 1), 4, (1, 7, 0), (0, 0, 1)), (2, (0, 0, 0), (0, 0, 0)))], [some (1, 0, 0), some (1, 1, 0), some (1, 2, 0), some (1, 3, 0), some (1, 4, 0), some (1, 5, 0), some (1, 6, 0)], [], []), [(0, 0, 0), ((-1), 5, 0), (0, 0, 0)])
abbrev sn_205 : List se_Nd := [sn_205_0, sn_205_1]
set_option maxRecDepth 100000 in
theorem sk_205 : se_chk0 se_tt [sc_203] se_Z 37 se_zt sc_205 sn_205 7 = true := by decide +kernel
set_option maxRecDepth 100000 in
theorem sk_205_0 : se_chkn se_tt [sc_203] se_Z 37 se_zt sc_205 sn_205 7 sn_205_0 = true := by decide +kernel
set_option maxRecDepth 100000 in
theorem sk_205_1 : se_chkn se_tt [sc_203] se_Z 37 se_zt sc_205 sn_205 7 sn_205_1 = true := by decide +kernel
theorem sm_205 {ty : Nat → Option Nat} {J : List mm_C → Prop} {kx : Nat} {zs : List mm_Zt} (hO : se_Ok ty J kx zs) (h203 : se_Met ty se_tt J kx zs sc_203) : se_Met ty se_tt J kx zs sc_205 := se_sound (C := [sc_203]) hO.1 hO.2.1 hO.2.2 (fun n hn => by
  rcases List.mem_cons.mp hn with rfl | hn
  · exact h203
  exact absurd hn List.not_mem_nil) sk_205 (fun n hn => by
  rcases List.mem_cons.mp hn with rfl | hn
  · exact sk_205_0
  rcases List.mem_cons.mp hn with rfl | hn
  · exact sk_205_1
  exact absurd hn List.not_mem_nil)
/-- RaftTownModel.worst -/
def sc_206 : se_C := ((265, 5), ([(((91, 0, 0), 0, (0, 0, 0), (0, 0, 0)), (0, (0, 0, 0), (0, 0, 0))), (((0, (-2147483648), 2147483647), 0, (0, 0, 0), (0, 0, 0)), (0, (0, 1, 0), (0, 0, 0))), (((0, (-2147483648), 2147483647), 0, (0, 0, 0), (0, 0, 0)), (0, (0, 2, 0), (0, 0, 0)))], [some (1, 0, 0), some (1, 1, 0), some (1, 2, 0)], [], []), [([(((0, (-2147483648), 2147483647), 0, (0, 0, 0), (0, 0, 0)), (0, (0, 0, 0), (0, 0, 0)))], some (1, 3, 0), [], [])], [(57, 0, 10), (89, 3, 4)])
def sn_206_0 : se_Nd := (39, ([(((91, 0, 0), 0, (0, 0, 0), (0, 0, 0)), (3, (0, 0, 0), (0, 0, 0))), (((0, 0, 20), 0, (0, 0, 0), (0, 0, 0)), (3, (0, 1, 0), (0, 0, 0))), (((0, (-1), 2147483647), 0, (0, 0, 0), (0, 0, 0)), (3, (0, 2, 0), (0, 0, 0))), (((0, 0, 4095), 0, (0, 0, 0), (0, 0, 0)), (0, (0, 3, 0), (0, 0, 0))), (((0, (-2147483648), 2147483647), 0, (0, 0, 0), (0, 0, 0)), (0, (0, 4, 0), (0, 0, 0)))], [some (1, 0, 0), some (1, 1, 0), some (1, 2, 0), some (1, 3, 0), some (1, 4, 0), some (0, 0, (-1))], [], []), [(0, 0, 0)])
def sn_206_1 : se_Nd := (39, ([(((91, 0, 0), 0, (0, 0, 0), (0, 0, 0)), (3, (0, 0, 0), (0, 0, 0))), (((0, 0, 20), 0, (0, 0, 0), (0, 0, 0)), (3, (0, 1, 0), (0, 0, 0))), (((0, (-1), 2147483647), 0, (0, 0, 0), (0, 0, 0)), (3, (0, 2, 0), (0, 0, 0))), (((0, 0, 4095), 0, (0, 0, 0), (0, 0, 0)), (0, (0, 3, 0), (0, 0, 0))), (((0, (-2147483648), 2147483647), 0, (0, 0, 0), (0, 0, 0)), (0, (0, 4, 0), (0, 0, 0))), (((0, 0, 11), 0, (0, 0, 0), (0, 0, 0)), (0, (0, 5, 0), (0, 0, 0))), (((0, (-2147483648), 2147483647), 8, (1, 3, 0), (1, 5, 0)), (2, (0, 0, 0), (0, 0, 0))), (((0, 1, 1), 4, (1, 6, 0), (0, 0, 1)), (2, (0, 0, 0), (0, 0, 0)))], [some (1, 0, 0), some (1, 1, 0), some (1, 2, 0), some (1, 3, 0), some (1, 4, 0), some (1, 5, 0)], [], []), [(0, 0, 1), (1, 3, 0), (0, 0, 0)])
abbrev sn_206 : List se_Nd := [sn_206_0, sn_206_1]
set_option maxRecDepth 100000 in
theorem sk_206 : se_chk0 se_tt [sc_182, sc_199, sc_205] se_Z 37 se_zt sc_206 sn_206 6 = true := by decide +kernel
set_option maxRecDepth 100000 in
theorem sk_206_0 : se_chkn se_tt [sc_182, sc_199, sc_205] se_Z 37 se_zt sc_206 sn_206 6 sn_206_0 = true := by decide +kernel
set_option maxRecDepth 100000 in
theorem sk_206_1 : se_chkn se_tt [sc_182, sc_199, sc_205] se_Z 37 se_zt sc_206 sn_206 6 sn_206_1 = true := by decide +kernel
theorem sm_206 {ty : Nat → Option Nat} {J : List mm_C → Prop} {kx : Nat} {zs : List mm_Zt} (hO : se_Ok ty J kx zs) (h182 : se_Met ty se_tt J kx zs sc_182) (h199 : se_Met ty se_tt J kx zs sc_199) (h205 : se_Met ty se_tt J kx zs sc_205) : se_Met ty se_tt J kx zs sc_206 := se_sound (C := [sc_182, sc_199, sc_205]) hO.1 hO.2.1 hO.2.2 (fun n hn => by
  rcases List.mem_cons.mp hn with rfl | hn
  · exact h182
  rcases List.mem_cons.mp hn with rfl | hn
  · exact h199
  rcases List.mem_cons.mp hn with rfl | hn
  · exact h205
  exact absurd hn List.not_mem_nil) sk_206 (fun n hn => by
  rcases List.mem_cons.mp hn with rfl | hn
  · exact sk_206_0
  rcases List.mem_cons.mp hn with rfl | hn
  · exact sk_206_1
  exact absurd hn List.not_mem_nil)
/-- RaftTownModel.events -/
def sc_207 : se_C := ((267, 1), ([(((91, 0, 0), 0, (0, 0, 0), (0, 0, 0)), (0, (0, 0, 0), (0, 0, 0))), (((0, (-2147483648), 2147483647), 0, (0, 0, 0), (0, 0, 0)), (0, (0, 1, 0), (0, 0, 0)))], [some (1, 0, 0), some (1, 1, 0)], [], []), [([(((0, (-2147483648), 2147483647), 0, (0, 0, 0), (0, 0, 0)), (0, (0, 0, 0), (0, 0, 0)))], some (1, 2, 0), [], [])], [(89, 3, 4)])
def sn_207_0 : se_Nd := (36, ([(((91, 0, 0), 0, (0, 0, 0), (0, 0, 0)), (3, (0, 0, 0), (0, 0, 0))), (((0, 0, 9), 0, (0, 0, 0), (0, 0, 0)), (3, (0, 1, 0), (0, 0, 0))), (((0, (-2147483648), 2147483647), 0, (0, 0, 0), (0, 0, 0)), (0, (0, 2, 0), (0, 0, 0))), (((0, 0, 40), 0, (0, 0, 0), (0, 0, 0)), (0, (0, 3, 0), (0, 0, 0)))], [some (1, 0, 0), some (1, 1, 0), some (1, 2, 0), some (1, 3, 0)], [], []), [(0, 0, 0), ((-1), 3, 0), (0, 0, 0)])
abbrev sn_207 : List se_Nd := [sn_207_0]
set_option maxRecDepth 100000 in
theorem sk_207 : se_chk0 se_tt [] se_Z 37 se_zt sc_207 sn_207 6 = true := by decide +kernel
set_option maxRecDepth 100000 in
theorem sk_207_0 : se_chkn se_tt [] se_Z 37 se_zt sc_207 sn_207 6 sn_207_0 = true := by decide +kernel
theorem sm_207 {ty : Nat → Option Nat} {J : List mm_C → Prop} {kx : Nat} {zs : List mm_Zt} (hO : se_Ok ty J kx zs) : se_Met ty se_tt J kx zs sc_207 := se_sound (C := []) hO.1 hO.2.1 hO.2.2 (fun _ hn => absurd hn List.not_mem_nil) sk_207 (fun n hn => by
  rcases List.mem_cons.mp hn with rfl | hn
  · exact sk_207_0
  exact absurd hn List.not_mem_nil)
/-- RaftTownModel.event -/
def sc_208 : se_C := ((268, 1), ([(((91, 0, 0), 0, (0, 0, 0), (0, 0, 0)), (0, (0, 0, 0), (0, 0, 0))), (((0, (-2147483648), 2147483647), 0, (0, 0, 0), (0, 0, 0)), (0, (0, 1, 0), (0, 0, 0))), (((0, (-2147483648), 2147483647), 0, (0, 0, 0), (0, 0, 0)), (0, (0, 2, 0), (0, 0, 0)))], [some (1, 0, 0), some (1, 1, 0), some (1, 2, 0)], [], []), [([(((0, (-2147483648), 2147483647), 0, (0, 0, 0), (0, 0, 0)), (0, (0, 0, 0), (0, 0, 0)))], some (1, 3, 0), [], [])], [(89, 3, 4)])
abbrev sn_208 : List se_Nd := []
set_option maxRecDepth 100000 in
theorem sk_208 : se_chk0 se_tt [] se_Z 37 se_zt sc_208 sn_208 6 = true := by decide +kernel
theorem sm_208 {ty : Nat → Option Nat} {J : List mm_C → Prop} {kx : Nat} {zs : List mm_Zt} (hO : se_Ok ty J kx zs) : se_Met ty se_tt J kx zs sc_208 := se_sound (C := []) hO.1 hO.2.1 hO.2.2 (fun _ hn => absurd hn List.not_mem_nil) sk_208 (fun _ hn => absurd hn List.not_mem_nil)
/-- RaftTownModel.partsAll -/
def sc_209 : se_C := ((271, 5), ([(((91, 0, 0), 0, (0, 0, 0), (0, 0, 0)), (0, (0, 0, 0), (0, 0, 0))), (((0, (-2147483648), 2147483647), 0, (0, 0, 0), (0, 0, 0)), (0, (0, 1, 0), (0, 0, 0)))], [some (1, 0, 0), some (1, 1, 0)], [], []), [([(((0, (-2147483648), 2147483647), 0, (0, 0, 0), (0, 0, 0)), (0, (0, 0, 0), (0, 0, 0)))], some (1, 2, 0), [], [])], [(56, 6, 7), (56, 248, 344), (56, 344, 504), (57, 0, 10)])
def sn_209_0 : se_Nd := (19, ([(((91, 0, 0), 0, (0, 0, 0), (0, 0, 0)), (3, (0, 0, 0), (0, 0, 0))), (((0, (-2147483648), 2147483647), 0, (0, 0, 0), (0, 0, 0)), (3, (0, 1, 0), (0, 0, 0))), (((0, 0, 4095), 0, (0, 0, 0), (0, 0, 0)), (0, (0, 2, 0), (0, 0, 0))), (((0, (-2147483648), 2147483647), 0, (0, 0, 0), (0, 0, 0)), (0, (0, 3, 0), (0, 0, 0)))], [some (1, 0, 0), some (1, 1, 0), some (1, 2, 0), some (1, 3, 0), some (0, 0, (-1))], [], []), [(0, 0, 0)])
def sn_209_1 : se_Nd := (19, ([(((91, 0, 0), 0, (0, 0, 0), (0, 0, 0)), (3, (0, 0, 0), (0, 0, 0))), (((0, (-2147483648), 2147483647), 0, (0, 0, 0), (0, 0, 0)), (3, (0, 1, 0), (0, 0, 0))), (((0, 0, 4095), 0, (0, 0, 0), (0, 0, 0)), (0, (0, 2, 0), (0, 0, 0))), (((0, (-2147483648), 2147483647), 0, (0, 0, 0), (0, 0, 0)), (0, (0, 3, 0), (0, 0, 0))), (((0, 0, 11), 0, (0, 0, 0), (0, 0, 0)), (0, (0, 4, 0), (0, 0, 0))), (((0, (-2147483648), 2147483647), 8, (1, 2, 0), (1, 4, 0)), (2, (0, 0, 0), (0, 0, 0))), (((0, 1, 1), 4, (1, 5, 0), (0, 0, 1)), (2, (0, 0, 0), (0, 0, 0)))], [some (1, 0, 0), some (1, 1, 0), some (1, 2, 0), some (1, 3, 0), some (1, 4, 0)], [], []), [(0, 0, 1), (1, 2, 0), (0, 0, 0)])
abbrev sn_209 : List se_Nd := [sn_209_0, sn_209_1]
set_option maxRecDepth 100000 in
theorem sk_209 : se_chk0 se_tt [sc_182, sc_183, sc_197, sc_199, sc_205] se_Z 37 se_zt sc_209 sn_209 6 = true := by decide +kernel
set_option maxRecDepth 100000 in
theorem sk_209_0 : se_chkn se_tt [sc_182, sc_183, sc_197, sc_199, sc_205] se_Z 37 se_zt sc_209 sn_209 6 sn_209_0 = true := by decide +kernel
set_option maxRecDepth 100000 in
theorem sk_209_1 : se_chkn se_tt [sc_182, sc_183, sc_197, sc_199, sc_205] se_Z 37 se_zt sc_209 sn_209 6 sn_209_1 = true := by decide +kernel
theorem sm_209 {ty : Nat → Option Nat} {J : List mm_C → Prop} {kx : Nat} {zs : List mm_Zt} (hO : se_Ok ty J kx zs) (h182 : se_Met ty se_tt J kx zs sc_182) (h183 : se_Met ty se_tt J kx zs sc_183) (h197 : se_Met ty se_tt J kx zs sc_197) (h199 : se_Met ty se_tt J kx zs sc_199) (h205 : se_Met ty se_tt J kx zs sc_205) : se_Met ty se_tt J kx zs sc_209 := se_sound (C := [sc_182, sc_183, sc_197, sc_199, sc_205]) hO.1 hO.2.1 hO.2.2 (fun n hn => by
  rcases List.mem_cons.mp hn with rfl | hn
  · exact h182
  rcases List.mem_cons.mp hn with rfl | hn
  · exact h183
  rcases List.mem_cons.mp hn with rfl | hn
  · exact h197
  rcases List.mem_cons.mp hn with rfl | hn
  · exact h199
  rcases List.mem_cons.mp hn with rfl | hn
  · exact h205
  exact absurd hn List.not_mem_nil) sk_209 (fun n hn => by
  rcases List.mem_cons.mp hn with rfl | hn
  · exact sk_209_0
  rcases List.mem_cons.mp hn with rfl | hn
  · exact sk_209_1
  exact absurd hn List.not_mem_nil)
