/-! ===== printed by wip/p2/gen_tab.py: contracts and their checks ===== -/
/-- RaftTownModel.lash -/
def sc_240 : se_C := ((313, 5), ([(((91, 0, 0), 0, (0, 0, 0), (0, 0, 0)), (0, (0, 0, 0), (0, 0, 0))), (((0, (-2147483648), 2147483647), 0, (0, 0, 0), (0, 0, 0)), (0, (0, 1, 0), (0, 0, 0))), (((0, (-2147483648), 2147483647), 0, (0, 0, 0), (0, 0, 0)), (0, (0, 2, 0), (0, 0, 0)))], [some (1, 0, 0), some (1, 1, 0), some (1, 2, 0)], [], []), [([(((0, (-100006), 4095), 0, (0, 0, 0), (0, 0, 0)), (0, (0, 0, 0), (0, 0, 0)))], some (1, 3, 0), [], [])], [(57, 0, 10), (89, 3, 4)])
def sn_240_0 : se_Nd := (53, ([(((91, 0, 0), 0, (0, 0, 0), (0, 0, 0)), (3, (0, 0, 0), (0, 0, 0))), (((0, 0, 9), 0, (0, 0, 0), (0, 0, 0)), (3, (0, 1, 0), (0, 0, 0))), (((0, 0, 20), 0, (0, 0, 0), (0, 0, 0)), (3, (0, 2, 0), (0, 0, 0))), (((0, 1, 1023), 0, (0, 0, 0), (0, 0, 0)), (0, (0, 3, 0), (0, 0, 0))), (((0, 0, 4095), 0, (0, 0, 0), (0, 0, 0)), (0, (0, 4, 0), (0, 0, 0))), (((0, 0, 12), 0, (0, 0, 0), (0, 0, 0)), (0, (0, 5, 0), (0, 0, 0)))], [some (1, 0, 0), some (1, 1, 0), some (1, 2, 0), some (1, 3, 0), some (1, 4, 0), some (1, 5, 0), none], [], []), [(0, 0, 1), ((-1), 5, 0), (0, 0, 0)])
def sn_240_1 : se_Nd := (117, ([(((91, 0, 0), 0, (0, 0, 0), (0, 0, 0)), (3, (0, 0, 0), (0, 0, 0))), (((0, 0, 9), 0, (0, 0, 0), (0, 0, 0)), (3, (0, 1, 0), (0, 0, 0))), (((0, 0, 20), 0, (0, 0, 0), (0, 0, 0)), (3, (0, 2, 0), (0, 0, 0))), (((0, 1, 1023), 0, (0, 0, 0), (0, 0, 0)), (0, (0, 3, 0), (0, 0, 0))), (((0, 0, 4095), 0, (0, 0, 0), (0, 0, 0)), (0, (0, 4, 0), (0, 0, 0))), (((0, (-1), 4095), 0, (0, 0, 0), (0, 0, 0)), (0, (0, 5, 0), (0, 0, 0))), (((0, 0, 4096), 0, (0, 0, 0), (0, 0, 0)), (0, (0, 6, 0), (0, 0, 0)))], [some (1, 0, 0), some (1, 1, 0), some (1, 2, 0), some (1, 3, 0), some (1, 4, 0), some (1, 5, 0), some (1, 6, 0)], [], []), [(0, 0, 0), ((-1), 6, 0), (0, 0, 0)])
abbrev sn_240 : List se_Nd := [sn_240_0, sn_240_1]
set_option maxRecDepth 100000 in
theorem sk_240 : se_chk0 se_tt [sc_182, sc_183, sc_199, sc_205, sc_239] se_Z 37 se_zt sc_240 sn_240 7 = true := by decide +kernel
set_option maxRecDepth 100000 in
theorem sk_240_0 : se_chkn se_tt [sc_182, sc_183, sc_199, sc_205, sc_239] se_Z 37 se_zt sc_240 sn_240 7 sn_240_0 = true := by decide +kernel
set_option maxRecDepth 100000 in
theorem sk_240_1 : se_chkn se_tt [sc_182, sc_183, sc_199, sc_205, sc_239] se_Z 37 se_zt sc_240 sn_240 7 sn_240_1 = true := by decide +kernel
theorem sm_240 {ty : Nat → Option Nat} {J : List mm_C → Prop} {kx : Nat} {zs : List mm_Zt} (hO : se_Ok ty J kx zs) (h182 : se_Met ty se_tt J kx zs sc_182) (h183 : se_Met ty se_tt J kx zs sc_183) (h199 : se_Met ty se_tt J kx zs sc_199) (h205 : se_Met ty se_tt J kx zs sc_205) (h239 : se_Met ty se_tt J kx zs sc_239) : se_Met ty se_tt J kx zs sc_240 := se_sound (C := [sc_182, sc_183, sc_199, sc_205, sc_239]) hO.1 hO.2.1 hO.2.2 (fun n hn => by
  rcases List.mem_cons.mp hn with rfl | hn
  · exact h182
  rcases List.mem_cons.mp hn with rfl | hn
  · exact h183
  rcases List.mem_cons.mp hn with rfl | hn
  · exact h199
  rcases List.mem_cons.mp hn with rfl | hn
  · exact h205
  rcases List.mem_cons.mp hn with rfl | hn
  · exact h239
  exact absurd hn List.not_mem_nil) sk_240 (fun n hn => by
  rcases List.mem_cons.mp hn with rfl | hn
  · exact sk_240_0
  rcases List.mem_cons.mp hn with rfl | hn
  · exact sk_240_1
  exact absurd hn List.not_mem_nil)
/-- RaftTownModel.lostBy -/
def sc_241 : se_C := ((317, 5), ([(((91, 0, 0), 0, (0, 0, 0), (0, 0, 0)), (0, (0, 0, 0), (0, 0, 0))), (((0, 0, 4095), 0, (0, 0, 0), (0, 0, 0)), (0, (0, 1, 0), (0, 0, 0))), (((0, (-2147483648), 2147483647), 0, (0, 0, 0), (0, 0, 0)), (0, (0, 2, 0), (0, 0, 0)))], [some (1, 0, 0), some (1, 1, 0), some (1, 2, 0)], [], []), [([(((0, (-2147483648), 2147483647), 0, (0, 0, 0), (0, 0, 0)), (0, (0, 0, 0), (0, 0, 0)))], some (1, 3, 0), [], [])], [(65, 0, 4096)])
def sn_241_0 : se_Nd := (5, ([(((91, 0, 0), 0, (0, 0, 0), (0, 0, 0)), (3, (0, 0, 0), (0, 0, 0))), (((0, 0, 4095), 0, (0, 0, 0), (0, 0, 0)), (3, (0, 1, 0), (0, 0, 0))), (((0, (-2147483648), 2147483647), 0, (0, 0, 0), (0, 0, 0)), (3, (0, 2, 0), (0, 0, 0))), (((0, 0, 4095), 0, (0, 0, 0), (0, 0, 0)), (0, (0, 3, 0), (0, 0, 0))), (((0, (-2147483648), 2147483647), 0, (0, 0, 0), (0, 0, 0)), (0, (0, 4, 0), (0, 0, 0))), (((67, 0, 0), 0, (0, 0, 0), (0, 0, 0)), (1, (1, 0, 0), (0, 0, 19))), (((0, 0, 0), 0, (0, 0, 0), (0, 0, 0)), (1, (1, 5, 0), (1, 3, 0)))], [some (1, 0, 0), some (1, 1, 0), some (1, 2, 0), some (1, 3, 0), some (1, 4, 0), some (0, 0, (-1))], [((1, 0, 0), (0, 0, 19), (1, 5, 0)), ((1, 5, 0), (1, 3, 0), (1, 6, 0))], []), [(0, 0, 0)])
def sn_241_1 : se_Nd := (5, ([(((91, 0, 0), 0, (0, 0, 0), (0, 0, 0)), (3, (0, 0, 0), (0, 0, 0))), (((0, 0, 4095), 0, (0, 0, 0), (0, 0, 0)), (3, (0, 1, 0), (0, 0, 0))), (((0, (-2147483648), 2147483647), 0, (0, 0, 0), (0, 0, 0)), (3, (0, 2, 0), (0, 0, 0))), (((0, 0, 4095), 0, (0, 0, 0), (0, 0, 0)), (0, (0, 3, 0), (0, 0, 0))), (((0, (-2147483648), 2147483647), 0, (0, 0, 0), (0, 0, 0)), (0, (0, 4, 0), (0, 0, 0)))], [some (1, 0, 0), some (1, 1, 0), some (1, 2, 0), some (1, 3, 0), some (1, 4, 0), none], [], []), [(0, 0, 1), (1, 3, 0), (0, 0, 0)])
abbrev sn_241 : List se_Nd := [sn_241_0, sn_241_1]
set_option maxRecDepth 100000 in
theorem sk_241 : se_chk0 se_tt [sc_205] se_Z 37 se_zt sc_241 sn_241 5 = true := by decide +kernel
set_option maxRecDepth 100000 in
theorem sk_241_0 : se_chkn se_tt [sc_205] se_Z 37 se_zt sc_241 sn_241 5 sn_241_0 = true := by decide +kernel
set_option maxRecDepth 100000 in
theorem sk_241_1 : se_chkn se_tt [sc_205] se_Z 37 se_zt sc_241 sn_241 5 sn_241_1 = true := by decide +kernel
theorem sm_241 {ty : Nat → Option Nat} {J : List mm_C → Prop} {kx : Nat} {zs : List mm_Zt} (hO : se_Ok ty J kx zs) (h205 : se_Met ty se_tt J kx zs sc_205) : se_Met ty se_tt J kx zs sc_241 := se_sound (C := [sc_205]) hO.1 hO.2.1 hO.2.2 (fun n hn => by
  rcases List.mem_cons.mp hn with rfl | hn
  · exact h205
  exact absurd hn List.not_mem_nil) sk_241 (fun n hn => by
  rcases List.mem_cons.mp hn with rfl | hn
  · exact sk_241_0
  rcases List.mem_cons.mp hn with rfl | hn
  · exact sk_241_1
  exact absurd hn List.not_mem_nil)
/-- RaftTownModel.storm -/
def sc_242 : se_C := ((316, 6), ([(((91, 0, 0), 0, (0, 0, 0), (0, 0, 0)), (0, (0, 0, 0), (0, 0, 0))), (((0, (-2147483648), 2147483647), 0, (0, 0, 0), (0, 0, 0)), (0, (0, 1, 0), (0, 0, 0))), (((0, 0, 1), 0, (0, 0, 0), (0, 0, 0)), (0, (0, 2, 0), (0, 0, 0)))], [some (1, 0, 0), some (1, 1, 0), some (1, 2, 0)], [], []), [([(((0, (-2147483648), 4095), 0, (0, 0, 0), (0, 0, 0)), (0, (0, 0, 0), (0, 0, 0)))], some (1, 3, 0), [], [])], [(57, 0, 10), (65, 0, 4096), (89, 3, 4)])
def sn_242_0 : se_Nd := (26, ([(((91, 0, 0), 0, (0, 0, 0), (0, 0, 0)), (3, (0, 0, 0), (0, 0, 0))), (((0, 0, 20), 0, (0, 0, 0), (0, 0, 0)), (3, (0, 1, 0), (0, 0, 0))), (((0, 0, 1), 0, (0, 0, 0), (0, 0, 0)), (3, (0, 2, 0), (0, 0, 0))), (((0, 0, 4095), 0, (0, 0, 0), (0, 0, 0)), (0, (0, 3, 0), (0, 0, 0))), (((0, 0, 4096), 0, (0, 0, 0), (0, 0, 0)), (0, (0, 4, 0), (0, 0, 0)))], [some (1, 0, 0), some (1, 1, 0), some (1, 2, 0), some (1, 3, 0), some (1, 4, 0), none, none, none], [], []), [(0, 0, 1), ((-1), 4, 0), (0, 0, 0)])
def sn_242_1 : se_Nd := (58, ([(((91, 0, 0), 0, (0, 0, 0), (0, 0, 0)), (3, (0, 0, 0), (0, 0, 0))), (((0, 0, 20), 0, (0, 0, 0), (0, 0, 0)), (3, (0, 1, 0), (0, 0, 0))), (((0, 0, 1), 0, (0, 0, 0), (0, 0, 0)), (3, (0, 2, 0), (0, 0, 0))), (((0, 0, 4095), 0, (0, 0, 0), (0, 0, 0)), (0, (0, 3, 0), (0, 0, 0))), (((0, 0, 4095), 0, (0, 0, 0), (0, 0, 0)), (0, (0, 4, 0), (0, 0, 0))), (((0, (-2147483648), 100), 0, (0, 0, 0), (0, 0, 0)), (0, (0, 5, 0), (0, 0, 0))), (((0, 0, 4096), 0, (0, 0, 0), (0, 0, 0)), (0, (0, 6, 0), (0, 0, 0)))], [some (1, 0, 0), some (1, 1, 0), some (1, 2, 0), some (1, 3, 0), some (1, 4, 0), some (1, 5, 0), some (1, 6, 0), none], [], []), [(0, 0, 0), ((-1), 6, 0), (0, 0, 0)])
abbrev sn_242 : List se_Nd := [sn_242_0, sn_242_1]
set_option maxRecDepth 100000 in
theorem sk_242 : se_chk0 se_tt [sc_182, sc_199, sc_239, sc_241] se_Z 37 se_zt sc_242 sn_242 6 = true := by decide +kernel
set_option maxRecDepth 100000 in
theorem sk_242_0 : se_chkn se_tt [sc_182, sc_199, sc_239, sc_241] se_Z 37 se_zt sc_242 sn_242 6 sn_242_0 = true := by decide +kernel
set_option maxRecDepth 100000 in
theorem sk_242_1 : se_chkn se_tt [sc_182, sc_199, sc_239, sc_241] se_Z 37 se_zt sc_242 sn_242 6 sn_242_1 = true := by decide +kernel
theorem sm_242 {ty : Nat → Option Nat} {J : List mm_C → Prop} {kx : Nat} {zs : List mm_Zt} (hO : se_Ok ty J kx zs) (h182 : se_Met ty se_tt J kx zs sc_182) (h199 : se_Met ty se_tt J kx zs sc_199) (h239 : se_Met ty se_tt J kx zs sc_239) (h241 : se_Met ty se_tt J kx zs sc_241) : se_Met ty se_tt J kx zs sc_242 := se_sound (C := [sc_182, sc_199, sc_239, sc_241]) hO.1 hO.2.1 hO.2.2 (fun n hn => by
  rcases List.mem_cons.mp hn with rfl | hn
  · exact h182
  rcases List.mem_cons.mp hn with rfl | hn
  · exact h199
  rcases List.mem_cons.mp hn with rfl | hn
  · exact h239
  rcases List.mem_cons.mp hn with rfl | hn
  · exact h241
  exact absurd hn List.not_mem_nil) sk_242 (fun n hn => by
  rcases List.mem_cons.mp hn with rfl | hn
  · exact sk_242_0
  rcases List.mem_cons.mp hn with rfl | hn
  · exact sk_242_1
  exact absurd hn List.not_mem_nil)
/-- RaftTownModel.proves -/
def sc_243 : se_C := ((318, 4), ([(((91, 0, 0), 0, (0, 0, 0), (0, 0, 0)), (0, (0, 0, 0), (0, 0, 0))), (((0, (-2147483648), 2147483647), 0, (0, 0, 0), (0, 0, 0)), (0, (0, 1, 0), (0, 0, 0))), (((0, (-2147483648), 2147483647), 0, (0, 0, 0), (0, 0, 0)), (0, (0, 2, 0), (0, 0, 0))), (((0, (-2147483648), 2147483647), 0, (0, 0, 0), (0, 0, 0)), (0, (0, 3, 0), (0, 0, 0)))], [some (1, 0, 0), some (1, 1, 0), some (1, 2, 0), some (1, 3, 0)], [], []), [([(((0, (-2147483648), 2147483647), 0, (0, 0, 0), (0, 0, 0)), (0, (0, 0, 0), (0, 0, 0)))], some (1, 4, 0), [], [])], [(57, 0, 10), (89, 3, 4)])
def sn_243_0 : se_Nd := (84, ([(((91, 0, 0), 0, (0, 0, 0), (0, 0, 0)), (3, (0, 0, 0), (0, 0, 0))), (((0, 0, 2147483647), 0, (0, 0, 0), (0, 0, 0)), (3, (0, 1, 0), (0, 0, 0))), (((0, 0, 20), 0, (0, 0, 0), (0, 0, 0)), (3, (0, 2, 0), (0, 0, 0))), (((0, 0, 3), 0, (0, 0, 0), (0, 0, 0)), (3, (0, 3, 0), (0, 0, 0))), (((0, 0, 4095), 0, (0, 0, 0), (0, 0, 0)), (0, (0, 4, 0), (0, 0, 0))), (((0, 0, 12), 0, (0, 0, 0), (0, 0, 0)), (0, (0, 5, 0), (0, 0, 0))), (((0, 0, 12), 0, (0, 0, 0), (0, 0, 0)), (0, (0, 6, 0), (0, 0, 0)))], [some (1, 0, 0), some (1, 1, 0), some (1, 2, 0), some (1, 3, 0), some (1, 4, 0), some (1, 5, 0), some (1, 6, 0), none], [], [(.le, (1, 5, 0), (1, 6, 0))]), [(0, 0, 0), ((-1), 5, 0), (0, 0, 0), ((-1), 6, 0), (0, 0, 0)])
abbrev sn_243 : List se_Nd := [sn_243_0]
set_option maxRecDepth 100000 in
theorem sk_243 : se_chk0 se_tt [sc_182, sc_199, sc_203, sc_239] se_Z 37 se_zt sc_243 sn_243 7 = true := by decide +kernel
set_option maxRecDepth 100000 in
theorem sk_243_0 : se_chkn se_tt [sc_182, sc_199, sc_203, sc_239] se_Z 37 se_zt sc_243 sn_243 7 sn_243_0 = true := by decide +kernel
theorem sm_243 {ty : Nat → Option Nat} {J : List mm_C → Prop} {kx : Nat} {zs : List mm_Zt} (hO : se_Ok ty J kx zs) (h182 : se_Met ty se_tt J kx zs sc_182) (h199 : se_Met ty se_tt J kx zs sc_199) (h203 : se_Met ty se_tt J kx zs sc_203) (h239 : se_Met ty se_tt J kx zs sc_239) : se_Met ty se_tt J kx zs sc_243 := se_sound (C := [sc_182, sc_199, sc_203, sc_239]) hO.1 hO.2.1 hO.2.2 (fun n hn => by
  rcases List.mem_cons.mp hn with rfl | hn
  · exact h182
  rcases List.mem_cons.mp hn with rfl | hn
  · exact h199
  rcases List.mem_cons.mp hn with rfl | hn
  · exact h203
  rcases List.mem_cons.mp hn with rfl | hn
  · exact h239
  exact absurd hn List.not_mem_nil) sk_243 (fun n hn => by
  rcases List.mem_cons.mp hn with rfl | hn
  · exact sk_243_0
  exact absurd hn List.not_mem_nil)
/-- RaftTownModel.hasSail -/
def sc_244 : se_C := ((320, 1), ([(((91, 0, 0), 0, (0, 0, 0), (0, 0, 0)), (0, (0, 0, 0), (0, 0, 0))), (((0, (-2147483648), 2147483647), 0, (0, 0, 0), (0, 0, 0)), (0, (0, 1, 0), (0, 0, 0)))], [some (1, 0, 0), some (1, 1, 0)], [], []), [([(((0, 0, 1), 0, (0, 0, 0), (0, 0, 0)), (0, (0, 0, 0), (0, 0, 0)))], some (1, 2, 0), [], [])], [])
def sn_244_0 : se_Nd := (2, ([(((91, 0, 0), 0, (0, 0, 0), (0, 0, 0)), (3, (0, 0, 0), (0, 0, 0))), (((0, (-2147483648), 2147483647), 0, (0, 0, 0), (0, 0, 0)), (3, (0, 1, 0), (0, 0, 0))), (((0, 0, 10), 0, (0, 0, 0), (0, 0, 0)), (0, (0, 2, 0), (0, 0, 0)))], [some (1, 0, 0), some (1, 1, 0), some (1, 2, 0)], [], []), [(0, 0, 0), ((-1), 2, 0), (0, 0, 0)])
abbrev sn_244 : List se_Nd := [sn_244_0]
set_option maxRecDepth 100000 in
theorem sk_244 : se_chk0 se_tt [] se_Z 37 se_zt sc_244 sn_244 6 = true := by decide +kernel
set_option maxRecDepth 100000 in
theorem sk_244_0 : se_chkn se_tt [] se_Z 37 se_zt sc_244 sn_244 6 sn_244_0 = true := by decide +kernel
theorem sm_244 {ty : Nat → Option Nat} {J : List mm_C → Prop} {kx : Nat} {zs : List mm_Zt} (hO : se_Ok ty J kx zs) : se_Met ty se_tt J kx zs sc_244 := se_sound (C := []) hO.1 hO.2.1 hO.2.2 (fun _ hn => absurd hn List.not_mem_nil) sk_244 (fun n hn => by
  rcases List.mem_cons.mp hn with rfl | hn
  · exact sk_244_0
  exact absurd hn List.not_mem_nil)
/-- RaftTownModel.copies -/
def sc_245 : se_C := ((322, 1), ([(((91, 0, 0), 0, (0, 0, 0), (0, 0, 0)), (0, (0, 0, 0), (0, 0, 0)))], [some (1, 0, 0)], [], []), [([], none, [], [])], [(66, 0, 36)])
def sn_245_0 : se_Nd := (2, ([(((91, 0, 0), 0, (0, 0, 0), (0, 0, 0)), (3, (0, 0, 0), (0, 0, 0))), (((0, 0, 36), 0, (0, 0, 0), (0, 0, 0)), (0, (0, 1, 0), (0, 0, 0)))], [some (1, 0, 0), some (1, 1, 0)], [], []), [(0, 0, 0), ((-1), 1, 0), (0, 0, 0)])
abbrev sn_245 : List se_Nd := [sn_245_0]
set_option maxRecDepth 100000 in
theorem sk_245 : se_chk0 se_tt [] se_Z 37 se_zt sc_245 sn_245 4 = true := by decide +kernel
set_option maxRecDepth 100000 in
theorem sk_245_0 : se_chkn se_tt [] se_Z 37 se_zt sc_245 sn_245 4 sn_245_0 = true := by decide +kernel
theorem sm_245 {ty : Nat → Option Nat} {J : List mm_C → Prop} {kx : Nat} {zs : List mm_Zt} (hO : se_Ok ty J kx zs) : se_Met ty se_tt J kx zs sc_245 := se_sound (C := []) hO.1 hO.2.1 hO.2.2 (fun _ hn => absurd hn List.not_mem_nil) sk_245 (fun n hn => by
  rcases List.mem_cons.mp hn with rfl | hn
  · exact sk_245_0
  exact absurd hn List.not_mem_nil)
/-- RaftTownModel.patch -/
def sc_246 : se_C := ((319, 2), ([(((91, 0, 0), 0, (0, 0, 0), (0, 0, 0)), (0, (0, 0, 0), (0, 0, 0))), (((0, (-2147483648), 2147483647), 0, (0, 0, 0), (0, 0, 0)), (0, (0, 1, 0), (0, 0, 0))), (((0, (-2147483648), 2147483647), 0, (0, 0, 0), (0, 0, 0)), (0, (0, 2, 0), (0, 0, 0)))], [some (1, 0, 0), some (1, 1, 0), some (1, 2, 0)], [], []), [([(((0, (-2147483648), 2147483647), 0, (0, 0, 0), (0, 0, 0)), (0, (0, 0, 0), (0, 0, 0)))], some (1, 3, 0), [], [])], [(66, 0, 36), (67, 0, 36), (89, 3, 4)])
def sn_246_0 : se_Nd := (57, ([(((91, 0, 0), 0, (0, 0, 0), (0, 0, 0)), (3, (0, 0, 0), (0, 0, 0))), (((0, 0, 9), 0, (0, 0, 0), (0, 0, 0)), (3, (0, 1, 0), (0, 0, 0))), (((0, 0, 30), 0, (0, 0, 0), (0, 0, 0)), (3, (0, 2, 0), (0, 0, 0))), (((0, 0, 1), 0, (0, 0, 0), (0, 0, 0)), (0, (0, 3, 0), (0, 0, 0))), (((0, 0, 36), 0, (0, 0, 0), (0, 0, 0)), (0, (0, 4, 0), (0, 0, 0)))], [some (1, 0, 0), some (1, 1, 0), some (1, 2, 0), some (1, 3, 0), some (1, 4, 0), none, none], [], []), [(0, 0, 2), ((-1), 4, 0), (0, 0, 0)])
def sn_246_1 : se_Nd := (96, ([(((91, 0, 0), 0, (0, 0, 0), (0, 0, 0)), (3, (0, 0, 0), (0, 0, 0))), (((0, 0, 9), 0, (0, 0, 0), (0, 0, 0)), (3, (0, 1, 0), (0, 0, 0))), (((0, 0, 30), 0, (0, 0, 0), (0, 0, 0)), (3, (0, 2, 0), (0, 0, 0))), (((0, 0, 1), 0, (0, 0, 0), (0, 0, 0)), (0, (0, 3, 0), (0, 0, 0))), (((0, 0, 30), 0, (0, 0, 0), (0, 0, 0)), (0, (0, 4, 0), (0, 0, 0)))], [some (1, 0, 0), some (1, 1, 0), some (1, 2, 0), some (1, 3, 0), some (1, 4, 0), none, none], [], []), [(0, 0, 1), ((-1), 4, 0), (0, 0, 2)])
def sn_246_2 : se_Nd := (105, ([(((91, 0, 0), 0, (0, 0, 0), (0, 0, 0)), (3, (0, 0, 0), (0, 0, 0))), (((0, 0, 9), 0, (0, 0, 0), (0, 0, 0)), (3, (0, 1, 0), (0, 0, 0))), (((0, 1, 30), 0, (0, 0, 0), (0, 0, 0)), (3, (0, 2, 0), (0, 0, 0))), (((0, 0, 1), 0, (0, 0, 0), (0, 0, 0)), (0, (0, 3, 0), (0, 0, 0))), (((0, 0, 29), 0, (0, 0, 0), (0, 0, 0)), (0, (0, 4, 0), (0, 0, 0))), (((0, 0, 36), 0, (0, 0, 0), (0, 0, 0)), (0, (0, 5, 0), (0, 0, 0)))], [some (1, 0, 0), some (1, 1, 0), some (1, 2, 0), some (1, 3, 0), some (1, 4, 0), some (1, 5, 0), none], [], []), [(0, 0, 1), ((-1), 4, 0), (0, 0, 1), ((-1), 5, 0), (0, 0, 0)])
def sn_246_3 : se_Nd := (147, ([(((91, 0, 0), 0, (0, 0, 0), (0, 0, 0)), (3, (0, 0, 0), (0, 0, 0))), (((0, 0, 9), 0, (0, 0, 0), (0, 0, 0)), (3, (0, 1, 0), (0, 0, 0))), (((0, 1, 30), 0, (0, 0, 0), (0, 0, 0)), (3, (0, 2, 0), (0, 0, 0))), (((0, 0, 1), 0, (0, 0, 0), (0, 0, 0)), (0, (0, 3, 0), (0, 0, 0))), (((0, 0, 29), 0, (0, 0, 0), (0, 0, 0)), (0, (0, 4, 0), (0, 0, 0))), (((0, 0, 36), 0, (0, 0, 0), (0, 0, 0)), (0, (0, 5, 0), (0, 0, 0)))], [some (1, 0, 0), some (1, 1, 0), some (1, 2, 0), some (1, 3, 0), some (1, 4, 0), some (1, 5, 0), none], [], []), [(0, 0, 1), ((-1), 4, 0), (0, 0, 0), ((-1), 5, 0), (0, 0, 1)])
def sn_246_4 : se_Nd := (157, ([(((91, 0, 0), 0, (0, 0, 0), (0, 0, 0)), (3, (0, 0, 0), (0, 0, 0))), (((0, 0, 9), 0, (0, 0, 0), (0, 0, 0)), (3, (0, 1, 0), (0, 0, 0))), (((0, 1, 30), 0, (0, 0, 0), (0, 0, 0)), (3, (0, 2, 0), (0, 0, 0))), (((0, 0, 1), 0, (0, 0, 0), (0, 0, 0)), (0, (0, 3, 0), (0, 0, 0))), (((0, 0, 29), 0, (0, 0, 0), (0, 0, 0)), (0, (0, 4, 0), (0, 0, 0))), (((0, 0, 35), 0, (0, 0, 0), (0, 0, 0)), (0, (0, 5, 0), (0, 0, 0))), (((0, 0, 36), 0, (0, 0, 0), (0, 0, 0)), (0, (0, 6, 0), (0, 0, 0)))], [some (1, 0, 0), some (1, 1, 0), some (1, 2, 0), some (1, 3, 0), some (1, 4, 0), some (1, 5, 0), some (1, 6, 0)], [], []), [(0, 0, 1), ((-1), 4, 0), (0, 0, 0), ((-1), 5, 0), (0, 0, 0), ((-1), 6, 0), (0, 0, 0)])
def sn_246_5 : se_Nd := (233, ([(((91, 0, 0), 0, (0, 0, 0), (0, 0, 0)), (3, (0, 0, 0), (0, 0, 0))), (((0, 0, 9), 0, (0, 0, 0), (0, 0, 0)), (3, (0, 1, 0), (0, 0, 0))), (((0, 0, 30), 0, (0, 0, 0), (0, 0, 0)), (3, (0, 2, 0), (0, 0, 0))), (((0, 0, 1), 0, (0, 0, 0), (0, 0, 0)), (0, (0, 3, 0), (0, 0, 0))), (((0, (-2147483648), 2147483647), 0, (0, 0, 0), (0, 0, 0)), (0, (0, 4, 0), (0, 0, 0))), (((0, 0, 36), 0, (0, 0, 0), (0, 0, 0)), (0, (0, 5, 0), (0, 0, 0)))], [some (1, 0, 0), some (1, 1, 0), some (1, 2, 0), some (1, 3, 0), some (1, 4, 0), some (1, 5, 0), none], [], []), [(0, 0, 0), ((-1), 5, 0), (0, 0, 0)])
abbrev sn_246 : List se_Nd := [sn_246_0, sn_246_1, sn_246_2, sn_246_3, sn_246_4, sn_246_5]
set_option maxRecDepth 100000 in
theorem sk_246 : se_chk0 se_tt [sc_182, sc_183, sc_217, sc_244, sc_245] se_Z 37 se_zt sc_246 sn_246 7 = true := by decide +kernel
set_option maxRecDepth 100000 in
theorem sk_246_0 : se_chkn se_tt [sc_182, sc_183, sc_217, sc_244, sc_245] se_Z 37 se_zt sc_246 sn_246 7 sn_246_0 = true := by decide +kernel
set_option maxRecDepth 100000 in
theorem sk_246_1 : se_chkn se_tt [sc_182, sc_183, sc_217, sc_244, sc_245] se_Z 37 se_zt sc_246 sn_246 7 sn_246_1 = true := by decide +kernel
set_option maxRecDepth 100000 in
theorem sk_246_2 : se_chkn se_tt [sc_182, sc_183, sc_217, sc_244, sc_245] se_Z 37 se_zt sc_246 sn_246 7 sn_246_2 = true := by decide +kernel
set_option maxRecDepth 100000 in
theorem sk_246_3 : se_chkn se_tt [sc_182, sc_183, sc_217, sc_244, sc_245] se_Z 37 se_zt sc_246 sn_246 7 sn_246_3 = true := by decide +kernel
set_option maxRecDepth 100000 in
theorem sk_246_4 : se_chkn se_tt [sc_182, sc_183, sc_217, sc_244, sc_245] se_Z 37 se_zt sc_246 sn_246 7 sn_246_4 = true := by decide +kernel
set_option maxRecDepth 100000 in
theorem sk_246_5 : se_chkn se_tt [sc_182, sc_183, sc_217, sc_244, sc_245] se_Z 37 se_zt sc_246 sn_246 7 sn_246_5 = true := by decide +kernel
theorem sm_246 {ty : Nat → Option Nat} {J : List mm_C → Prop} {kx : Nat} {zs : List mm_Zt} (hO : se_Ok ty J kx zs) (h182 : se_Met ty se_tt J kx zs sc_182) (h183 : se_Met ty se_tt J kx zs sc_183) (h217 : se_Met ty se_tt J kx zs sc_217) (h244 : se_Met ty se_tt J kx zs sc_244) (h245 : se_Met ty se_tt J kx zs sc_245) : se_Met ty se_tt J kx zs sc_246 := se_sound (C := [sc_182, sc_183, sc_217, sc_244, sc_245]) hO.1 hO.2.1 hO.2.2 (fun n hn => by
  rcases List.mem_cons.mp hn with rfl | hn
  · exact h182
  rcases List.mem_cons.mp hn with rfl | hn
  · exact h183
  rcases List.mem_cons.mp hn with rfl | hn
  · exact h217
  rcases List.mem_cons.mp hn with rfl | hn
  · exact h244
  rcases List.mem_cons.mp hn with rfl | hn
  · exact h245
  exact absurd hn List.not_mem_nil) sk_246 (fun n hn => by
  rcases List.mem_cons.mp hn with rfl | hn
  · exact sk_246_0
  rcases List.mem_cons.mp hn with rfl | hn
  · exact sk_246_1
  rcases List.mem_cons.mp hn with rfl | hn
  · exact sk_246_2
  rcases List.mem_cons.mp hn with rfl | hn
  · exact sk_246_3
  rcases List.mem_cons.mp hn with rfl | hn
  · exact sk_246_4
  rcases List.mem_cons.mp hn with rfl | hn
  · exact sk_246_5
  exact absurd hn List.not_mem_nil)
/-- RaftTownModel.tow -/
def sc_247 : se_C := ((323, 2), ([(((91, 0, 0), 0, (0, 0, 0), (0, 0, 0)), (0, (0, 0, 0), (0, 0, 0))), (((0, (-2147483648), 2147483647), 0, (0, 0, 0), (0, 0, 0)), (0, (0, 1, 0), (0, 0, 0))), (((0, (-2147483648), 2147483647), 0, (0, 0, 0), (0, 0, 0)), (0, (0, 2, 0), (0, 0, 0)))], [some (1, 0, 0), some (1, 1, 0), some (1, 2, 0)], [], []), [([(((0, (-100006), 30), 0, (0, 0, 0), (0, 0, 0)), (0, (0, 0, 0), (0, 0, 0)))], some (1, 3, 0), [], [])], [(66, 0, 36), (67, 0, 36), (89, 3, 4)])
def sn_247_0 : se_Nd := (71, ([(((91, 0, 0), 0, (0, 0, 0), (0, 0, 0)), (3, (0, 0, 0), (0, 0, 0))), (((0, 0, 9), 0, (0, 0, 0), (0, 0, 0)), (3, (0, 1, 0), (0, 0, 0))), (((0, 0, 9), 0, (0, 0, 0), (0, 0, 0)), (3, (0, 2, 0), (0, 0, 0))), (((0, 0, 1), 0, (0, 0, 0), (0, 0, 0)), (0, (0, 3, 0), (0, 0, 0))), (((0, 0, 35), 0, (0, 0, 0), (0, 0, 0)), (0, (0, 4, 0), (0, 0, 0))), (((0, 0, 36), 0, (0, 0, 0), (0, 0, 0)), (0, (0, 5, 0), (0, 0, 0)))], [some (1, 0, 0), some (1, 1, 0), some (1, 2, 0), some (1, 3, 0), some (1, 4, 0), some (1, 5, 0), none, none], [], []), [(0, 0, 1), ((-1), 5, 0), (0, 0, 0)])
def sn_247_1 : se_Nd := (110, ([(((91, 0, 0), 0, (0, 0, 0), (0, 0, 0)), (3, (0, 0, 0), (0, 0, 0))), (((0, 0, 9), 0, (0, 0, 0), (0, 0, 0)), (3, (0, 1, 0), (0, 0, 0))), (((0, 0, 9), 0, (0, 0, 0), (0, 0, 0)), (3, (0, 2, 0), (0, 0, 0))), (((0, 0, 1), 0, (0, 0, 0), (0, 0, 0)), (0, (0, 3, 0), (0, 0, 0))), (((0, 0, 35), 0, (0, 0, 0), (0, 0, 0)), (0, (0, 4, 0), (0, 0, 0))), (((0, 0, 31), 0, (0, 0, 0), (0, 0, 0)), (0, (0, 5, 0), (0, 0, 0)))], [some (1, 0, 0), some (1, 1, 0), some (1, 2, 0), some (1, 3, 0), some (1, 4, 0), some (1, 5, 0), none, none], [], []), [(0, 0, 0), ((-1), 5, 0), (0, 0, 3)])
def sn_247_2 : se_Nd := (133, ([(((91, 0, 0), 0, (0, 0, 0), (0, 0, 0)), (3, (0, 0, 0), (0, 0, 0))), (((0, 0, 9), 0, (0, 0, 0), (0, 0, 0)), (3, (0, 1, 0), (0, 0, 0))), (((0, 0, 9), 0, (0, 0, 0), (0, 0, 0)), (3, (0, 2, 0), (0, 0, 0))), (((0, 0, 1), 0, (0, 0, 0), (0, 0, 0)), (0, (0, 3, 0), (0, 0, 0))), (((0, 0, 35), 0, (0, 0, 0), (0, 0, 0)), (0, (0, 4, 0), (0, 0, 0))), (((0, 0, 30), 0, (0, 0, 0), (0, 0, 0)), (0, (0, 5, 0), (0, 0, 0))), (((0, 0, 36), 0, (0, 0, 0), (0, 0, 0)), (0, (0, 6, 0), (0, 0, 0)))], [some (1, 0, 0), some (1, 1, 0), some (1, 2, 0), some (1, 3, 0), some (1, 4, 0), some (1, 5, 0), some (1, 6, 0), none], [], []), [(0, 0, 0), ((-1), 5, 0), (0, 0, 2), ((-1), 6, 0), (0, 0, 0)])
def sn_247_3 : se_Nd := (157, ([(((91, 0, 0), 0, (0, 0, 0), (0, 0, 0)), (3, (0, 0, 0), (0, 0, 0))), (((0, 0, 9), 0, (0, 0, 0), (0, 0, 0)), (3, (0, 1, 0), (0, 0, 0))), (((0, 0, 9), 0, (0, 0, 0), (0, 0, 0)), (3, (0, 2, 0), (0, 0, 0))), (((0, 0, 1), 0, (0, 0, 0), (0, 0, 0)), (0, (0, 3, 0), (0, 0, 0))), (((0, 0, 35), 0, (0, 0, 0), (0, 0, 0)), (0, (0, 4, 0), (0, 0, 0))), (((0, 0, 30), 0, (0, 0, 0), (0, 0, 0)), (0, (0, 5, 0), (0, 0, 0))), (((0, 0, 36), 0, (0, 0, 0), (0, 0, 0)), (0, (0, 6, 0), (0, 0, 0)))], [some (1, 0, 0), some (1, 1, 0), some (1, 2, 0), some (1, 3, 0), some (1, 4, 0), some (1, 5, 0), some (1, 6, 0), none], [], []), [(0, 0, 0), ((-1), 5, 0), (0, 0, 1), ((-1), 6, 0), (0, 0, 0)])
def sn_247_4 : se_Nd := (201, ([(((91, 0, 0), 0, (0, 0, 0), (0, 0, 0)), (3, (0, 0, 0), (0, 0, 0))), (((0, 0, 9), 0, (0, 0, 0), (0, 0, 0)), (3, (0, 1, 0), (0, 0, 0))), (((0, 0, 9), 0, (0, 0, 0), (0, 0, 0)), (3, (0, 2, 0), (0, 0, 0))), (((0, 0, 1), 0, (0, 0, 0), (0, 0, 0)), (0, (0, 3, 0), (0, 0, 0))), (((0, 0, 35), 0, (0, 0, 0), (0, 0, 0)), (0, (0, 4, 0), (0, 0, 0))), (((0, 0, 30), 0, (0, 0, 0), (0, 0, 0)), (0, (0, 5, 0), (0, 0, 0))), (((0, 0, 36), 0, (0, 0, 0), (0, 0, 0)), (0, (0, 6, 0), (0, 0, 0)))], [some (1, 0, 0), some (1, 1, 0), some (1, 2, 0), some (1, 3, 0), some (1, 4, 0), some (1, 5, 0), some (1, 6, 0), none], [], []), [(0, 0, 0), ((-1), 5, 0), (0, 0, 0), ((-1), 6, 0), (0, 0, 1)])
def sn_247_5 : se_Nd := (211, ([(((91, 0, 0), 0, (0, 0, 0), (0, 0, 0)), (3, (0, 0, 0), (0, 0, 0))), (((0, 0, 9), 0, (0, 0, 0), (0, 0, 0)), (3, (0, 1, 0), (0, 0, 0))), (((0, 0, 9), 0, (0, 0, 0), (0, 0, 0)), (3, (0, 2, 0), (0, 0, 0))), (((0, 0, 1), 0, (0, 0, 0), (0, 0, 0)), (0, (0, 3, 0), (0, 0, 0))), (((0, 0, 35), 0, (0, 0, 0), (0, 0, 0)), (0, (0, 4, 0), (0, 0, 0))), (((0, 0, 30), 0, (0, 0, 0), (0, 0, 0)), (0, (0, 5, 0), (0, 0, 0))), (((0, 0, 35), 0, (0, 0, 0), (0, 0, 0)), (0, (0, 6, 0), (0, 0, 0))), (((0, 0, 36), 0, (0, 0, 0), (0, 0, 0)), (0, (0, 7, 0), (0, 0, 0)))], [some (1, 0, 0), some (1, 1, 0), some (1, 2, 0), some (1, 3, 0), some (1, 4, 0), some (1, 5, 0), some (1, 6, 0), some (1, 7, 0)], [], []), [(0, 0, 0), ((-1), 5, 0), (0, 0, 0), ((-1), 6, 0), (0, 0, 0), ((-1), 7, 0), (0, 0, 0)])
abbrev sn_247 : List se_Nd := [sn_247_0, sn_247_1, sn_247_2, sn_247_3, sn_247_4, sn_247_5]
set_option maxRecDepth 100000 in
theorem sk_247 : se_chk0 se_tt [sc_182, sc_183, sc_217, sc_244, sc_245] se_Z 37 se_zt sc_247 sn_247 7 = true := by decide +kernel
set_option maxRecDepth 100000 in
theorem sk_247_0 : se_chkn se_tt [sc_182, sc_183, sc_217, sc_244, sc_245] se_Z 37 se_zt sc_247 sn_247 7 sn_247_0 = true := by decide +kernel
set_option maxRecDepth 100000 in
theorem sk_247_1 : se_chkn se_tt [sc_182, sc_183, sc_217, sc_244, sc_245] se_Z 37 se_zt sc_247 sn_247 7 sn_247_1 = true := by decide +kernel
set_option maxRecDepth 100000 in
theorem sk_247_2 : se_chkn se_tt [sc_182, sc_183, sc_217, sc_244, sc_245] se_Z 37 se_zt sc_247 sn_247 7 sn_247_2 = true := by decide +kernel
set_option maxRecDepth 100000 in
theorem sk_247_3 : se_chkn se_tt [sc_182, sc_183, sc_217, sc_244, sc_245] se_Z 37 se_zt sc_247 sn_247 7 sn_247_3 = true := by decide +kernel
set_option maxRecDepth 100000 in
theorem sk_247_4 : se_chkn se_tt [sc_182, sc_183, sc_217, sc_244, sc_245] se_Z 37 se_zt sc_247 sn_247 7 sn_247_4 = true := by decide +kernel
set_option maxRecDepth 100000 in
theorem sk_247_5 : se_chkn se_tt [sc_182, sc_183, sc_217, sc_244, sc_245] se_Z 37 se_zt sc_247 sn_247 7 sn_247_5 = true := by decide +kernel
theorem sm_247 {ty : Nat → Option Nat} {J : List mm_C → Prop} {kx : Nat} {zs : List mm_Zt} (hO : se_Ok ty J kx zs) (h182 : se_Met ty se_tt J kx zs sc_182) (h183 : se_Met ty se_tt J kx zs sc_183) (h217 : se_Met ty se_tt J kx zs sc_217) (h244 : se_Met ty se_tt J kx zs sc_244) (h245 : se_Met ty se_tt J kx zs sc_245) : se_Met ty se_tt J kx zs sc_247 := se_sound (C := [sc_182, sc_183, sc_217, sc_244, sc_245]) hO.1 hO.2.1 hO.2.2 (fun n hn => by
  rcases List.mem_cons.mp hn with rfl | hn
  · exact h182
  rcases List.mem_cons.mp hn with rfl | hn
  · exact h183
  rcases List.mem_cons.mp hn with rfl | hn
  · exact h217
  rcases List.mem_cons.mp hn with rfl | hn
  · exact h244
  rcases List.mem_cons.mp hn with rfl | hn
  · exact h245
  exact absurd hn List.not_mem_nil) sk_247 (fun n hn => by
  rcases List.mem_cons.mp hn with rfl | hn
  · exact sk_247_0
  rcases List.mem_cons.mp hn with rfl | hn
  · exact sk_247_1
  rcases List.mem_cons.mp hn with rfl | hn
  · exact sk_247_2
  rcases List.mem_cons.mp hn with rfl | hn
  · exact sk_247_3
  rcases List.mem_cons.mp hn with rfl | hn
  · exact sk_247_4
  rcases List.mem_cons.mp hn with rfl | hn
  · exact sk_247_5
  exact absurd hn List.not_mem_nil)
/-- RaftTownModel.sheet -/
def sc_248 : se_C := ((324, 1), ([(((91, 0, 0), 0, (0, 0, 0), (0, 0, 0)), (0, (0, 0, 0), (0, 0, 0))), (((0, (-2147483648), 2147483647), 0, (0, 0, 0), (0, 0, 0)), (0, (0, 1, 0), (0, 0, 0))), (((0, (-2147483648), 2147483647), 0, (0, 0, 0), (0, 0, 0)), (0, (0, 2, 0), (0, 0, 0))), (((0, (-2147483648), 2147483647), 0, (0, 0, 0), (0, 0, 0)), (0, (0, 3, 0), (0, 0, 0)))], [some (1, 0, 0), some (1, 1, 0), some (1, 2, 0), some (1, 3, 0)], [], []), [([(((0, (-100003), 20), 0, (0, 0, 0), (0, 0, 0)), (0, (0, 0, 0), (0, 0, 0)))], some (1, 4, 0), [], [])], [(68, 0, 4), (69, 0, 4), (70, 0, 80), (89, 3, 4)])
def sn_248_0 : se_Nd := (85, ([(((91, 0, 0), 0, (0, 0, 0), (0, 0, 0)), (3, (0, 0, 0), (0, 0, 0))), (((0, 0, 3), 0, (0, 0, 0), (0, 0, 0)), (3, (0, 1, 0), (0, 0, 0))), (((0, 0, 32), 0, (0, 0, 0), (0, 0, 0)), (3, (0, 2, 0), (0, 0, 0))), (((0, 0, 20), 0, (0, 0, 0), (0, 0, 0)), (3, (0, 3, 0), (0, 0, 0))), (((0, 0, 20), 0, (0, 0, 0), (0, 0, 0)), (0, (0, 4, 0), (0, 0, 0)))], [some (1, 0, 0), some (1, 1, 0), some (1, 2, 0), some (1, 3, 0), some (1, 4, 0)], [], []), [(0, 0, 0), ((-1), 4, 0), (0, 0, 0)])
abbrev sn_248 : List se_Nd := [sn_248_0]
set_option maxRecDepth 100000 in
theorem sk_248 : se_chk0 se_tt [] se_Z 37 se_zt sc_248 sn_248 6 = true := by decide +kernel
set_option maxRecDepth 100000 in
theorem sk_248_0 : se_chkn se_tt [] se_Z 37 se_zt sc_248 sn_248 6 sn_248_0 = true := by decide +kernel
theorem sm_248 {ty : Nat → Option Nat} {J : List mm_C → Prop} {kx : Nat} {zs : List mm_Zt} (hO : se_Ok ty J kx zs) : se_Met ty se_tt J kx zs sc_248 := se_sound (C := []) hO.1 hO.2.1 hO.2.2 (fun _ hn => absurd hn List.not_mem_nil) sk_248 (fun n hn => by
  rcases List.mem_cons.mp hn with rfl | hn
  · exact sk_248_0
  exact absurd hn List.not_mem_nil)
/-- RaftTownModel.put -/
def sc_249 : se_C := ((325, 1), ([(((91, 0, 0), 0, (0, 0, 0), (0, 0, 0)), (0, (0, 0, 0), (0, 0, 0))), (((0, (-2147483648), 2147483647), 0, (0, 0, 0), (0, 0, 0)), (0, (0, 1, 0), (0, 0, 0))), (((0, (-2147483648), 2147483647), 0, (0, 0, 0), (0, 0, 0)), (0, (0, 2, 0), (0, 0, 0))), (((0, (-2147483648), 2147483647), 0, (0, 0, 0), (0, 0, 0)), (0, (0, 3, 0), (0, 0, 0)))], [some (1, 0, 0), some (1, 1, 0), some (1, 2, 0), some (1, 3, 0)], [], []), [([(((0, (-100002), 0), 0, (0, 0, 0), (0, 0, 0)), (0, (0, 0, 0), (0, 0, 0)))], some (1, 4, 0), [], [])], [(70, 0, 80), (89, 3, 4)])
abbrev sn_249 : List se_Nd := []
set_option maxRecDepth 100000 in
theorem sk_249 : se_chk0 se_tt [] se_Z 37 se_zt sc_249 sn_249 7 = true := by decide +kernel
theorem sm_249 {ty : Nat → Option Nat} {J : List mm_C → Prop} {kx : Nat} {zs : List mm_Zt} (hO : se_Ok ty J kx zs) : se_Met ty se_tt J kx zs sc_249 := se_sound (C := []) hO.1 hO.2.1 hO.2.2 (fun _ hn => absurd hn List.not_mem_nil) sk_249 (fun _ hn => absurd hn List.not_mem_nil)
/-- RaftTownModel.copy -/
def sc_250 : se_C := ((326, 1), ([(((91, 0, 0), 0, (0, 0, 0), (0, 0, 0)), (0, (0, 0, 0), (0, 0, 0))), (((0, (-2147483648), 2147483647), 0, (0, 0, 0), (0, 0, 0)), (0, (0, 1, 0), (0, 0, 0))), (((0, (-2147483648), 2147483647), 0, (0, 0, 0), (0, 0, 0)), (0, (0, 2, 0), (0, 0, 0))), (((0, (-2147483648), 2147483647), 0, (0, 0, 0), (0, 0, 0)), (0, (0, 3, 0), (0, 0, 0))), (((0, (-2147483648), 2147483647), 0, (0, 0, 0), (0, 0, 0)), (0, (0, 4, 0), (0, 0, 0))), (((0, (-2147483648), 2147483647), 0, (0, 0, 0), (0, 0, 0)), (0, (0, 5, 0), (0, 0, 0)))], [some (1, 0, 0), some (1, 1, 0), some (1, 2, 0), some (1, 3, 0), some (1, 4, 0), some (1, 5, 0)], [], []), [([(((0, (-100004), 20), 0, (0, 0, 0), (0, 0, 0)), (0, (0, 0, 0), (0, 0, 0)))], some (1, 6, 0), [], [])], [(70, 0, 80), (71, 0, 20), (89, 3, 4)])
def sn_250_0 : se_Nd := (127, ([(((91, 0, 0), 0, (0, 0, 0), (0, 0, 0)), (3, (0, 0, 0), (0, 0, 0))), (((0, 0, 3), 0, (0, 0, 0), (0, 0, 0)), (3, (0, 1, 0), (0, 0, 0))), (((0, 0, 20), 0, (0, 0, 0), (0, 0, 0)), (3, (0, 2, 0), (0, 0, 0))), (((0, 0, 3), 0, (0, 0, 0), (0, 0, 0)), (3, (0, 3, 0), (0, 0, 0))), (((0, 0, 20), 0, (0, 0, 0), (0, 0, 0)), (3, (0, 4, 0), (0, 0, 0))), (((0, 0, 20), 0, (0, 0, 0), (0, 0, 0)), (3, (0, 5, 0), (0, 0, 0))), (((0, 0, 20), 0, (0, 0, 0), (0, 0, 0)), (0, (0, 6, 0), (0, 0, 0))), (((0, (-2147483648), 2147483647), 1, (1, 2, 0), (1, 5, 0)), (2, (0, 0, 0), (0, 0, 0))), (((0, (-2147483648), 2147483647), 1, (1, 4, 0), (1, 5, 0)), (2, (0, 0, 0), (0, 0, 0)))], [some (1, 0, 0), some (1, 1, 0), some (1, 2, 0), some (1, 3, 0), some (1, 4, 0), some (1, 5, 0), some (1, 6, 0)], [], [(.le, (1, 7, 0), (0, 0, 20)), (.le, (1, 8, 0), (0, 0, 20))]), [(0, 0, 1), ((-1), 6, 0), (0, 0, 0)])
def sn_250_1 : se_Nd := (164, ([(((91, 0, 0), 0, (0, 0, 0), (0, 0, 0)), (3, (0, 0, 0), (0, 0, 0))), (((0, 0, 3), 0, (0, 0, 0), (0, 0, 0)), (3, (0, 1, 0), (0, 0, 0))), (((0, 0, 20), 0, (0, 0, 0), (0, 0, 0)), (3, (0, 2, 0), (0, 0, 0))), (((0, 0, 3), 0, (0, 0, 0), (0, 0, 0)), (3, (0, 3, 0), (0, 0, 0))), (((0, 0, 20), 0, (0, 0, 0), (0, 0, 0)), (3, (0, 4, 0), (0, 0, 0))), (((0, 0, 20), 0, (0, 0, 0), (0, 0, 0)), (3, (0, 5, 0), (0, 0, 0))), (((0, 0, 20), 0, (0, 0, 0), (0, 0, 0)), (0, (0, 6, 0), (0, 0, 0))), (((0, (-2147483648), 2147483647), 1, (1, 2, 0), (1, 5, 0)), (2, (0, 0, 0), (0, 0, 0))), (((0, (-2147483648), 2147483647), 1, (1, 4, 0), (1, 5, 0)), (2, (0, 0, 0), (0, 0, 0)))], [some (1, 0, 0), some (1, 1, 0), some (1, 2, 0), some (1, 3, 0), some (1, 4, 0), some (1, 5, 0), some (1, 6, 0)], [], [(.le, (1, 7, 0), (0, 0, 20)), (.le, (1, 8, 0), (0, 0, 20))]), [(0, 0, 0), ((-1), 6, 0), (0, 0, 0)])
abbrev sn_250 : List se_Nd := [sn_250_0, sn_250_1]
set_option maxRecDepth 100000 in
theorem sk_250 : se_chk0 se_tt [] se_Z 37 se_zt sc_250 sn_250 7 = true := by decide +kernel
set_option maxRecDepth 100000 in
theorem sk_250_0 : se_chkn se_tt [] se_Z 37 se_zt sc_250 sn_250 7 sn_250_0 = true := by decide +kernel
set_option maxRecDepth 100000 in
theorem sk_250_1 : se_chkn se_tt [] se_Z 37 se_zt sc_250 sn_250 7 sn_250_1 = true := by decide +kernel
theorem sm_250 {ty : Nat → Option Nat} {J : List mm_C → Prop} {kx : Nat} {zs : List mm_Zt} (hO : se_Ok ty J kx zs) : se_Met ty se_tt J kx zs sc_250 := se_sound (C := []) hO.1 hO.2.1 hO.2.2 (fun _ hn => absurd hn List.not_mem_nil) sk_250 (fun n hn => by
  rcases List.mem_cons.mp hn with rfl | hn
  · exact sk_250_0
  rcases List.mem_cons.mp hn with rfl | hn
  · exact sk_250_1
  exact absurd hn List.not_mem_nil)
/-- RaftTownModel.count -/
def sc_251 : se_C := ((329, 2), ([(((91, 0, 0), 0, (0, 0, 0), (0, 0, 0)), (0, (0, 0, 0), (0, 0, 0))), (((0, (-2147483648), 2147483647), 0, (0, 0, 0), (0, 0, 0)), (0, (0, 1, 0), (0, 0, 0)))], [some (1, 0, 0), some (1, 1, 0)], [], []), [([(((0, (-2147483648), 2147483647), 0, (0, 0, 0), (0, 0, 0)), (0, (0, 0, 0), (0, 0, 0)))], some (1, 2, 0), [], [])], [(89, 3, 4)])
def sn_251_0 : se_Nd := (50, ([(((91, 0, 0), 0, (0, 0, 0), (0, 0, 0)), (3, (0, 0, 0), (0, 0, 0))), (((0, 0, 0), 0, (0, 0, 0), (0, 0, 0)), (3, (0, 1, 0), (0, 0, 0))), (((0, (-2147483648), 2147483647), 0, (0, 0, 0), (0, 0, 0)), (0, (0, 2, 0), (0, 0, 0))), (((0, 0, 10), 0, (0, 0, 0), (0, 0, 0)), (0, (0, 3, 0), (0, 0, 0)))], [some (1, 0, 0), some (1, 1, 0), some (1, 2, 0), some (1, 3, 0)], [], []), [(0, 0, 0), ((-1), 3, 0), (0, 0, 0)])
def sn_251_1 : se_Nd := (86, ([(((91, 0, 0), 0, (0, 0, 0), (0, 0, 0)), (3, (0, 0, 0), (0, 0, 0))), (((0, 1, 1), 0, (0, 0, 0), (0, 0, 0)), (3, (0, 1, 0), (0, 0, 0))), (((0, (-2147483648), 2147483647), 0, (0, 0, 0), (0, 0, 0)), (0, (0, 2, 0), (0, 0, 0))), (((0, 0, 14), 0, (0, 0, 0), (0, 0, 0)), (0, (0, 3, 0), (0, 0, 0)))], [some (1, 0, 0), some (1, 1, 0), some (1, 2, 0), some (1, 3, 0)], [], []), [(0, 0, 1), ((-1), 3, 0), (0, 0, 0)])
def sn_251_2 : se_Nd := (137, ([(((91, 0, 0), 0, (0, 0, 0), (0, 0, 0)), (3, (0, 0, 0), (0, 0, 0))), (((0, 4, 4), 0, (0, 0, 0), (0, 0, 0)), (3, (0, 1, 0), (0, 0, 0))), (((0, (-2147483648), 2147483647), 0, (0, 0, 0), (0, 0, 0)), (0, (0, 2, 0), (0, 0, 0))), (((0, 0, 10), 0, (0, 0, 0), (0, 0, 0)), (0, (0, 3, 0), (0, 0, 0)))], [some (1, 0, 0), some (1, 1, 0), some (1, 2, 0), some (1, 3, 0)], [], []), [(0, 0, 2), ((-1), 3, 0), (0, 0, 0)])
abbrev sn_251 : List se_Nd := [sn_251_0, sn_251_1, sn_251_2]
set_option maxRecDepth 100000 in
theorem sk_251 : se_chk0 se_tt [sc_182, sc_239] se_Z 37 se_zt sc_251 sn_251 6 = true := by decide +kernel
set_option maxRecDepth 100000 in
theorem sk_251_0 : se_chkn se_tt [sc_182, sc_239] se_Z 37 se_zt sc_251 sn_251 6 sn_251_0 = true := by decide +kernel
set_option maxRecDepth 100000 in
theorem sk_251_1 : se_chkn se_tt [sc_182, sc_239] se_Z 37 se_zt sc_251 sn_251 6 sn_251_1 = true := by decide +kernel
set_option maxRecDepth 100000 in
theorem sk_251_2 : se_chkn se_tt [sc_182, sc_239] se_Z 37 se_zt sc_251 sn_251 6 sn_251_2 = true := by decide +kernel
theorem sm_251 {ty : Nat → Option Nat} {J : List mm_C → Prop} {kx : Nat} {zs : List mm_Zt} (hO : se_Ok ty J kx zs) (h182 : se_Met ty se_tt J kx zs sc_182) (h239 : se_Met ty se_tt J kx zs sc_239) : se_Met ty se_tt J kx zs sc_251 := se_sound (C := [sc_182, sc_239]) hO.1 hO.2.1 hO.2.2 (fun n hn => by
  rcases List.mem_cons.mp hn with rfl | hn
  · exact h182
  rcases List.mem_cons.mp hn with rfl | hn
  · exact h239
  exact absurd hn List.not_mem_nil) sk_251 (fun n hn => by
  rcases List.mem_cons.mp hn with rfl | hn
  · exact sk_251_0
  rcases List.mem_cons.mp hn with rfl | hn
  · exact sk_251_1
  rcases List.mem_cons.mp hn with rfl | hn
  · exact sk_251_2
  exact absurd hn List.not_mem_nil)
