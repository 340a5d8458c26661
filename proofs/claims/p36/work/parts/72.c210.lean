/-! ===== printed by wip/p2/gen_tab.py: contracts and their checks ===== -/
/-- RaftTownModel.lostBy -/
def sc_210 : se_C := ((317, 5), ([(((91, 0, 0), 0, (0, 0, 0), (0, 0, 0)), (0, (0, 0, 0), (0, 0, 0))), (((0, 0, 4095), 0, (0, 0, 0), (0, 0, 0)), (0, (0, 1, 0), (0, 0, 0))), (((0, (-2147483648), 2147483647), 0, (0, 0, 0), (0, 0, 0)), (0, (0, 2, 0), (0, 0, 0)))], [some (1, 0, 0), some (1, 1, 0), some (1, 2, 0)], [], []), [([(((0, (-2147483648), 2147483647), 0, (0, 0, 0), (0, 0, 0)), (0, (0, 0, 0), (0, 0, 0)))], some (1, 3, 0), [], [])], [(65, 0, 4096)])
def sn_210_0 : se_Nd := (5, ([(((91, 0, 0), 0, (0, 0, 0), (0, 0, 0)), (3, (0, 0, 0), (0, 0, 0))), (((0, 0, 4095), 0, (0, 0, 0), (0, 0, 0)), (3, (0, 1, 0), (0, 0, 0))), (((0, (-2147483648), 2147483647), 0, (0, 0, 0), (0, 0, 0)), (3, (0, 2, 0), (0, 0, 0))), (((0, 0, 4095), 0, (0, 0, 0), (0, 0, 0)), (0, (0, 3, 0), (0, 0, 0))), (((0, (-2147483648), 2147483647), 0, (0, 0, 0), (0, 0, 0)), (0, (0, 4, 0), (0, 0, 0))), (((67, 0, 0), 0, (0, 0, 0), (0, 0, 0)), (1, (1, 0, 0), (0, 0, 19))), (((0, 0, 0), 0, (0, 0, 0), (0, 0, 0)), (1, (1, 5, 0), (1, 3, 0)))], [some (1, 0, 0), some (1, 1, 0), some (1, 2, 0), some (1, 3, 0), some (1, 4, 0), some (0, 0, (-1))], [((1, 0, 0), (0, 0, 19), (1, 5, 0)), ((1, 5, 0), (1, 3, 0), (1, 6, 0))], []), [(0, 0, 0)])
def sn_210_1 : se_Nd := (5, ([(((91, 0, 0), 0, (0, 0, 0), (0, 0, 0)), (3, (0, 0, 0), (0, 0, 0))), (((0, 0, 4095), 0, (0, 0, 0), (0, 0, 0)), (3, (0, 1, 0), (0, 0, 0))), (((0, (-2147483648), 2147483647), 0, (0, 0, 0), (0, 0, 0)), (3, (0, 2, 0), (0, 0, 0))), (((0, 0, 4095), 0, (0, 0, 0), (0, 0, 0)), (0, (0, 3, 0), (0, 0, 0))), (((0, (-2147483648), 2147483647), 0, (0, 0, 0), (0, 0, 0)), (0, (0, 4, 0), (0, 0, 0)))], [some (1, 0, 0), some (1, 1, 0), some (1, 2, 0), some (1, 3, 0), some (1, 4, 0), none], [], []), [(0, 0, 1), (1, 3, 0), (0, 0, 0)])
abbrev sn_210 : List se_Nd := [sn_210_0, sn_210_1]
set_option maxRecDepth 100000 in
theorem sk_210 : se_chk0 se_tt [sc_174] se_Z 37 se_zt sc_210 sn_210 5 = true := by decide +kernel
set_option maxRecDepth 100000 in
theorem sk_210_0 : se_chkn se_tt [sc_174] se_Z 37 se_zt sc_210 sn_210 5 sn_210_0 = true := by decide +kernel
set_option maxRecDepth 100000 in
theorem sk_210_1 : se_chkn se_tt [sc_174] se_Z 37 se_zt sc_210 sn_210 5 sn_210_1 = true := by decide +kernel
theorem sm_210 {ty : Nat → Option Nat} {J : List mm_C → Prop} {kx : Nat} {zs : List mm_Zt} (hO : se_Ok ty J kx zs) (h174 : se_Met ty se_tt J kx zs sc_174) : se_Met ty se_tt J kx zs sc_210 := se_sound (C := [sc_174]) hO.1 hO.2.1 hO.2.2 (fun n hn => by
  rcases List.mem_cons.mp hn with rfl | hn
  · exact h174
  exact absurd hn List.not_mem_nil) sk_210 (fun n hn => by
  rcases List.mem_cons.mp hn with rfl | hn
  · exact sk_210_0
  rcases List.mem_cons.mp hn with rfl | hn
  · exact sk_210_1
  exact absurd hn List.not_mem_nil)
/-- RaftTownModel.storm -/
def sc_211 : se_C := ((316, 6), ([(((91, 0, 0), 0, (0, 0, 0), (0, 0, 0)), (0, (0, 0, 0), (0, 0, 0))), (((0, (-2147483648), 2147483647), 0, (0, 0, 0), (0, 0, 0)), (0, (0, 1, 0), (0, 0, 0))), (((0, 0, 1), 0, (0, 0, 0), (0, 0, 0)), (0, (0, 2, 0), (0, 0, 0)))], [some (1, 0, 0), some (1, 1, 0), some (1, 2, 0)], [], []), [([(((0, (-2147483648), 4095), 0, (0, 0, 0), (0, 0, 0)), (0, (0, 0, 0), (0, 0, 0)))], some (1, 3, 0), [], [])], [(57, 0, 10), (65, 0, 4096), (89, 3, 4)])
def sn_211_0 : se_Nd := (26, ([(((91, 0, 0), 0, (0, 0, 0), (0, 0, 0)), (3, (0, 0, 0), (0, 0, 0))), (((0, 0, 20), 0, (0, 0, 0), (0, 0, 0)), (3, (0, 1, 0), (0, 0, 0))), (((0, 0, 1), 0, (0, 0, 0), (0, 0, 0)), (3, (0, 2, 0), (0, 0, 0))), (((0, 0, 4095), 0, (0, 0, 0), (0, 0, 0)), (0, (0, 3, 0), (0, 0, 0))), (((0, 0, 4096), 0, (0, 0, 0), (0, 0, 0)), (0, (0, 4, 0), (0, 0, 0)))], [some (1, 0, 0), some (1, 1, 0), some (1, 2, 0), some (1, 3, 0), some (1, 4, 0), none, none, none], [], []), [(0, 0, 1), ((-1), 4, 0), (0, 0, 0)])
def sn_211_1 : se_Nd := (58, ([(((91, 0, 0), 0, (0, 0, 0), (0, 0, 0)), (3, (0, 0, 0), (0, 0, 0))), (((0, 0, 20), 0, (0, 0, 0), (0, 0, 0)), (3, (0, 1, 0), (0, 0, 0))), (((0, 0, 1), 0, (0, 0, 0), (0, 0, 0)), (3, (0, 2, 0), (0, 0, 0))), (((0, 0, 4095), 0, (0, 0, 0), (0, 0, 0)), (0, (0, 3, 0), (0, 0, 0))), (((0, 0, 4095), 0, (0, 0, 0), (0, 0, 0)), (0, (0, 4, 0), (0, 0, 0))), (((0, (-2147483648), 100), 0, (0, 0, 0), (0, 0, 0)), (0, (0, 5, 0), (0, 0, 0))), (((0, 0, 4096), 0, (0, 0, 0), (0, 0, 0)), (0, (0, 6, 0), (0, 0, 0)))], [some (1, 0, 0), some (1, 1, 0), some (1, 2, 0), some (1, 3, 0), some (1, 4, 0), some (1, 5, 0), some (1, 6, 0), none], [], []), [(0, 0, 0), ((-1), 6, 0), (0, 0, 0)])
abbrev sn_211 : List se_Nd := [sn_211_0, sn_211_1]
set_option maxRecDepth 100000 in
theorem sk_211 : se_chk0 se_tt [sc_151, sc_168, sc_208, sc_210] se_Z 37 se_zt sc_211 sn_211 6 = true := by decide +kernel
set_option maxRecDepth 100000 in
theorem sk_211_0 : se_chkn se_tt [sc_151, sc_168, sc_208, sc_210] se_Z 37 se_zt sc_211 sn_211 6 sn_211_0 = true := by decide +kernel
set_option maxRecDepth 100000 in
theorem sk_211_1 : se_chkn se_tt [sc_151, sc_168, sc_208, sc_210] se_Z 37 se_zt sc_211 sn_211 6 sn_211_1 = true := by decide +kernel
theorem sm_211 {ty : Nat → Option Nat} {J : List mm_C → Prop} {kx : Nat} {zs : List mm_Zt} (hO : se_Ok ty J kx zs) (h151 : se_Met ty se_tt J kx zs sc_151) (h168 : se_Met ty se_tt J kx zs sc_168) (h208 : se_Met ty se_tt J kx zs sc_208) (h210 : se_Met ty se_tt J kx zs sc_210) : se_Met ty se_tt J kx zs sc_211 := se_sound (C := [sc_151, sc_168, sc_208, sc_210]) hO.1 hO.2.1 hO.2.2 (fun n hn => by
  rcases List.mem_cons.mp hn with rfl | hn
  · exact h151
  rcases List.mem_cons.mp hn with rfl | hn
  · exact h168
  rcases List.mem_cons.mp hn with rfl | hn
  · exact h208
  rcases List.mem_cons.mp hn with rfl | hn
  · exact h210
  exact absurd hn List.not_mem_nil) sk_211 (fun n hn => by
  rcases List.mem_cons.mp hn with rfl | hn
  · exact sk_211_0
  rcases List.mem_cons.mp hn with rfl | hn
  · exact sk_211_1
  exact absurd hn List.not_mem_nil)
/-- RaftTownModel.proves -/
def sc_212 : se_C := ((318, 4), ([(((91, 0, 0), 0, (0, 0, 0), (0, 0, 0)), (0, (0, 0, 0), (0, 0, 0))), (((0, (-2147483648), 2147483647), 0, (0, 0, 0), (0, 0, 0)), (0, (0, 1, 0), (0, 0, 0))), (((0, (-2147483648), 2147483647), 0, (0, 0, 0), (0, 0, 0)), (0, (0, 2, 0), (0, 0, 0))), (((0, (-2147483648), 2147483647), 0, (0, 0, 0), (0, 0, 0)), (0, (0, 3, 0), (0, 0, 0)))], [some (1, 0, 0), some (1, 1, 0), some (1, 2, 0), some (1, 3, 0)], [], []), [([(((0, (-2147483648), 2147483647), 0, (0, 0, 0), (0, 0, 0)), (0, (0, 0, 0), (0, 0, 0)))], some (1, 4, 0), [], [])], [(57, 0, 10), (89, 3, 4)])
def sn_212_0 : se_Nd := (84, ([(((91, 0, 0), 0, (0, 0, 0), (0, 0, 0)), (3, (0, 0, 0), (0, 0, 0))), (((0, 0, 2147483647), 0, (0, 0, 0), (0, 0, 0)), (3, (0, 1, 0), (0, 0, 0))), (((0, 0, 20), 0, (0, 0, 0), (0, 0, 0)), (3, (0, 2, 0), (0, 0, 0))), (((0, 0, 3), 0, (0, 0, 0), (0, 0, 0)), (3, (0, 3, 0), (0, 0, 0))), (((0, 0, 4095), 0, (0, 0, 0), (0, 0, 0)), (0, (0, 4, 0), (0, 0, 0))), (((0, 0, 12), 0, (0, 0, 0), (0, 0, 0)), (0, (0, 5, 0), (0, 0, 0))), (((0, 0, 12), 0, (0, 0, 0), (0, 0, 0)), (0, (0, 6, 0), (0, 0, 0)))], [some (1, 0, 0), some (1, 1, 0), some (1, 2, 0), some (1, 3, 0), some (1, 4, 0), some (1, 5, 0), some (1, 6, 0), none], [], [(.le, (1, 5, 0), (1, 6, 0))]), [(0, 0, 0), ((-1), 5, 0), (0, 0, 0), ((-1), 6, 0), (0, 0, 0)])
abbrev sn_212 : List se_Nd := [sn_212_0]
set_option maxRecDepth 100000 in
theorem sk_212 : se_chk0 se_tt [sc_151, sc_168, sc_172, sc_208] se_Z 37 se_zt sc_212 sn_212 7 = true := by decide +kernel
set_option maxRecDepth 100000 in
theorem sk_212_0 : se_chkn se_tt [sc_151, sc_168, sc_172, sc_208] se_Z 37 se_zt sc_212 sn_212 7 sn_212_0 = true := by decide +kernel
theorem sm_212 {ty : Nat → Option Nat} {J : List mm_C → Prop} {kx : Nat} {zs : List mm_Zt} (hO : se_Ok ty J kx zs) (h151 : se_Met ty se_tt J kx zs sc_151) (h168 : se_Met ty se_tt J kx zs sc_168) (h172 : se_Met ty se_tt J kx zs sc_172) (h208 : se_Met ty se_tt J kx zs sc_208) : se_Met ty se_tt J kx zs sc_212 := se_sound (C := [sc_151, sc_168, sc_172, sc_208]) hO.1 hO.2.1 hO.2.2 (fun n hn => by
  rcases List.mem_cons.mp hn with rfl | hn
  · exact h151
  rcases List.mem_cons.mp hn with rfl | hn
  · exact h168
  rcases List.mem_cons.mp hn with rfl | hn
  · exact h172
  rcases List.mem_cons.mp hn with rfl | hn
  · exact h208
  exact absurd hn List.not_mem_nil) sk_212 (fun n hn => by
  rcases List.mem_cons.mp hn with rfl | hn
  · exact sk_212_0
  exact absurd hn List.not_mem_nil)
/-- RaftTownModel.hasSail -/
def sc_213 : se_C := ((320, 1), ([(((91, 0, 0), 0, (0, 0, 0), (0, 0, 0)), (0, (0, 0, 0), (0, 0, 0))), (((0, (-2147483648), 2147483647), 0, (0, 0, 0), (0, 0, 0)), (0, (0, 1, 0), (0, 0, 0)))], [some (1, 0, 0), some (1, 1, 0)], [], []), [([(((0, 0, 1), 0, (0, 0, 0), (0, 0, 0)), (0, (0, 0, 0), (0, 0, 0)))], some (1, 2, 0), [], [])], [])
def sn_213_0 : se_Nd := (2, ([(((91, 0, 0), 0, (0, 0, 0), (0, 0, 0)), (3, (0, 0, 0), (0, 0, 0))), (((0, (-2147483648), 2147483647), 0, (0, 0, 0), (0, 0, 0)), (3, (0, 1, 0), (0, 0, 0))), (((0, 0, 10), 0, (0, 0, 0), (0, 0, 0)), (0, (0, 2, 0), (0, 0, 0)))], [some (1, 0, 0), some (1, 1, 0), some (1, 2, 0)], [], []), [(0, 0, 0), ((-1), 2, 0), (0, 0, 0)])
abbrev sn_213 : List se_Nd := [sn_213_0]
set_option maxRecDepth 100000 in
theorem sk_213 : se_chk0 se_tt [] se_Z 37 se_zt sc_213 sn_213 6 = true := by decide +kernel
set_option maxRecDepth 100000 in
theorem sk_213_0 : se_chkn se_tt [] se_Z 37 se_zt sc_213 sn_213 6 sn_213_0 = true := by decide +kernel
theorem sm_213 {ty : Nat → Option Nat} {J : List mm_C → Prop} {kx : Nat} {zs : List mm_Zt} (hO : se_Ok ty J kx zs) : se_Met ty se_tt J kx zs sc_213 := se_sound (C := []) hO.1 hO.2.1 hO.2.2 (fun _ hn => absurd hn List.not_mem_nil) sk_213 (fun n hn => by
  rcases List.mem_cons.mp hn with rfl | hn
  · exact sk_213_0
  exact absurd hn List.not_mem_nil)
/-- RaftTownModel.copies -/
def sc_214 : se_C := ((322, 1), ([(((91, 0, 0), 0, (0, 0, 0), (0, 0, 0)), (0, (0, 0, 0), (0, 0, 0)))], [some (1, 0, 0)], [], []), [([], none, [], [])], [(66, 0, 36)])
def sn_214_0 : se_Nd := (2, ([(((91, 0, 0), 0, (0, 0, 0), (0, 0, 0)), (3, (0, 0, 0), (0, 0, 0))), (((0, 0, 36), 0, (0, 0, 0), (0, 0, 0)), (0, (0, 1, 0), (0, 0, 0)))], [some (1, 0, 0), some (1, 1, 0)], [], []), [(0, 0, 0), ((-1), 1, 0), (0, 0, 0)])
abbrev sn_214 : List se_Nd := [sn_214_0]
set_option maxRecDepth 100000 in
theorem sk_214 : se_chk0 se_tt [] se_Z 37 se_zt sc_214 sn_214 4 = true := by decide +kernel
set_option maxRecDepth 100000 in
theorem sk_214_0 : se_chkn se_tt [] se_Z 37 se_zt sc_214 sn_214 4 sn_214_0 = true := by decide +kernel
theorem sm_214 {ty : Nat → Option Nat} {J : List mm_C → Prop} {kx : Nat} {zs : List mm_Zt} (hO : se_Ok ty J kx zs) : se_Met ty se_tt J kx zs sc_214 := se_sound (C := []) hO.1 hO.2.1 hO.2.2 (fun _ hn => absurd hn List.not_mem_nil) sk_214 (fun n hn => by
  rcases List.mem_cons.mp hn with rfl | hn
  · exact sk_214_0
  exact absurd hn List.not_mem_nil)
/-- RaftTownModel.patch -/
def sc_215 : se_C := ((319, 2), ([(((91, 0, 0), 0, (0, 0, 0), (0, 0, 0)), (0, (0, 0, 0), (0, 0, 0))), (((0, (-2147483648), 2147483647), 0, (0, 0, 0), (0, 0, 0)), (0, (0, 1, 0), (0, 0, 0))), (((0, (-2147483648), 2147483647), 0, (0, 0, 0), (0, 0, 0)), (0, (0, 2, 0), (0, 0, 0)))], [some (1, 0, 0), some (1, 1, 0), some (1, 2, 0)], [], []), [([(((0, (-2147483648), 2147483647), 0, (0, 0, 0), (0, 0, 0)), (0, (0, 0, 0), (0, 0, 0)))], some (1, 3, 0), [], [])], [(66, 0, 36), (67, 0, 36), (89, 3, 4)])
def sn_215_0 : se_Nd := (57, ([(((91, 0, 0), 0, (0, 0, 0), (0, 0, 0)), (3, (0, 0, 0), (0, 0, 0))), (((0, 0, 9), 0, (0, 0, 0), (0, 0, 0)), (3, (0, 1, 0), (0, 0, 0))), (((0, 0, 30), 0, (0, 0, 0), (0, 0, 0)), (3, (0, 2, 0), (0, 0, 0))), (((0, 0, 1), 0, (0, 0, 0), (0, 0, 0)), (0, (0, 3, 0), (0, 0, 0))), (((0, 0, 36), 0, (0, 0, 0), (0, 0, 0)), (0, (0, 4, 0), (0, 0, 0)))], [some (1, 0, 0), some (1, 1, 0), some (1, 2, 0), some (1, 3, 0), some (1, 4, 0), none, none], [], []), [(0, 0, 2), ((-1), 4, 0), (0, 0, 0)])
def sn_215_1 : se_Nd := (96, ([(((91, 0, 0), 0, (0, 0, 0), (0, 0, 0)), (3, (0, 0, 0), (0, 0, 0))), (((0, 0, 9), 0, (0, 0, 0), (0, 0, 0)), (3, (0, 1, 0), (0, 0, 0))), (((0, 0, 30), 0, (0, 0, 0), (0, 0, 0)), (3, (0, 2, 0), (0, 0, 0))), (((0, 0, 1), 0, (0, 0, 0), (0, 0, 0)), (0, (0, 3, 0), (0, 0, 0))), (((0, 0, 30), 0, (0, 0, 0), (0, 0, 0)), (0, (0, 4, 0), (0, 0, 0)))], [some (1, 0, 0), some (1, 1, 0), some (1, 2, 0), some (1, 3, 0), some (1, 4, 0), none, none], [], []), [(0, 0, 1), ((-1), 4, 0), (0, 0, 2)])
def sn_215_2 : se_Nd := (105, ([(((91, 0, 0), 0, (0, 0, 0), (0, 0, 0)), (3, (0, 0, 0), (0, 0, 0))), (((0, 0, 9), 0, (0, 0, 0), (0, 0, 0)), (3, (0, 1, 0), (0, 0, 0))), (((0, 1, 30), 0, (0, 0, 0), (0, 0, 0)), (3, (0, 2, 0), (0, 0, 0))), (((0, 0, 1), 0, (0, 0, 0), (0, 0, 0)), (0, (0, 3, 0), (0, 0, 0))), (((0, 0, 29), 0, (0, 0, 0), (0, 0, 0)), (0, (0, 4, 0), (0, 0, 0))), (((0, 0, 36), 0, (0, 0, 0), (0, 0, 0)), (0, (0, 5, 0), (0, 0, 0)))], [some (1, 0, 0), some (1, 1, 0), some (1, 2, 0), some (1, 3, 0), some (1, 4, 0), some (1, 5, 0), none], [], []), [(0, 0, 1), ((-1), 4, 0), (0, 0, 1), ((-1), 5, 0), (0, 0, 0)])
def sn_215_3 : se_Nd := (147, ([(((91, 0, 0), 0, (0, 0, 0), (0, 0, 0)), (3, (0, 0, 0), (0, 0, 0))), (((0, 0, 9), 0, (0, 0, 0), (0, 0, 0)), (3, (0, 1, 0), (0, 0, 0))), (((0, 1, 30), 0, (0, 0, 0), (0, 0, 0)), (3, (0, 2, 0), (0, 0, 0))), (((0, 0, 1), 0, (0, 0, 0), (0, 0, 0)), (0, (0, 3, 0), (0, 0, 0))), (((0, 0, 29), 0, (0, 0, 0), (0, 0, 0)), (0, (0, 4, 0), (0, 0, 0))), (((0, 0, 36), 0, (0, 0, 0), (0, 0, 0)), (0, (0, 5, 0), (0, 0, 0)))], [some (1, 0, 0), some (1, 1, 0), some (1, 2, 0), some (1, 3, 0), some (1, 4, 0), some (1, 5, 0), none], [], []), [(0, 0, 1), ((-1), 4, 0), (0, 0, 0), ((-1), 5, 0), (0, 0, 1)])
def sn_215_4 : se_Nd := (157, ([(((91, 0, 0), 0, (0, 0, 0), (0, 0, 0)), (3, (0, 0, 0), (0, 0, 0))), (((0, 0, 9), 0, (0, 0, 0), (0, 0, 0)), (3, (0, 1, 0), (0, 0, 0))), (((0, 1, 30), 0, (0, 0, 0), (0, 0, 0)), (3, (0, 2, 0), (0, 0, 0))), (((0, 0, 1), 0, (0, 0, 0), (0, 0, 0)), (0, (0, 3, 0), (0, 0, 0))), (((0, 0, 29), 0, (0, 0, 0), (0, 0, 0)), (0, (0, 4, 0), (0, 0, 0))), (((0, 0, 35), 0, (0, 0, 0), (0, 0, 0)), (0, (0, 5, 0), (0, 0, 0))), (((0, 0, 36), 0, (0, 0, 0), (0, 0, 0)), (0, (0, 6, 0), (0, 0, 0)))], [some (1, 0, 0), some (1, 1, 0), some (1, 2, 0), some (1, 3, 0), some (1, 4, 0), some (1, 5, 0), some (1, 6, 0)], [], []), [(0, 0, 1), ((-1), 4, 0), (0, 0, 0), ((-1), 5, 0), (0, 0, 0), ((-1), 6, 0), (0, 0, 0)])
def sn_215_5 : se_Nd := (233, ([(((91, 0, 0), 0, (0, 0, 0), (0, 0, 0)), (3, (0, 0, 0), (0, 0, 0))), (((0, 0, 9), 0, (0, 0, 0), (0, 0, 0)), (3, (0, 1, 0), (0, 0, 0))), (((0, 0, 30), 0, (0, 0, 0), (0, 0, 0)), (3, (0, 2, 0), (0, 0, 0))), (((0, 0, 1), 0, (0, 0, 0), (0, 0, 0)), (0, (0, 3, 0), (0, 0, 0))), (((0, (-2147483648), 2147483647), 0, (0, 0, 0), (0, 0, 0)), (0, (0, 4, 0), (0, 0, 0))), (((0, 0, 36), 0, (0, 0, 0), (0, 0, 0)), (0, (0, 5, 0), (0, 0, 0)))], [some (1, 0, 0), some (1, 1, 0), some (1, 2, 0), some (1, 3, 0), some (1, 4, 0), some (1, 5, 0), none], [], []), [(0, 0, 0), ((-1), 5, 0), (0, 0, 0)])
abbrev sn_215 : List se_Nd := [sn_215_0, sn_215_1, sn_215_2, sn_215_3, sn_215_4, sn_215_5]
set_option maxRecDepth 100000 in
theorem sk_215 : se_chk0 se_tt [sc_151, sc_152, sc_186, sc_213, sc_214] se_Z 37 se_zt sc_215 sn_215 7 = true := by decide +kernel
set_option maxRecDepth 100000 in
theorem sk_215_0 : se_chkn se_tt [sc_151, sc_152, sc_186, sc_213, sc_214] se_Z 37 se_zt sc_215 sn_215 7 sn_215_0 = true := by decide +kernel
set_option maxRecDepth 100000 in
theorem sk_215_1 : se_chkn se_tt [sc_151, sc_152, sc_186, sc_213, sc_214] se_Z 37 se_zt sc_215 sn_215 7 sn_215_1 = true := by decide +kernel
set_option maxRecDepth 100000 in
theorem sk_215_2 : se_chkn se_tt [sc_151, sc_152, sc_186, sc_213, sc_214] se_Z 37 se_zt sc_215 sn_215 7 sn_215_2 = true := by decide +kernel
set_option maxRecDepth 100000 in
theorem sk_215_3 : se_chkn se_tt [sc_151, sc_152, sc_186, sc_213, sc_214] se_Z 37 se_zt sc_215 sn_215 7 sn_215_3 = true := by decide +kernel
set_option maxRecDepth 100000 in
theorem sk_215_4 : se_chkn se_tt [sc_151, sc_152, sc_186, sc_213, sc_214] se_Z 37 se_zt sc_215 sn_215 7 sn_215_4 = true := by decide +kernel
set_option maxRecDepth 100000 in
theorem sk_215_5 : se_chkn se_tt [sc_151, sc_152, sc_186, sc_213, sc_214] se_Z 37 se_zt sc_215 sn_215 7 sn_215_5 = true := by decide +kernel
theorem sm_215 {ty : Nat → Option Nat} {J : List mm_C → Prop} {kx : Nat} {zs : List mm_Zt} (hO : se_Ok ty J kx zs) (h151 : se_Met ty se_tt J kx zs sc_151) (h152 : se_Met ty se_tt J kx zs sc_152) (h186 : se_Met ty se_tt J kx zs sc_186) (h213 : se_Met ty se_tt J kx zs sc_213) (h214 : se_Met ty se_tt J kx zs sc_214) : se_Met ty se_tt J kx zs sc_215 := se_sound (C := [sc_151, sc_152, sc_186, sc_213, sc_214]) hO.1 hO.2.1 hO.2.2 (fun n hn => by
  rcases List.mem_cons.mp hn with rfl | hn
  · exact h151
  rcases List.mem_cons.mp hn with rfl | hn
  · exact h152
  rcases List.mem_cons.mp hn with rfl | hn
  · exact h186
  rcases List.mem_cons.mp hn with rfl | hn
  · exact h213
  rcases List.mem_cons.mp hn with rfl | hn
  · exact h214
  exact absurd hn List.not_mem_nil) sk_215 (fun n hn => by
  rcases List.mem_cons.mp hn with rfl | hn
  · exact sk_215_0
  rcases List.mem_cons.mp hn with rfl | hn
  · exact sk_215_1
  rcases List.mem_cons.mp hn with rfl | hn
  · exact sk_215_2
  rcases List.mem_cons.mp hn with rfl | hn
  · exact sk_215_3
  rcases List.mem_cons.mp hn with rfl | hn
  · exact sk_215_4
  rcases List.mem_cons.mp hn with rfl | hn
  · exact sk_215_5
  exact absurd hn List.not_mem_nil)
/-- RaftTownModel.tow -/
def sc_216 : se_C := ((323, 2), ([(((91, 0, 0), 0, (0, 0, 0), (0, 0, 0)), (0, (0, 0, 0), (0, 0, 0))), (((0, (-2147483648), 2147483647), 0, (0, 0, 0), (0, 0, 0)), (0, (0, 1, 0), (0, 0, 0))), (((0, (-2147483648), 2147483647), 0, (0, 0, 0), (0, 0, 0)), (0, (0, 2, 0), (0, 0, 0)))], [some (1, 0, 0), some (1, 1, 0), some (1, 2, 0)], [], []), [([(((0, (-100006), 30), 0, (0, 0, 0), (0, 0, 0)), (0, (0, 0, 0), (0, 0, 0)))], some (1, 3, 0), [], [])], [(66, 0, 36), (67, 0, 36), (89, 3, 4)])
def sn_216_0 : se_Nd := (71, ([(((91, 0, 0), 0, (0, 0, 0), (0, 0, 0)), (3, (0, 0, 0), (0, 0, 0))), (((0, 0, 9), 0, (0, 0, 0), (0, 0, 0)), (3, (0, 1, 0), (0, 0, 0))), (((0, 0, 9), 0, (0, 0, 0), (0, 0, 0)), (3, (0, 2, 0), (0, 0, 0))), (((0, 0, 1), 0, (0, 0, 0), (0, 0, 0)), (0, (0, 3, 0), (0, 0, 0))), (((0, 0, 35), 0, (0, 0, 0), (0, 0, 0)), (0, (0, 4, 0), (0, 0, 0))), (((0, 0, 36), 0, (0, 0, 0), (0, 0, 0)), (0, (0, 5, 0), (0, 0, 0)))], [some (1, 0, 0), some (1, 1, 0), some (1, 2, 0), some (1, 3, 0), some (1, 4, 0), some (1, 5, 0), none, none], [], []), [(0, 0, 1), ((-1), 5, 0), (0, 0, 0)])
def sn_216_1 : se_Nd := (110, ([(((91, 0, 0), 0, (0, 0, 0), (0, 0, 0)), (3, (0, 0, 0), (0, 0, 0))), (((0, 0, 9), 0, (0, 0, 0), (0, 0, 0)), (3, (0, 1, 0), (0, 0, 0))), (((0, 0, 9), 0, (0, 0, 0), (0, 0, 0)), (3, (0, 2, 0), (0, 0, 0))), (((0, 0, 1), 0, (0, 0, 0), (0, 0, 0)), (0, (0, 3, 0), (0, 0, 0))), (((0, 0, 35), 0, (0, 0, 0), (0, 0, 0)), (0, (0, 4, 0), (0, 0, 0))), (((0, 0, 31), 0, (0, 0, 0), (0, 0, 0)), (0, (0, 5, 0), (0, 0, 0)))], [some (1, 0, 0), some (1, 1, 0), some (1, 2, 0), some (1, 3, 0), some (1, 4, 0), some (1, 5, 0), none, none], [], []), [(0, 0, 0), ((-1), 5, 0), (0, 0, 3)])
def sn_216_2 : se_Nd := (133, ([(((91, 0, 0), 0, (0, 0, 0), (0, 0, 0)), (3, (0, 0, 0), (0, 0, 0))), (((0, 0, 9), 0, (0, 0, 0), (0, 0, 0)), (3, (0, 1, 0), (0, 0, 0))), (((0, 0, 9), 0, (0, 0, 0), (0, 0, 0)), (3, (0, 2, 0), (0, 0, 0))), (((0, 0, 1), 0, (0, 0, 0), (0, 0, 0)), (0, (0, 3, 0), (0, 0, 0))), (((0, 0, 35), 0, (0, 0, 0), (0, 0, 0)), (0, (0, 4, 0), (0, 0, 0))), (((0, 0, 30), 0, (0, 0, 0), (0, 0, 0)), (0, (0, 5, 0), (0, 0, 0))), (((0, 0, 36), 0, (0, 0, 0), (0, 0, 0)), (0, (0, 6, 0), (0, 0, 0)))], [some (1, 0, 0), some (1, 1, 0), some (1, 2, 0), some (1, 3, 0), some (1, 4, 0), some (1, 5, 0), some (1, 6, 0), none], [], []), [(0, 0, 0), ((-1), 5, 0), (0, 0, 2), ((-1), 6, 0), (0, 0, 0)])
def sn_216_3 : se_Nd := (157, ([(((91, 0, 0), 0, (0, 0, 0), (0, 0, 0)), (3, (0, 0, 0), (0, 0, 0))), (((0, 0, 9), 0, (0, 0, 0), (0, 0, 0)), (3, (0, 1, 0), (0, 0, 0))), (((0, 0, 9), 0, (0, 0, 0), (0, 0, 0)), (3, (0, 2, 0), (0, 0, 0))), (((0, 0, 1), 0, (0, 0, 0), (0, 0, 0)), (0, (0, 3, 0), (0, 0, 0))), (((0, 0, 35), 0, (0, 0, 0), (0, 0, 0)), (0, (0, 4, 0), (0, 0, 0))), (((0, 0, 30), 0, (0, 0, 0), (0, 0, 0)), (0, (0, 5, 0), (0, 0, 0))), (((0, 0, 36), 0, (0, 0, 0), (0, 0, 0)), (0, (0, 6, 0), (0, 0, 0)))], [some (1, 0, 0), some (1, 1, 0), some (1, 2, 0), some (1, 3, 0), some (1, 4, 0), some (1, 5, 0), some (1, 6, 0), none], [], []), [(0, 0, 0), ((-1), 5, 0), (0, 0, 1), ((-1), 6, 0), (0, 0, 0)])
def sn_216_4 : se_Nd := (201, ([(((91, 0, 0), 0, (0, 0, 0), (0, 0, 0)), (3, (0, 0, 0), (0, 0, 0))), (((0, 0, 9), 0, (0, 0, 0), (0, 0, 0)), (3, (0, 1, 0), (0, 0, 0))), (((0, 0, 9), 0, (0, 0, 0), (0, 0, 0)), (3, (0, 2, 0), (0, 0, 0))), (((0, 0, 1), 0, (0, 0, 0), (0, 0, 0)), (0, (0, 3, 0), (0, 0, 0))), (((0, 0, 35), 0, (0, 0, 0), (0, 0, 0)), (0, (0, 4, 0), (0, 0, 0))), (((0, 0, 30), 0, (0, 0, 0), (0, 0, 0)), (0, (0, 5, 0), (0, 0, 0))), (((0, 0, 36), 0, (0, 0, 0), (0, 0, 0)), (0, (0, 6, 0), (0, 0, 0)))], [some (1, 0, 0), some (1, 1, 0), some (1, 2, 0), some (1, 3, 0), some (1, 4, 0), some (1, 5, 0), some (1, 6, 0), none], [], []), [(0, 0, 0), ((-1), 5, 0), (0, 0, 0), ((-1), 6, 0), (0, 0, 1)])
def sn_216_5 : se_Nd := (211, ([(((91, 0, 0), 0, (0, 0, 0), (0, 0, 0)), (3, (0, 0, 0), (0, 0, 0))), (((0, 0, 9), 0, (0, 0, 0), (0, 0, 0)), (3, (0, 1, 0), (0, 0, 0))), (((0, 0, 9), 0, (0, 0, 0), (0, 0, 0)), (3, (0, 2, 0), (0, 0, 0))), (((0, 0, 1), 0, (0, 0, 0), (0, 0, 0)), (0, (0, 3, 0), (0, 0, 0))), (((0, 0, 35), 0, (0, 0, 0), (0, 0, 0)), (0, (0, 4, 0), (0, 0, 0))), (((0, 0, 30), 0, (0, 0, 0), (0, 0, 0)), (0, (0, 5, 0), (0, 0, 0))), (((0, 0, 35), 0, (0, 0, 0), (0, 0, 0)), (0, (0, 6, 0), (0, 0, 0))), (((0, 0, 36), 0, (0, 0, 0), (0, 0, 0)), (0, (0, 7, 0), (0, 0, 0)))], [some (1, 0, 0), some (1, 1, 0), some (1, 2, 0), some (1, 3, 0), some (1, 4, 0), some (1, 5, 0), some (1, 6, 0), some (1, 7, 0)], [], []), [(0, 0, 0), ((-1), 5, 0), (0, 0, 0), ((-1), 6, 0), (0, 0, 0), ((-1), 7, 0), (0, 0, 0)])
abbrev sn_216 : List se_Nd := [sn_216_0, sn_216_1, sn_216_2, sn_216_3, sn_216_4, sn_216_5]
set_option maxRecDepth 100000 in
theorem sk_216 : se_chk0 se_tt [sc_151, sc_152, sc_186, sc_213, sc_214] se_Z 37 se_zt sc_216 sn_216 7 = true := by decide +kernel
set_option maxRecDepth 100000 in
theorem sk_216_0 : se_chkn se_tt [sc_151, sc_152, sc_186, sc_213, sc_214] se_Z 37 se_zt sc_216 sn_216 7 sn_216_0 = true := by decide +kernel
set_option maxRecDepth 100000 in
theorem sk_216_1 : se_chkn se_tt [sc_151, sc_152, sc_186, sc_213, sc_214] se_Z 37 se_zt sc_216 sn_216 7 sn_216_1 = true := by decide +kernel
set_option maxRecDepth 100000 in
theorem sk_216_2 : se_chkn se_tt [sc_151, sc_152, sc_186, sc_213, sc_214] se_Z 37 se_zt sc_216 sn_216 7 sn_216_2 = true := by decide +kernel
set_option maxRecDepth 100000 in
theorem sk_216_3 : se_chkn se_tt [sc_151, sc_152, sc_186, sc_213, sc_214] se_Z 37 se_zt sc_216 sn_216 7 sn_216_3 = true := by decide +kernel
set_option maxRecDepth 100000 in
theorem sk_216_4 : se_chkn se_tt [sc_151, sc_152, sc_186, sc_213, sc_214] se_Z 37 se_zt sc_216 sn_216 7 sn_216_4 = true := by decide +kernel
set_option maxRecDepth 100000 in
theorem sk_216_5 : se_chkn se_tt [sc_151, sc_152, sc_186, sc_213, sc_214] se_Z 37 se_zt sc_216 sn_216 7 sn_216_5 = true := by decide +kernel
theorem sm_216 {ty : Nat → Option Nat} {J : List mm_C → Prop} {kx : Nat} {zs : List mm_Zt} (hO : se_Ok ty J kx zs) (h151 : se_Met ty se_tt J kx zs sc_151) (h152 : se_Met ty se_tt J kx zs sc_152) (h186 : se_Met ty se_tt J kx zs sc_186) (h213 : se_Met ty se_tt J kx zs sc_213) (h214 : se_Met ty se_tt J kx zs sc_214) : se_Met ty se_tt J kx zs sc_216 := se_sound (C := [sc_151, sc_152, sc_186, sc_213, sc_214]) hO.1 hO.2.1 hO.2.2 (fun n hn => by
  rcases List.mem_cons.mp hn with rfl | hn
  · exact h151
  rcases List.mem_cons.mp hn with rfl | hn
  · exact h152
  rcases List.mem_cons.mp hn with rfl | hn
  · exact h186
  rcases List.mem_cons.mp hn with rfl | hn
  · exact h213
  rcases List.mem_cons.mp hn with rfl | hn
  · exact h214
  exact absurd hn List.not_mem_nil) sk_216 (fun n hn => by
  rcases List.mem_cons.mp hn with rfl | hn
  · exact sk_216_0
  rcases List.mem_cons.mp hn with rfl | hn
  · exact sk_216_1
  rcases List.mem_cons.mp hn with rfl | hn
  · exact sk_216_2
  rcases List.mem_cons.mp hn with rfl | hn
  · exact sk_216_3
  rcases List.mem_cons.mp hn with rfl | hn
  · exact sk_216_4
  rcases List.mem_cons.mp hn with rfl | hn
  · exact sk_216_5
  exact absurd hn List.not_mem_nil)
/-- RaftTownModel.sheet -/
def sc_217 : se_C := ((324, 1), ([(((91, 0, 0), 0, (0, 0, 0), (0, 0, 0)), (0, (0, 0, 0), (0, 0, 0))), (((0, (-2147483648), 2147483647), 0, (0, 0, 0), (0, 0, 0)), (0, (0, 1, 0), (0, 0, 0))), (((0, (-2147483648), 2147483647), 0, (0, 0, 0), (0, 0, 0)), (0, (0, 2, 0), (0, 0, 0))), (((0, (-2147483648), 2147483647), 0, (0, 0, 0), (0, 0, 0)), (0, (0, 3, 0), (0, 0, 0)))], [some (1, 0, 0), some (1, 1, 0), some (1, 2, 0), some (1, 3, 0)], [], []), [([(((0, (-100003), 20), 0, (0, 0, 0), (0, 0, 0)), (0, (0, 0, 0), (0, 0, 0)))], some (1, 4, 0), [], [])], [(68, 0, 4), (69, 0, 4), (70, 0, 80), (89, 3, 4)])
def sn_217_0 : se_Nd := (85, ([(((91, 0, 0), 0, (0, 0, 0), (0, 0, 0)), (3, (0, 0, 0), (0, 0, 0))), (((0, 0, 3), 0, (0, 0, 0), (0, 0, 0)), (3, (0, 1, 0), (0, 0, 0))), (((0, 0, 32), 0, (0, 0, 0), (0, 0, 0)), (3, (0, 2, 0), (0, 0, 0))), (((0, 0, 20), 0, (0, 0, 0), (0, 0, 0)), (3, (0, 3, 0), (0, 0, 0))), (((0, 0, 20), 0, (0, 0, 0), (0, 0, 0)), (0, (0, 4, 0), (0, 0, 0)))], [some (1, 0, 0), some (1, 1, 0), some (1, 2, 0), some (1, 3, 0), some (1, 4, 0)], [], []), [(0, 0, 0), ((-1), 4, 0), (0, 0, 0)])
abbrev sn_217 : List se_Nd := [sn_217_0]
set_option maxRecDepth 100000 in
theorem sk_217 : se_chk0 se_tt [] se_Z 37 se_zt sc_217 sn_217 6 = true := by decide +kernel
set_option maxRecDepth 100000 in
theorem sk_217_0 : se_chkn se_tt [] se_Z 37 se_zt sc_217 sn_217 6 sn_217_0 = true := by decide +kernel
theorem sm_217 {ty : Nat → Option Nat} {J : List mm_C → Prop} {kx : Nat} {zs : List mm_Zt} (hO : se_Ok ty J kx zs) : se_Met ty se_tt J kx zs sc_217 := se_sound (C := []) hO.1 hO.2.1 hO.2.2 (fun _ hn => absurd hn List.not_mem_nil) sk_217 (fun n hn => by
  rcases List.mem_cons.mp hn with rfl | hn
  · exact sk_217_0
  exact absurd hn List.not_mem_nil)
/-- RaftTownModel.put -/
def sc_218 : se_C := ((325, 1), ([(((91, 0, 0), 0, (0, 0, 0), (0, 0, 0)), (0, (0, 0, 0), (0, 0, 0))), (((0, (-2147483648), 2147483647), 0, (0, 0, 0), (0, 0, 0)), (0, (0, 1, 0), (0, 0, 0))), (((0, (-2147483648), 2147483647), 0, (0, 0, 0), (0, 0, 0)), (0, (0, 2, 0), (0, 0, 0))), (((0, (-2147483648), 2147483647), 0, (0, 0, 0), (0, 0, 0)), (0, (0, 3, 0), (0, 0, 0)))], [some (1, 0, 0), some (1, 1, 0), some (1, 2, 0), some (1, 3, 0)], [], []), [([(((0, (-100002), 0), 0, (0, 0, 0), (0, 0, 0)), (0, (0, 0, 0), (0, 0, 0)))], some (1, 4, 0), [], [])], [(70, 0, 80), (89, 3, 4)])
abbrev sn_218 : List se_Nd := []
set_option maxRecDepth 100000 in
theorem sk_218 : se_chk0 se_tt [] se_Z 37 se_zt sc_218 sn_218 7 = true := by decide +kernel
theorem sm_218 {ty : Nat → Option Nat} {J : List mm_C → Prop} {kx : Nat} {zs : List mm_Zt} (hO : se_Ok ty J kx zs) : se_Met ty se_tt J kx zs sc_218 := se_sound (C := []) hO.1 hO.2.1 hO.2.2 (fun _ hn => absurd hn List.not_mem_nil) sk_218 (fun _ hn => absurd hn List.not_mem_nil)
/-- RaftTownModel.copy -/
def sc_219 : se_C := ((326, 1), ([(((91, 0, 0), 0, (0, 0, 0), (0, 0, 0)), (0, (0, 0, 0), (0, 0, 0))), (((0, (-2147483648), 2147483647), 0, (0, 0, 0), (0, 0, 0)), (0, (0, 1, 0), (0, 0, 0))), (((0, (-2147483648), 2147483647), 0, (0, 0, 0), (0, 0, 0)), (0, (0, 2, 0), (0, 0, 0))), (((0, (-2147483648), 2147483647), 0, (0, 0, 0), (0, 0, 0)), (0, (0, 3, 0), (0, 0, 0))), (((0, (-2147483648), 2147483647), 0, (0, 0, 0), (0, 0, 0)), (0, (0, 4, 0), (0, 0, 0))), (((0, (-2147483648), 2147483647), 0, (0, 0, 0), (0, 0, 0)), (0, (0, 5, 0), (0, 0, 0)))], [some (1, 0, 0), some (1, 1, 0), some (1, 2, 0), some (1, 3, 0), some (1, 4, 0), some (1, 5, 0)], [], []), [([(((0, (-100004), 20), 0, (0, 0, 0), (0, 0, 0)), (0, (0, 0, 0), (0, 0, 0)))], some (1, 6, 0), [], [])], [(70, 0, 80), (71, 0, 20), (89, 3, 4)])
def sn_219_0 : se_Nd := (127, ([(((91, 0, 0), 0, (0, 0, 0), (0, 0, 0)), (3, (0, 0, 0), (0, 0, 0))), (((0, 0, 3), 0, (0, 0, 0), (0, 0, 0)), (3, (0, 1, 0), (0, 0, 0))), (((0, 0, 20), 0, (0, 0, 0), (0, 0, 0)), (3, (0, 2, 0), (0, 0, 0))), (((0, 0, 3), 0, (0, 0, 0), (0, 0, 0)), (3, (0, 3, 0), (0, 0, 0))), (((0, 0, 20), 0, (0, 0, 0), (0, 0, 0)), (3, (0, 4, 0), (0, 0, 0))), (((0, 0, 20), 0, (0, 0, 0), (0, 0, 0)), (3, (0, 5, 0), (0, 0, 0))), (((0, 0, 20), 0, (0, 0, 0), (0, 0, 0)), (0, (0, 6, 0), (0, 0, 0))), (((0, (-2147483648), 2147483647), 1, (1, 2, 0), (1, 5, 0)), (2, (0, 0, 0), (0, 0, 0))), (((0, (-2147483648), 2147483647), 1, (1, 4, 0), (1, 5, 0)), (2, (0, 0, 0), (0, 0, 0)))], [some (1, 0, 0), some (1, 1, 0), some (1, 2, 0), some (1, 3, 0), some (1, 4, 0), some (1, 5, 0), some (1, 6, 0)], [], [(.le, (1, 7, 0), (0, 0, 20)), (.le, (1, 8, 0), (0, 0, 20))]), [(0, 0, 1), ((-1), 6, 0), (0, 0, 0)])
def sn_219_1 : se_Nd := (164, ([(((91, 0, 0), 0, (0, 0, 0), (0, 0, 0)), (3, (0, 0, 0), (0, 0, 0))), (((0, 0, 3), 0, (0, 0, 0), (0, 0, 0)), (3, (0, 1, 0), (0, 0, 0))), (((0, 0, 20), 0, (0, 0, 0), (0, 0, 0)), (3, (0, 2, 0), (0, 0, 0))), (((0, 0, 3), 0, (0, 0, 0), (0, 0, 0)), (3, (0, 3, 0), (0, 0, 0))), (((0, 0, 20), 0, (0, 0, 0), (0, 0, 0)), (3, (0, 4, 0), (0, 0, 0))), (((0, 0, 20), 0, (0, 0, 0), (0, 0, 0)), (3, (0, 5, 0), (0, 0, 0))), (((0, 0, 20), 0, (0, 0, 0), (0, 0, 0)), (0, (0, 6, 0), (0, 0, 0))), (((0, (-2147483648), 2147483647), 1, (1, 2, 0), (1, 5, 0)), (2, (0, 0, 0), (0, 0, 0))), (((0, (-2147483648), 2147483647), 1, (1, 4, 0), (1, 5, 0)), (2, (0, 0, 0), (0, 0, 0)))], [some (1, 0, 0), some (1, 1, 0), some (1, 2, 0), some (1, 3, 0), some (1, 4, 0), some (1, 5, 0), some (1, 6, 0)], [], [(.le, (1, 7, 0), (0, 0, 20)), (.le, (1, 8, 0), (0, 0, 20))]), [(0, 0, 0), ((-1), 6, 0), (0, 0, 0)])
abbrev sn_219 : List se_Nd := [sn_219_0, sn_219_1]
set_option maxRecDepth 100000 in
theorem sk_219 : se_chk0 se_tt [] se_Z 37 se_zt sc_219 sn_219 7 = true := by decide +kernel
set_option maxRecDepth 100000 in
theorem sk_219_0 : se_chkn se_tt [] se_Z 37 se_zt sc_219 sn_219 7 sn_219_0 = true := by decide +kernel
set_option maxRecDepth 100000 in
theorem sk_219_1 : se_chkn se_tt [] se_Z 37 se_zt sc_219 sn_219 7 sn_219_1 = true := by decide +kernel
theorem sm_219 {ty : Nat → Option Nat} {J : List mm_C → Prop} {kx : Nat} {zs : List mm_Zt} (hO : se_Ok ty J kx zs) : se_Met ty se_tt J kx zs sc_219 := se_sound (C := []) hO.1 hO.2.1 hO.2.2 (fun _ hn => absurd hn List.not_mem_nil) sk_219 (fun n hn => by
  rcases List.mem_cons.mp hn with rfl | hn
  · exact sk_219_0
  rcases List.mem_cons.mp hn with rfl | hn
  · exact sk_219_1
  exact absurd hn List.not_mem_nil)
/-- RaftTownModel.count -/
def sc_220 : se_C := ((329, 2), ([(((91, 0, 0), 0, (0, 0, 0), (0, 0, 0)), (0, (0, 0, 0), (0, 0, 0))), (((0, (-2147483648), 2147483647), 0, (0, 0, 0), (0, 0, 0)), (0, (0, 1, 0), (0, 0, 0)))], [some (1, 0, 0), some (1, 1, 0)], [], []), [([(((0, (-2147483648), 2147483647), 0, (0, 0, 0), (0, 0, 0)), (0, (0, 0, 0), (0, 0, 0)))], some (1, 2, 0), [], [])], [(89, 3, 4)])
def sn_220_0 : se_Nd := (50, ([(((91, 0, 0), 0, (0, 0, 0), (0, 0, 0)), (3, (0, 0, 0), (0, 0, 0))), (((0, 0, 0), 0, (0, 0, 0), (0, 0, 0)), (3, (0, 1, 0), (0, 0, 0))), (((0, (-2147483648), 2147483647), 0, (0, 0, 0), (0, 0, 0)), (0, (0, 2, 0), (0, 0, 0))), (((0, 0, 10), 0, (0, 0, 0), (0, 0, 0)), (0, (0, 3, 0), (0, 0, 0)))], [some (1, 0, 0), some (1, 1, 0), some (1, 2, 0), some (1, 3, 0)], [], []), [(0, 0, 0), ((-1), 3, 0), (0, 0, 0)])
def sn_220_1 : se_Nd := (86, ([(((91, 0, 0), 0, (0, 0, 0), (0, 0, 0)), (3, (0, 0, 0), (0, 0, 0))), (((0, 1, 1), 0, (0, 0, 0), (0, 0, 0)), (3, (0, 1, 0), (0, 0, 0))), (((0, (-2147483648), 2147483647), 0, (0, 0, 0), (0, 0, 0)), (0, (0, 2, 0), (0, 0, 0))), (((0, 0, 14), 0, (0, 0, 0), (0, 0, 0)), (0, (0, 3, 0), (0, 0, 0)))], [some (1, 0, 0), some (1, 1, 0), some (1, 2, 0), some (1, 3, 0)], [], []), [(0, 0, 1), ((-1), 3, 0), (0, 0, 0)])
def sn_220_2 : se_Nd := (137, ([(((91, 0, 0), 0, (0, 0, 0), (0, 0, 0)), (3, (0, 0, 0), (0, 0, 0))), (((0, 4, 4), 0, (0, 0, 0), (0, 0, 0)), (3, (0, 1, 0), (0, 0, 0))), (((0, (-2147483648), 2147483647), 0, (0, 0, 0), (0, 0, 0)), (0, (0, 2, 0), (0, 0, 0))), (((0, 0, 10), 0, (0, 0, 0), (0, 0, 0)), (0, (0, 3, 0), (0, 0, 0)))], [some (1, 0, 0), some (1, 1, 0), some (1, 2, 0), some (1, 3, 0)], [], []), [(0, 0, 2), ((-1), 3, 0), (0, 0, 0)])
abbrev sn_220 : List se_Nd := [sn_220_0, sn_220_1, sn_220_2]
set_option maxRecDepth 100000 in
theorem sk_220 : se_chk0 se_tt [sc_151, sc_208] se_Z 37 se_zt sc_220 sn_220 6 = true := by decide +kernel
set_option maxRecDepth 100000 in
theorem sk_220_0 : se_chkn se_tt [sc_151, sc_208] se_Z 37 se_zt sc_220 sn_220 6 sn_220_0 = true := by decide +kernel
set_option maxRecDepth 100000 in
theorem sk_220_1 : se_chkn se_tt [sc_151, sc_208] se_Z 37 se_zt sc_220 sn_220 6 sn_220_1 = true := by decide +kernel
set_option maxRecDepth 100000 in
theorem sk_220_2 : se_chkn se_tt [sc_151, sc_208] se_Z 37 se_zt sc_220 sn_220 6 sn_220_2 = true := by decide +kernel
theorem sm_220 {ty : Nat → Option Nat} {J : List mm_C → Prop} {kx : Nat} {zs : List mm_Zt} (hO : se_Ok ty J kx zs) (h151 : se_Met ty se_tt J kx zs sc_151) (h208 : se_Met ty se_tt J kx zs sc_208) : se_Met ty se_tt J kx zs sc_220 := se_sound (C := [sc_151, sc_208]) hO.1 hO.2.1 hO.2.2 (fun n hn => by
  rcases List.mem_cons.mp hn with rfl | hn
  · exact h151
  rcases List.mem_cons.mp hn with rfl | hn
  · exact h208
  exact absurd hn List.not_mem_nil) sk_220 (fun n hn => by
  rcases List.mem_cons.mp hn with rfl | hn
  · exact sk_220_0
  rcases List.mem_cons.mp hn with rfl | hn
  · exact sk_220_1
  rcases List.mem_cons.mp hn with rfl | hn
  · exact sk_220_2
  exact absurd hn List.not_mem_nil)
