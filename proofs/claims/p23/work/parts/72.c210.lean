/-! ===== printed by wip/p2/gen_tab.py: contracts and their checks ===== -/
/-- RaftTownModel.drinks -/
def sc_210 : se_C := ((273, 1), ([(((91, 0, 0), 0, (0, 0, 0), (0, 0, 0)), (0, (0, 0, 0), (0, 0, 0))), (((0, 0, 9), 0, (0, 0, 0), (0, 0, 0)), (0, (0, 1, 0), (0, 0, 0)))], [some (1, 0, 0), some (1, 1, 0)], [], []), [([(((0, 0, 1), 0, (0, 0, 0), (0, 0, 0)), (0, (0, 0, 0), (0, 0, 0)))], some (1, 2, 0), [], [])], [(56, 4, 5), (56, 80, 150)])
abbrev sn_210 : List se_Nd := []
set_option maxRecDepth 100000 in
theorem sk_210 : se_chk0 se_tt [] se_Z 37 se_zt sc_210 sn_210 6 = true := by decide +kernel
theorem sm_210 {ty : Nat → Option Nat} {J : List mm_C → Prop} {kx : Nat} {zs : List mm_Zt} (hO : se_Ok ty J kx zs) : se_Met ty se_tt J kx zs sc_210 := se_sound (C := []) hO.1 hO.2.1 hO.2.2 (fun _ hn => absurd hn List.not_mem_nil) sk_210 (fun _ hn => absurd hn List.not_mem_nil)
/-- RaftTownModel.rains -/
def sc_211 : se_C := ((272, 2), ([(((91, 0, 0), 0, (0, 0, 0), (0, 0, 0)), (0, (0, 0, 0), (0, 0, 0))), (((0, (-2147483648), 2147483647), 0, (0, 0, 0), (0, 0, 0)), (0, (0, 1, 0), (0, 0, 0)))], [some (1, 0, 0), some (1, 1, 0)], [], []), [([], none, [], [])], [(56, 4, 5), (56, 80, 150)])
def sn_211_0 : se_Nd := (2, ([(((91, 0, 0), 0, (0, 0, 0), (0, 0, 0)), (3, (0, 0, 0), (0, 0, 0))), (((0, (-2147483648), 2147483647), 0, (0, 0, 0), (0, 0, 0)), (3, (0, 1, 0), (0, 0, 0))), (((0, 0, 10), 0, (0, 0, 0), (0, 0, 0)), (0, (0, 2, 0), (0, 0, 0)))], [some (1, 0, 0), some (1, 1, 0), some (1, 2, 0), none], [], []), [(0, 0, 1), ((-1), 2, 0), (0, 0, 0)])
def sn_211_1 : se_Nd := (70, ([(((91, 0, 0), 0, (0, 0, 0), (0, 0, 0)), (3, (0, 0, 0), (0, 0, 0))), (((0, (-2147483648), 2147483647), 0, (0, 0, 0), (0, 0, 0)), (3, (0, 1, 0), (0, 0, 0))), (((0, 0, 10), 0, (0, 0, 0), (0, 0, 0)), (0, (0, 2, 0), (0, 0, 0)))], [some (1, 0, 0), some (1, 1, 0), some (1, 2, 0), none], [], []), [(0, 0, 0), ((-1), 2, 0), (0, 0, 0)])
abbrev sn_211 : List se_Nd := [sn_211_0, sn_211_1]
set_option maxRecDepth 100000 in
theorem sk_211 : se_chk0 se_tt [sc_180, sc_210] se_Z 37 se_zt sc_211 sn_211 8 = true := by decide +kernel
set_option maxRecDepth 100000 in
theorem sk_211_0 : se_chkn se_tt [sc_180, sc_210] se_Z 37 se_zt sc_211 sn_211 8 sn_211_0 = true := by decide +kernel
set_option maxRecDepth 100000 in
theorem sk_211_1 : se_chkn se_tt [sc_180, sc_210] se_Z 37 se_zt sc_211 sn_211 8 sn_211_1 = true := by decide +kernel
theorem sm_211 {ty : Nat → Option Nat} {J : List mm_C → Prop} {kx : Nat} {zs : List mm_Zt} (hO : se_Ok ty J kx zs) (h180 : se_Met ty se_tt J kx zs sc_180) (h210 : se_Met ty se_tt J kx zs sc_210) : se_Met ty se_tt J kx zs sc_211 := se_sound (C := [sc_180, sc_210]) hO.1 hO.2.1 hO.2.2 (fun n hn => by
  rcases List.mem_cons.mp hn with rfl | hn
  · exact h180
  rcases List.mem_cons.mp hn with rfl | hn
  · exact h210
  exact absurd hn List.not_mem_nil) sk_211 (fun n hn => by
  rcases List.mem_cons.mp hn with rfl | hn
  · exact sk_211_0
  rcases List.mem_cons.mp hn with rfl | hn
  · exact sk_211_1
  exact absurd hn List.not_mem_nil)
/-- RaftTownModel.loses -/
def sc_212 : se_C := ((275, 2), ([(((91, 0, 0), 0, (0, 0, 0), (0, 0, 0)), (0, (0, 0, 0), (0, 0, 0))), (((0, 0, 13), 0, (0, 0, 0), (0, 0, 0)), (0, (0, 1, 0), (0, 0, 0))), (((0, (-2147483648), 2147483647), 0, (0, 0, 0), (0, 0, 0)), (0, (0, 2, 0), (0, 0, 0)))], [some (1, 0, 0), some (1, 1, 0), some (1, 2, 0)], [], []), [([], none, [], [])], [(56, 6, 7), (56, 150, 248), (56, 344, 504)])
abbrev sn_212 : List se_Nd := []
set_option maxRecDepth 100000 in
theorem sk_212 : se_chk0 se_tt [sc_197] se_Z 37 se_zt sc_212 sn_212 5 = true := by decide +kernel
theorem sm_212 {ty : Nat → Option Nat} {J : List mm_C → Prop} {kx : Nat} {zs : List mm_Zt} (hO : se_Ok ty J kx zs) (h197 : se_Met ty se_tt J kx zs sc_197) : se_Met ty se_tt J kx zs sc_212 := se_sound (C := [sc_197]) hO.1 hO.2.1 hO.2.2 (fun n hn => by
  rcases List.mem_cons.mp hn with rfl | hn
  · exact h197
  exact absurd hn List.not_mem_nil) sk_212 (fun _ hn => absurd hn List.not_mem_nil)
/-- RaftTownModel.allDrink -/
def sc_213 : se_C := ((274, 3), ([(((91, 0, 0), 0, (0, 0, 0), (0, 0, 0)), (0, (0, 0, 0), (0, 0, 0)))], [some (1, 0, 0)], [], []), [([], none, [], [])], [(56, 4, 5), (56, 6, 7), (56, 80, 150), (56, 150, 248), (56, 344, 504)])
def sn_213_0 : se_Nd := (7, ([(((91, 0, 0), 0, (0, 0, 0), (0, 0, 0)), (3, (0, 0, 0), (0, 0, 0))), (((0, 0, 4095), 0, (0, 0, 0), (0, 0, 0)), (0, (0, 1, 0), (0, 0, 0))), (((0, 0, 14), 0, (0, 0, 0), (0, 0, 0)), (0, (0, 2, 0), (0, 0, 0)))], [some (1, 0, 0), some (1, 1, 0), some (1, 2, 0), none, none, none], [], []), [(0, 0, 0), ((-1), 2, 0), (0, 0, 1)])
def sn_213_1 : se_Nd := (51, ([(((91, 0, 0), 0, (0, 0, 0), (0, 0, 0)), (3, (0, 0, 0), (0, 0, 0))), (((0, 0, 4095), 0, (0, 0, 0), (0, 0, 0)), (0, (0, 1, 0), (0, 0, 0))), (((0, 0, 13), 0, (0, 0, 0), (0, 0, 0)), (0, (0, 2, 0), (0, 0, 0))), (((0, 1, 1023), 0, (0, 0, 0), (0, 0, 0)), (0, (0, 3, 0), (0, 0, 0))), (((0, 0, 9), 0, (0, 0, 0), (0, 0, 0)), (0, (0, 4, 0), (0, 0, 0))), (((0, 0, 10), 0, (0, 0, 0), (0, 0, 0)), (0, (0, 5, 0), (0, 0, 0)))], [some (1, 0, 0), some (1, 1, 0), some (1, 2, 0), some (1, 3, 0), some (1, 4, 0), some (1, 5, 0)], [], []), [(0, 0, 0), ((-1), 2, 0), (0, 0, 0), ((-1), 5, 0), (0, 0, 0)])
abbrev sn_213 : List se_Nd := [sn_213_0, sn_213_1]
set_option maxRecDepth 100000 in
theorem sk_213 : se_chk0 se_tt [sc_182, sc_183, sc_210, sc_212] se_Z 37 se_zt sc_213 sn_213 7 = true := by decide +kernel
set_option maxRecDepth 100000 in
theorem sk_213_0 : se_chkn se_tt [sc_182, sc_183, sc_210, sc_212] se_Z 37 se_zt sc_213 sn_213 7 sn_213_0 = true := by decide +kernel
set_option maxRecDepth 100000 in
theorem sk_213_1 : se_chkn se_tt [sc_182, sc_183, sc_210, sc_212] se_Z 37 se_zt sc_213 sn_213 7 sn_213_1 = true := by decide +kernel
theorem sm_213 {ty : Nat → Option Nat} {J : List mm_C → Prop} {kx : Nat} {zs : List mm_Zt} (hO : se_Ok ty J kx zs) (h182 : se_Met ty se_tt J kx zs sc_182) (h183 : se_Met ty se_tt J kx zs sc_183) (h210 : se_Met ty se_tt J kx zs sc_210) (h212 : se_Met ty se_tt J kx zs sc_212) : se_Met ty se_tt J kx zs sc_213 := se_sound (C := [sc_182, sc_183, sc_210, sc_212]) hO.1 hO.2.1 hO.2.2 (fun n hn => by
  rcases List.mem_cons.mp hn with rfl | hn
  · exact h182
  rcases List.mem_cons.mp hn with rfl | hn
  · exact h183
  rcases List.mem_cons.mp hn with rfl | hn
  · exact h210
  rcases List.mem_cons.mp hn with rfl | hn
  · exact h212
  exact absurd hn List.not_mem_nil) sk_213 (fun n hn => by
  rcases List.mem_cons.mp hn with rfl | hn
  · exact sk_213_0
  rcases List.mem_cons.mp hn with rfl | hn
  · exact sk_213_1
  exact absurd hn List.not_mem_nil)
/-- RaftTownModel.ropesAge -/
def sc_214 : se_C := ((276, 1), ([(((91, 0, 0), 0, (0, 0, 0), (0, 0, 0)), (0, (0, 0, 0), (0, 0, 0))), (((0, (-2147483648), 2147483647), 0, (0, 0, 0), (0, 0, 0)), (0, (0, 1, 0), (0, 0, 0)))], [some (1, 0, 0), some (1, 1, 0)], [], []), [([], none, [], [])], [(56, 248, 344)])
def sn_214_0 : se_Nd := (2, ([(((91, 0, 0), 0, (0, 0, 0), (0, 0, 0)), (3, (0, 0, 0), (0, 0, 0))), (((0, (-2147483648), 2147483647), 0, (0, 0, 0), (0, 0, 0)), (3, (0, 1, 0), (0, 0, 0))), (((0, 0, 12), 0, (0, 0, 0), (0, 0, 0)), (0, (0, 2, 0), (0, 0, 0)))], [some (1, 0, 0), some (1, 1, 0), some (1, 2, 0)], [], []), [(0, 0, 0), ((-1), 2, 0), (0, 0, 0)])
abbrev sn_214 : List se_Nd := [sn_214_0]
set_option maxRecDepth 100000 in
theorem sk_214 : se_chk0 se_tt [] se_Z 37 se_zt sc_214 sn_214 6 = true := by decide +kernel
set_option maxRecDepth 100000 in
theorem sk_214_0 : se_chkn se_tt [] se_Z 37 se_zt sc_214 sn_214 6 sn_214_0 = true := by decide +kernel
theorem sm_214 {ty : Nat → Option Nat} {J : List mm_C → Prop} {kx : Nat} {zs : List mm_Zt} (hO : se_Ok ty J kx zs) : se_Met ty se_tt J kx zs sc_214 := se_sound (C := []) hO.1 hO.2.1 hO.2.2 (fun _ hn => absurd hn List.not_mem_nil) sk_214 (fun n hn => by
  rcases List.mem_cons.mp hn with rfl | hn
  · exact sk_214_0
  exact absurd hn List.not_mem_nil)
/-- RaftTownModel.sinks -/
def sc_215 : se_C := ((278, 3), ([(((91, 0, 0), 0, (0, 0, 0), (0, 0, 0)), (0, (0, 0, 0), (0, 0, 0))), (((0, 0, 9), 0, (0, 0, 0), (0, 0, 0)), (0, (0, 1, 0), (0, 0, 0)))], [some (1, 0, 0), some (1, 1, 0)], [], []), [([], none, [], [])], [(56, 5, 6), (56, 6, 7), (56, 80, 150), (56, 150, 248), (56, 248, 344), (56, 344, 504)])
def sn_215_0 : se_Nd := (28, ([(((91, 0, 0), 0, (0, 0, 0), (0, 0, 0)), (3, (0, 0, 0), (0, 0, 0))), (((0, 0, 9), 0, (0, 0, 0), (0, 0, 0)), (3, (0, 1, 0), (0, 0, 0))), (((0, 1, 1023), 0, (0, 0, 0), (0, 0, 0)), (0, (0, 2, 0), (0, 0, 0))), (((0, 0, 1023), 0, (0, 0, 0), (0, 0, 0)), (0, (0, 3, 0), (0, 0, 0))), (((0, 0, 14), 0, (0, 0, 0), (0, 0, 0)), (0, (0, 4, 0), (0, 0, 0)))], [some (1, 0, 0), some (1, 1, 0), some (1, 2, 0), some (1, 3, 0), some (1, 4, 0)], [], []), [(0, 0, 1), ((-1), 4, 0), (0, 0, 0)])
def sn_215_1 : se_Nd := (137, ([(((91, 0, 0), 0, (0, 0, 0), (0, 0, 0)), (3, (0, 0, 0), (0, 0, 0))), (((0, 0, 9), 0, (0, 0, 0), (0, 0, 0)), (3, (0, 1, 0), (0, 0, 0))), (((0, 1, 1023), 0, (0, 0, 0), (0, 0, 0)), (0, (0, 2, 0), (0, 0, 0))), (((0, 0, 1023), 0, (0, 0, 0), (0, 0, 0)), (0, (0, 3, 0), (0, 0, 0))), (((0, 0, 12), 0, (0, 0, 0), (0, 0, 0)), (0, (0, 4, 0), (0, 0, 0)))], [some (1, 0, 0), some (1, 1, 0), some (1, 2, 0), some (1, 3, 0), some (1, 4, 0)], [], []), [(0, 0, 0), ((-1), 4, 0), (0, 0, 0)])
abbrev sn_215 : List se_Nd := [sn_215_0, sn_215_1]
set_option maxRecDepth 100000 in
theorem sk_215 : se_chk0 se_tt [sc_h1, sc_182, sc_183, sc_197, sc_212] se_Z 37 se_zt sc_215 sn_215 7 = true := by decide +kernel
set_option maxRecDepth 100000 in
theorem sk_215_0 : se_chkn se_tt [sc_h1, sc_182, sc_183, sc_197, sc_212] se_Z 37 se_zt sc_215 sn_215 7 sn_215_0 = true := by decide +kernel
set_option maxRecDepth 100000 in
theorem sk_215_1 : se_chkn se_tt [sc_h1, sc_182, sc_183, sc_197, sc_212] se_Z 37 se_zt sc_215 sn_215 7 sn_215_1 = true := by decide +kernel
theorem sm_215 {ty : Nat → Option Nat} {J : List mm_C → Prop} {kx : Nat} {zs : List mm_Zt} (hO : se_Ok ty J kx zs) (hh1 : se_Met ty se_tt J kx zs sc_h1) (h182 : se_Met ty se_tt J kx zs sc_182) (h183 : se_Met ty se_tt J kx zs sc_183) (h197 : se_Met ty se_tt J kx zs sc_197) (h212 : se_Met ty se_tt J kx zs sc_212) : se_Met ty se_tt J kx zs sc_215 := se_sound (C := [sc_h1, sc_182, sc_183, sc_197, sc_212]) hO.1 hO.2.1 hO.2.2 (fun n hn => by
  rcases List.mem_cons.mp hn with rfl | hn
  · exact hh1
  rcases List.mem_cons.mp hn with rfl | hn
  · exact h182
  rcases List.mem_cons.mp hn with rfl | hn
  · exact h183
  rcases List.mem_cons.mp hn with rfl | hn
  · exact h197
  rcases List.mem_cons.mp hn with rfl | hn
  · exact h212
  exact absurd hn List.not_mem_nil) sk_215 (fun n hn => by
  rcases List.mem_cons.mp hn with rfl | hn
  · exact sk_215_0
  rcases List.mem_cons.mp hn with rfl | hn
  · exact sk_215_1
  exact absurd hn List.not_mem_nil)
/-- RaftTownModel.rots -/
def sc_216 : se_C := ((277, 4), ([(((91, 0, 0), 0, (0, 0, 0), (0, 0, 0)), (0, (0, 0, 0), (0, 0, 0)))], [some (1, 0, 0)], [], []), [([], none, [], [])], [(56, 5, 6), (56, 6, 7), (56, 80, 150), (56, 150, 248), (56, 248, 344), (56, 344, 504)])
def sn_216_0 : se_Nd := (2, ([(((91, 0, 0), 0, (0, 0, 0), (0, 0, 0)), (3, (0, 0, 0), (0, 0, 0))), (((0, 0, 10), 0, (0, 0, 0), (0, 0, 0)), (0, (0, 1, 0), (0, 0, 0)))], [some (1, 0, 0), some (1, 1, 0)], [], []), [(0, 0, 0), ((-1), 1, 0), (0, 0, 0)])
abbrev sn_216 : List se_Nd := [sn_216_0]
set_option maxRecDepth 100000 in
theorem sk_216 : se_chk0 se_tt [sc_215] se_Z 37 se_zt sc_216 sn_216 7 = true := by decide +kernel
set_option maxRecDepth 100000 in
theorem sk_216_0 : se_chkn se_tt [sc_215] se_Z 37 se_zt sc_216 sn_216 7 sn_216_0 = true := by decide +kernel
theorem sm_216 {ty : Nat → Option Nat} {J : List mm_C → Prop} {kx : Nat} {zs : List mm_Zt} (hO : se_Ok ty J kx zs) (h215 : se_Met ty se_tt J kx zs sc_215) : se_Met ty se_tt J kx zs sc_216 := se_sound (C := [sc_215]) hO.1 hO.2.1 hO.2.2 (fun n hn => by
  rcases List.mem_cons.mp hn with rfl | hn
  · exact h215
  exact absurd hn List.not_mem_nil) sk_216 (fun n hn => by
  rcases List.mem_cons.mp hn with rfl | hn
  · exact sk_216_0
  exact absurd hn List.not_mem_nil)
/-- RaftTownModel.leads -/
def sc_217 : se_C := ((280, 1), ([(((91, 0, 0), 0, (0, 0, 0), (0, 0, 0)), (0, (0, 0, 0), (0, 0, 0))), (((0, 0, 35), 0, (0, 0, 0), (0, 0, 0)), (0, (0, 1, 0), (0, 0, 0))), (((0, 0, 35), 0, (0, 0, 0), (0, 0, 0)), (0, (0, 2, 0), (0, 0, 0)))], [some (1, 0, 0), some (1, 1, 0), some (1, 2, 0)], [], []), [([(((0, 0, 35), 0, (0, 0, 0), (0, 0, 0)), (0, (0, 0, 0), (0, 0, 0)))], some (1, 3, 0), [], [])], [])
abbrev sn_217 : List se_Nd := []
set_option maxRecDepth 100000 in
theorem sk_217 : se_chk0 se_tt [] se_Z 37 se_zt sc_217 sn_217 6 = true := by decide +kernel
theorem sm_217 {ty : Nat → Option Nat} {J : List mm_C → Prop} {kx : Nat} {zs : List mm_Zt} (hO : se_Ok ty J kx zs) : se_Met ty se_tt J kx zs sc_217 := se_sound (C := []) hO.1 hO.2.1 hO.2.2 (fun _ hn => absurd hn List.not_mem_nil) sk_217 (fun _ hn => absurd hn List.not_mem_nil)
/-- RaftTownModel.drifts -/
def sc_218 : se_C := ((279, 2), ([(((91, 0, 0), 0, (0, 0, 0), (0, 0, 0)), (0, (0, 0, 0), (0, 0, 0)))], [some (1, 0, 0)], [], []), [([], none, [], [])], [(56, 80, 150)])
def sn_218_0 : se_Nd := (2, ([(((91, 0, 0), 0, (0, 0, 0), (0, 0, 0)), (3, (0, 0, 0), (0, 0, 0))), (((0, 0, 10), 0, (0, 0, 0), (0, 0, 0)), (0, (0, 1, 0), (0, 0, 0)))], [some (1, 0, 0), some (1, 1, 0)], [], []), [(0, 0, 0), ((-1), 1, 0), (0, 0, 0)])
abbrev sn_218 : List se_Nd := [sn_218_0]
set_option maxRecDepth 100000 in
theorem sk_218 : se_chk0 se_tt [sc_217] se_Z 37 se_zt sc_218 sn_218 7 = true := by decide +kernel
set_option maxRecDepth 100000 in
theorem sk_218_0 : se_chkn se_tt [sc_217] se_Z 37 se_zt sc_218 sn_218 7 sn_218_0 = true := by decide +kernel
theorem sm_218 {ty : Nat → Option Nat} {J : List mm_C → Prop} {kx : Nat} {zs : List mm_Zt} (hO : se_Ok ty J kx zs) (h217 : se_Met ty se_tt J kx zs sc_217) : se_Met ty se_tt J kx zs sc_218 := se_sound (C := [sc_217]) hO.1 hO.2.1 hO.2.2 (fun n hn => by
  rcases List.mem_cons.mp hn with rfl | hn
  · exact h217
  exact absurd hn List.not_mem_nil) sk_218 (fun n hn => by
  rcases List.mem_cons.mp hn with rfl | hn
  · exact sk_218_0
  exact absurd hn List.not_mem_nil)
/-- RaftTownModel.day -/
def sc_219 : se_C := ((269, 6), ([(((91, 0, 0), 0, (0, 0, 0), (0, 0, 0)), (0, (0, 0, 0), (0, 0, 0))), (((0, (-2147483648), 2147483647), 0, (0, 0, 0), (0, 0, 0)), (0, (0, 1, 0), (0, 0, 0))), (((0, (-2147483648), 2147483647), 0, (0, 0, 0), (0, 0, 0)), (0, (0, 2, 0), (0, 0, 0)))], [some (1, 0, 0), some (1, 1, 0), some (1, 2, 0)], [], []), [([(((0, (-2147483648), 2147483647), 0, (0, 0, 0), (0, 0, 0)), (0, (0, 0, 0), (0, 0, 0)))], some (1, 3, 0), [], [])], [(56, 3, 4), (56, 4, 5), (56, 5, 6), (56, 6, 7), (56, 80, 150), (56, 150, 248), (56, 248, 344), (56, 344, 504), (57, 0, 10), (89, 3, 4)])
abbrev sn_219 : List se_Nd := []
set_option maxRecDepth 100000 in
theorem sk_219 : se_chk0 se_tt [sc_209, sc_211, sc_213, sc_214, sc_216, sc_218] se_Z 37 se_zt sc_219 sn_219 6 = true := by decide +kernel
theorem sm_219 {ty : Nat → Option Nat} {J : List mm_C → Prop} {kx : Nat} {zs : List mm_Zt} (hO : se_Ok ty J kx zs) (h209 : se_Met ty se_tt J kx zs sc_209) (h211 : se_Met ty se_tt J kx zs sc_211) (h213 : se_Met ty se_tt J kx zs sc_213) (h214 : se_Met ty se_tt J kx zs sc_214) (h216 : se_Met ty se_tt J kx zs sc_216) (h218 : se_Met ty se_tt J kx zs sc_218) : se_Met ty se_tt J kx zs sc_219 := se_sound (C := [sc_209, sc_211, sc_213, sc_214, sc_216, sc_218]) hO.1 hO.2.1 hO.2.2 (fun n hn => by
  rcases List.mem_cons.mp hn with rfl | hn
  · exact h209
  rcases List.mem_cons.mp hn with rfl | hn
  · exact h211
  rcases List.mem_cons.mp hn with rfl | hn
  · exact h213
  rcases List.mem_cons.mp hn with rfl | hn
  · exact h214
  rcases List.mem_cons.mp hn with rfl | hn
  · exact h216
  rcases List.mem_cons.mp hn with rfl | hn
  · exact h218
  exact absurd hn List.not_mem_nil) sk_219 (fun _ hn => absurd hn List.not_mem_nil)
/-- RaftTownModel.days -/
def sc_220 : se_C := ((281, 6), ([(((91, 0, 0), 0, (0, 0, 0), (0, 0, 0)), (0, (0, 0, 0), (0, 0, 0))), (((0, (-2147483648), 2147483647), 0, (0, 0, 0), (0, 0, 0)), (0, (0, 1, 0), (0, 0, 0))), (((0, (-2147483648), 2147483647), 0, (0, 0, 0), (0, 0, 0)), (0, (0, 2, 0), (0, 0, 0)))], [some (1, 0, 0), some (1, 1, 0), some (1, 2, 0)], [], []), [([(((0, (-2147483648), 2147483647), 0, (0, 0, 0), (0, 0, 0)), (0, (0, 0, 0), (0, 0, 0)))], some (1, 3, 0), [], [])], [(56, 3, 4), (56, 4, 5), (56, 5, 6), (56, 6, 7), (56, 80, 150), (56, 150, 248), (56, 248, 344), (56, 344, 504), (57, 0, 10), (89, 3, 4)])
def sn_220_0 : se_Nd := (51, ([(((91, 0, 0), 0, (0, 0, 0), (0, 0, 0)), (3, (0, 0, 0), (0, 0, 0))), (((0, 1, 30), 0, (0, 0, 0), (0, 0, 0)), (3, (0, 1, 0), (0, 0, 0))), (((0, 0, 3), 0, (0, 0, 0), (0, 0, 0)), (3, (0, 2, 0), (0, 0, 0))), (((0, 0, 20), 0, (0, 0, 0), (0, 0, 0)), (0, (0, 3, 0), (0, 0, 0))), (((0, 0, 9), 0, (0, 0, 0), (0, 0, 0)), (0, (0, 4, 0), (0, 0, 0))), (((0, (-2147483648), 2147483647), 0, (0, 0, 0), (0, 0, 0)), (0, (0, 5, 0), (0, 0, 0))), (((0, 0, 30), 0, (0, 0, 0), (0, 0, 0)), (0, (0, 6, 0), (0, 0, 0)))], [some (1, 0, 0), some (1, 1, 0), some (1, 2, 0), some (1, 3, 0), some (1, 4, 0), some (1, 5, 0), some (1, 6, 0), none], [], []), [(0, 0, 0), ((-1), 6, 0), (0, 0, 0)])
abbrev sn_220 : List se_Nd := [sn_220_0]
set_option maxRecDepth 100000 in
theorem sk_220 : se_chk0 se_tt [sc_209, sc_211, sc_213, sc_214, sc_216, sc_218] se_Z 37 se_zt sc_220 sn_220 8 = true := by decide +kernel
set_option maxRecDepth 100000 in
theorem sk_220_0 : se_chkn se_tt [sc_209, sc_211, sc_213, sc_214, sc_216, sc_218] se_Z 37 se_zt sc_220 sn_220 8 sn_220_0 = true := by decide +kernel
theorem sm_220 {ty : Nat → Option Nat} {J : List mm_C → Prop} {kx : Nat} {zs : List mm_Zt} (hO : se_Ok ty J kx zs) (h209 : se_Met ty se_tt J kx zs sc_209) (h211 : se_Met ty se_tt J kx zs sc_211) (h213 : se_Met ty se_tt J kx zs sc_213) (h214 : se_Met ty se_tt J kx zs sc_214) (h216 : se_Met ty se_tt J kx zs sc_216) (h218 : se_Met ty se_tt J kx zs sc_218) : se_Met ty se_tt J kx zs sc_220 := se_sound (C := [sc_209, sc_211, sc_213, sc_214, sc_216, sc_218]) hO.1 hO.2.1 hO.2.2 (fun n hn => by
  rcases List.mem_cons.mp hn with rfl | hn
  · exact h209
  rcases List.mem_cons.mp hn with rfl | hn
  · exact h211
  rcases List.mem_cons.mp hn with rfl | hn
  · exact h213
  rcases List.mem_cons.mp hn with rfl | hn
  · exact h214
  rcases List.mem_cons.mp hn with rfl | hn
  · exact h216
  rcases List.mem_cons.mp hn with rfl | hn
  · exact h218
  exact absurd hn List.not_mem_nil) sk_220 (fun n hn => by
  rcases List.mem_cons.mp hn with rfl | hn
  · exact sk_220_0
  exact absurd hn List.not_mem_nil)
/-- RaftTownModel.headsOf -/
def sc_221 : se_C := ((284, 1), ([(((91, 0, 0), 0, (0, 0, 0), (0, 0, 0)), (0, (0, 0, 0), (0, 0, 0))), (((0, (-2147483648), 2147483647), 0, (0, 0, 0), (0, 0, 0)), (0, (0, 1, 0), (0, 0, 0)))], [some (1, 0, 0), some (1, 1, 0)], [], []), [([(((0, (-2147483648), 2147483647), 0, (0, 0, 0), (0, 0, 0)), (0, (0, 0, 0), (0, 0, 0)))], some (1, 2, 0), [], [])], [])
def sn_221_0 : se_Nd := (4, ([(((91, 0, 0), 0, (0, 0, 0), (0, 0, 0)), (3, (0, 0, 0), (0, 0, 0))), (((0, (-2147483648), 2147483647), 0, (0, 0, 0), (0, 0, 0)), (3, (0, 1, 0), (0, 0, 0))), (((0, (-2147483648), 2147483647), 0, (0, 0, 0), (0, 0, 0)), (0, (0, 2, 0), (0, 0, 0))), (((0, 0, 14), 0, (0, 0, 0), (0, 0, 0)), (0, (0, 3, 0), (0, 0, 0)))], [some (1, 0, 0), some (1, 1, 0), some (1, 2, 0), some (1, 3, 0)], [], []), [(0, 0, 0), ((-1), 3, 0), (0, 0, 0)])
abbrev sn_221 : List se_Nd := [sn_221_0]
set_option maxRecDepth 100000 in
theorem sk_221 : se_chk0 se_tt [] se_Z 37 se_zt sc_221 sn_221 6 = true := by decide +kernel
set_option maxRecDepth 100000 in
theorem sk_221_0 : se_chkn se_tt [] se_Z 37 se_zt sc_221 sn_221 6 sn_221_0 = true := by decide +kernel
theorem sm_221 {ty : Nat → Option Nat} {J : List mm_C → Prop} {kx : Nat} {zs : List mm_Zt} (hO : se_Ok ty J kx zs) : se_Met ty se_tt J kx zs sc_221 := se_sound (C := []) hO.1 hO.2.1 hO.2.2 (fun _ hn => absurd hn List.not_mem_nil) sk_221 (fun n hn => by
  rcases List.mem_cons.mp hn with rfl | hn
  · exact sk_221_0
  exact absurd hn List.not_mem_nil)
/-- RaftTownModel.waterOf -/
def sc_222 : se_C := ((285, 1), ([(((91, 0, 0), 0, (0, 0, 0), (0, 0, 0)), (0, (0, 0, 0), (0, 0, 0))), (((0, (-2147483648), 2147483647), 0, (0, 0, 0), (0, 0, 0)), (0, (0, 1, 0), (0, 0, 0)))], [some (1, 0, 0), some (1, 1, 0)], [], []), [([(((0, (-2147483648), 2147483647), 0, (0, 0, 0), (0, 0, 0)), (0, (0, 0, 0), (0, 0, 0)))], some (1, 2, 0), [], [])], [])
def sn_222_0 : se_Nd := (4, ([(((91, 0, 0), 0, (0, 0, 0), (0, 0, 0)), (3, (0, 0, 0), (0, 0, 0))), (((0, (-2147483648), 2147483647), 0, (0, 0, 0), (0, 0, 0)), (3, (0, 1, 0), (0, 0, 0))), (((0, (-2147483648), 2147483647), 0, (0, 0, 0), (0, 0, 0)), (0, (0, 2, 0), (0, 0, 0))), (((0, 0, 10), 0, (0, 0, 0), (0, 0, 0)), (0, (0, 3, 0), (0, 0, 0)))], [some (1, 0, 0), some (1, 1, 0), some (1, 2, 0), some (1, 3, 0)], [], []), [(0, 0, 0), ((-1), 3, 0), (0, 0, 0)])
abbrev sn_222 : List se_Nd := [sn_222_0]
set_option maxRecDepth 100000 in
theorem sk_222 : se_chk0 se_tt [] se_Z 37 se_zt sc_222 sn_222 6 = true := by decide +kernel
set_option maxRecDepth 100000 in
theorem sk_222_0 : se_chkn se_tt [] se_Z 37 se_zt sc_222 sn_222 6 sn_222_0 = true := by decide +kernel
theorem sm_222 {ty : Nat → Option Nat} {J : List mm_C → Prop} {kx : Nat} {zs : List mm_Zt} (hO : se_Ok ty J kx zs) : se_Met ty se_tt J kx zs sc_222 := se_sound (C := []) hO.1 hO.2.1 hO.2.2 (fun _ hn => absurd hn List.not_mem_nil) sk_222 (fun n hn => by
  rcases List.mem_cons.mp hn with rfl | hn
  · exact sk_222_0
  exact absurd hn List.not_mem_nil)
/-- RaftTownModel.lasts -/
def sc_223 : se_C := ((283, 2), ([(((91, 0, 0), 0, (0, 0, 0), (0, 0, 0)), (0, (0, 0, 0), (0, 0, 0))), (((0, (-2147483648), 2147483647), 0, (0, 0, 0), (0, 0, 0)), (0, (0, 1, 0), (0, 0, 0)))], [some (1, 0, 0), some (1, 1, 0)], [], []), [([(((0, (-2147483648), 2147483647), 0, (0, 0, 0), (0, 0, 0)), (0, (0, 0, 0), (0, 0, 0)))], some (1, 2, 0), [], [])], [(89, 3, 4)])
def sn_223_0 : se_Nd := (49, ([(((91, 0, 0), 0, (0, 0, 0), (0, 0, 0)), (3, (0, 0, 0), (0, 0, 0))), (((0, 0, 9), 0, (0, 0, 0), (0, 0, 0)), (3, (0, 1, 0), (0, 0, 0))), (((0, 1, 1023), 0, (0, 0, 0), (0, 0, 0)), (0, (0, 2, 0), (0, 0, 0))), (((0, (-2147483648), 2147483647), 0, (0, 0, 0), (0, 0, 0)), (0, (0, 3, 0), (0, 0, 0))), (((0, 0, 10), 0, (0, 0, 0), (0, 0, 0)), (0, (0, 4, 0), (0, 0, 0)))], [some (1, 0, 0), some (1, 1, 0), some (1, 2, 0), some (1, 3, 0), some (1, 4, 0)], [], []), [(0, 0, 0), ((-1), 4, 0), (0, 0, 0)])
abbrev sn_223 : List se_Nd := [sn_223_0]
set_option maxRecDepth 100000 in
theorem sk_223 : se_chk0 se_tt [sc_182, sc_183, sc_221, sc_222] se_Z 37 se_zt sc_223 sn_223 6 = true := by decide +kernel
set_option maxRecDepth 100000 in
theorem sk_223_0 : se_chkn se_tt [sc_182, sc_183, sc_221, sc_222] se_Z 37 se_zt sc_223 sn_223 6 sn_223_0 = true := by decide +kernel
theorem sm_223 {ty : Nat → Option Nat} {J : List mm_C → Prop} {kx : Nat} {zs : List mm_Zt} (hO : se_Ok ty J kx zs) (h182 : se_Met ty se_tt J kx zs sc_182) (h183 : se_Met ty se_tt J kx zs sc_183) (h221 : se_Met ty se_tt J kx zs sc_221) (h222 : se_Met ty se_tt J kx zs sc_222) : se_Met ty se_tt J kx zs sc_223 := se_sound (C := [sc_182, sc_183, sc_221, sc_222]) hO.1 hO.2.1 hO.2.2 (fun n hn => by
  rcases List.mem_cons.mp hn with rfl | hn
  · exact h182
  rcases List.mem_cons.mp hn with rfl | hn
  · exact h183
  rcases List.mem_cons.mp hn with rfl | hn
  · exact h221
  rcases List.mem_cons.mp hn with rfl | hn
  · exact h222
  exact absurd hn List.not_mem_nil) sk_223 (fun n hn => by
  rcases List.mem_cons.mp hn with rfl | hn
  · exact sk_223_0
  exact absurd hn List.not_mem_nil)
/-- RaftTownModel.feed -/
def sc_224 : se_C := ((286, 1), ([(((91, 0, 0), 0, (0, 0, 0), (0, 0, 0)), (0, (0, 0, 0), (0, 0, 0))), (((0, (-2147483648), 2147483647), 0, (0, 0, 0), (0, 0, 0)), (0, (0, 1, 0), (0, 0, 0))), (((1, 0, 0), 0, (0, 0, 0), (0, 0, 0)), (0, (0, 2, 0), (0, 0, 0)))], [some (1, 0, 0), some (1, 1, 0), some (1, 2, 0), none], [], []), [([(((0, (-100005), 160), 0, (0, 0, 0), (0, 0, 0)), (0, (0, 0, 0), (0, 0, 0)))], some (1, 3, 0), [], [])], [(58, 0, 160), (89, 3, 4), (89, 6, 7)])
def sn_224_0 : se_Nd := (39, ([(((91, 0, 0), 0, (0, 0, 0), (0, 0, 0)), (3, (0, 0, 0), (0, 0, 0))), (((0, 1, 8), 0, (0, 0, 0), (0, 0, 0)), (3, (0, 1, 0), (0, 0, 0))), (((1, 0, 0), 0, (0, 0, 0), (0, 0, 0)), (3, (0, 2, 0), (0, 0, 0))), (((0, 0, 8), 0, (0, 0, 0), (0, 0, 0)), (0, (0, 4, 0), (0, 0, 0))), (((0, 0, 160), 0, (0, 0, 0), (0, 0, 0)), (1, (1, 0, 0), (0, 0, 6))), (((0, (-127), 160), 2, (1, 4, 0), (1, 3, 0)), (2, (0, 0, 0), (0, 0, 0)))], [some (1, 0, 0), some (1, 1, 0), some (1, 2, 0), none, some (1, 3, 0)], [((1, 0, 0), (0, 0, 6), (1, 4, 0))], [(.le, (1, 5, 0), ((-1), 1, 160))]), [(0, 0, 0), ((-1), 3, 0), (0, 0, 0)])
abbrev sn_224 : List se_Nd := [sn_224_0]
set_option maxRecDepth 100000 in
theorem sk_224 : se_chk0 se_tt [] se_Z 37 se_zt sc_224 sn_224 5 = true := by decide +kernel
set_option maxRecDepth 100000 in
theorem sk_224_0 : se_chkn se_tt [] se_Z 37 se_zt sc_224 sn_224 5 sn_224_0 = true := by decide +kernel
theorem sm_224 {ty : Nat → Option Nat} {J : List mm_C → Prop} {kx : Nat} {zs : List mm_Zt} (hO : se_Ok ty J kx zs) : se_Met ty se_tt J kx zs sc_224 := se_sound (C := []) hO.1 hO.2.1 hO.2.2 (fun _ hn => absurd hn List.not_mem_nil) sk_224 (fun n hn => by
  rcases List.mem_cons.mp hn with rfl | hn
  · exact sk_224_0
  exact absurd hn List.not_mem_nil)
