/-! ===== printed by wip/p2/gen_tab.py: contracts and their checks ===== -/
/-- RaftTownModel.areaOf -/
def sc_180 : se_C := ((232, 1), ([(((91, 0, 0), 0, (0, 0, 0), (0, 0, 0)), (0, (0, 0, 0), (0, 0, 0))), (((0, 0, 9), 0, (0, 0, 0), (0, 0, 0)), (0, (0, 1, 0), (0, 0, 0)))], [some (1, 0, 0), some (1, 1, 0)], [], []), [([(((0, 0, 3), 0, (0, 0, 0), (0, 0, 0)), (0, (0, 0, 0), (0, 0, 0)))], some (1, 2, 0), [], [])], [])
abbrev sn_180 : List se_Nd := []
set_option maxRecDepth 100000 in
theorem sk_180 : se_chk0 se_tt [] se_Z 37 se_zt sc_180 sn_180 5 = true := by decide +kernel
theorem sm_180 {ty : Nat → Option Nat} {J : List mm_C → Prop} {kx : Nat} {zs : List mm_Zt} (hO : se_Ok ty J kx zs) : se_Met ty se_tt J kx zs sc_180 := se_sound (C := []) hO.1 hO.2.1 hO.2.2 (fun _ hn => absurd hn List.not_mem_nil) sk_180 (fun _ hn => absurd hn List.not_mem_nil)
/-- RaftTownModel.weightOf -/
def sc_181 : se_C := ((228, 2), ([(((91, 0, 0), 0, (0, 0, 0), (0, 0, 0)), (0, (0, 0, 0), (0, 0, 0))), (((0, 0, 9), 0, (0, 0, 0), (0, 0, 0)), (0, (0, 1, 0), (0, 0, 0)))], [some (1, 0, 0), some (1, 1, 0)], [], []), [([(((0, (-2147483648), 2147483647), 0, (0, 0, 0), (0, 0, 0)), (0, (0, 0, 0), (0, 0, 0)))], some (1, 2, 0), [], [])], [])
def sn_181_0 : se_Nd := (4, ([(((91, 0, 0), 0, (0, 0, 0), (0, 0, 0)), (3, (0, 0, 0), (0, 0, 0))), (((0, 0, 9), 0, (0, 0, 0), (0, 0, 0)), (3, (0, 1, 0), (0, 0, 0))), (((0, (-2147483648), 2147483647), 0, (0, 0, 0), (0, 0, 0)), (0, (0, 2, 0), (0, 0, 0))), (((0, 0, 14), 0, (0, 0, 0), (0, 0, 0)), (0, (0, 3, 0), (0, 0, 0)))], [some (1, 0, 0), some (1, 1, 0), some (1, 2, 0), some (1, 3, 0)], [], []), [(0, 0, 0), ((-1), 3, 0), (0, 0, 0)])
abbrev sn_181 : List se_Nd := [sn_181_0]
set_option maxRecDepth 100000 in
theorem sk_181 : se_chk0 se_tt [sc_180] se_Z 37 se_zt sc_181 sn_181 7 = true := by decide +kernel
set_option maxRecDepth 100000 in
theorem sk_181_0 : se_chkn se_tt [sc_180] se_Z 37 se_zt sc_181 sn_181 7 sn_181_0 = true := by decide +kernel
theorem sm_181 {ty : Nat → Option Nat} {J : List mm_C → Prop} {kx : Nat} {zs : List mm_Zt} (hO : se_Ok ty J kx zs) (h180 : se_Met ty se_tt J kx zs sc_180) : se_Met ty se_tt J kx zs sc_181 := se_sound (C := [sc_180]) hO.1 hO.2.1 hO.2.2 (fun n hn => by
  rcases List.mem_cons.mp hn with rfl | hn
  · exact h180
  exact absurd hn List.not_mem_nil) sk_181 (fun n hn => by
  rcases List.mem_cons.mp hn with rfl | hn
  · exact sk_181_0
  exact absurd hn List.not_mem_nil)
/-- RaftTownModel.allRopes -/
def sc_182 : se_C := ((233, 1), ([(((91, 0, 0), 0, (0, 0, 0), (0, 0, 0)), (0, (0, 0, 0), (0, 0, 0)))], [some (1, 0, 0)], [], []), [([(((0, 0, 4095), 0, (0, 0, 0), (0, 0, 0)), (0, (0, 0, 0), (0, 0, 0)))], some (1, 1, 0), [], [])], [])
def sn_182_0 : se_Nd := (4, ([(((91, 0, 0), 0, (0, 0, 0), (0, 0, 0)), (3, (0, 0, 0), (0, 0, 0))), (((0, 0, 4095), 0, (0, 0, 0), (0, 0, 0)), (0, (0, 1, 0), (0, 0, 0))), (((0, 0, 12), 0, (0, 0, 0), (0, 0, 0)), (0, (0, 2, 0), (0, 0, 0)))], [some (1, 0, 0), some (1, 1, 0), some (1, 2, 0)], [], []), [(0, 0, 0), ((-1), 2, 0), (0, 0, 0)])
abbrev sn_182 : List se_Nd := [sn_182_0]
set_option maxRecDepth 100000 in
theorem sk_182 : se_chk0 se_tt [] se_Z 37 se_zt sc_182 sn_182 6 = true := by decide +kernel
set_option maxRecDepth 100000 in
theorem sk_182_0 : se_chkn se_tt [] se_Z 37 se_zt sc_182 sn_182 6 sn_182_0 = true := by decide +kernel
theorem sm_182 {ty : Nat → Option Nat} {J : List mm_C → Prop} {kx : Nat} {zs : List mm_Zt} (hO : se_Ok ty J kx zs) : se_Met ty se_tt J kx zs sc_182 := se_sound (C := []) hO.1 hO.2.1 hO.2.2 (fun _ hn => absurd hn List.not_mem_nil) sk_182 (fun n hn => by
  rcases List.mem_cons.mp hn with rfl | hn
  · exact sk_182_0
  exact absurd hn List.not_mem_nil)
/-- RaftTownModel.partOf -/
def sc_183 : se_C := ((236, 1), ([(((91, 0, 0), 0, (0, 0, 0), (0, 0, 0)), (0, (0, 0, 0), (0, 0, 0))), (((0, 0, 9), 0, (0, 0, 0), (0, 0, 0)), (0, (0, 1, 0), (0, 0, 0))), (((0, (-2147483648), 2147483647), 0, (0, 0, 0), (0, 0, 0)), (0, (0, 2, 0), (0, 0, 0)))], [some (1, 0, 0), some (1, 1, 0), some (1, 2, 0)], [], []), [([(((0, 1, 1023), 0, (0, 0, 0), (0, 0, 0)), (0, (0, 0, 0), (0, 0, 0)))], some (1, 3, 0), [], [])], [])
def sn_183_0 : se_Nd := (7, ([(((91, 0, 0), 0, (0, 0, 0), (0, 0, 0)), (3, (0, 0, 0), (0, 0, 0))), (((0, 0, 9), 0, (0, 0, 0), (0, 0, 0)), (3, (0, 1, 0), (0, 0, 0))), (((0, (-2147483648), 2147483647), 0, (0, 0, 0), (0, 0, 0)), (3, (0, 2, 0), (0, 0, 0))), (((0, 1, 1023), 0, (0, 0, 0), (0, 0, 0)), (0, (0, 3, 0), (0, 0, 0))), (((0, 0, 1), 0, (0, 0, 0), (0, 0, 0)), (0, (0, 4, 0), (0, 0, 0)))], [some (1, 0, 0), some (1, 1, 0), some (1, 2, 0), some (1, 3, 0), some (1, 4, 0), none, none, none], [], []), [(0, 0, 0), ((-1), 3, 0), (0, 0, 0), (1, 4, 0), (0, 0, 0)])
def sn_183_1 : se_Nd := (18, ([(((91, 0, 0), 0, (0, 0, 0), (0, 0, 0)), (3, (0, 0, 0), (0, 0, 0))), (((0, 0, 9), 0, (0, 0, 0), (0, 0, 0)), (3, (0, 1, 0), (0, 0, 0))), (((0, (-2147483648), 2147483647), 0, (0, 0, 0), (0, 0, 0)), (3, (0, 2, 0), (0, 0, 0))), (((0, 1, 1023), 0, (0, 0, 0), (0, 0, 0)), (0, (0, 3, 0), (0, 0, 0))), (((0, 0, 1), 0, (0, 0, 0), (0, 0, 0)), (0, (0, 4, 0), (0, 0, 0))), (((0, 0, 12), 0, (0, 0, 0), (0, 0, 0)), (0, (0, 5, 0), (0, 0, 0)))], [some (1, 0, 0), some (1, 1, 0), some (1, 2, 0), some (1, 3, 0), some (1, 4, 0), some (1, 5, 0), none, none], [], []), [(0, 0, 0), ((-1), 3, 0), (0, 0, 0), (1, 4, 0), (0, 0, 1), ((-1), 5, 0), (0, 0, 0)])
abbrev sn_183 : List se_Nd := [sn_183_0, sn_183_1]
set_option maxRecDepth 100000 in
theorem sk_183 : se_chk0 se_tt [] se_Z 37 se_zt sc_183 sn_183 7 = true := by decide +kernel
set_option maxRecDepth 100000 in
theorem sk_183_0 : se_chkn se_tt [] se_Z 37 se_zt sc_183 sn_183 7 sn_183_0 = true := by decide +kernel
set_option maxRecDepth 100000 in
theorem sk_183_1 : se_chkn se_tt [] se_Z 37 se_zt sc_183 sn_183 7 sn_183_1 = true := by decide +kernel
theorem sm_183 {ty : Nat → Option Nat} {J : List mm_C → Prop} {kx : Nat} {zs : List mm_Zt} (hO : se_Ok ty J kx zs) : se_Met ty se_tt J kx zs sc_183 := se_sound (C := []) hO.1 hO.2.1 hO.2.2 (fun _ hn => absurd hn List.not_mem_nil) sk_183 (fun n hn => by
  rcases List.mem_cons.mp hn with rfl | hn
  · exact sk_183_0
  rcases List.mem_cons.mp hn with rfl | hn
  · exact sk_183_1
  exact absurd hn List.not_mem_nil)
/-- RaftTownModel.raftIs -/
def sc_184 : se_C := ((227, 3), ([(((91, 0, 0), 0, (0, 0, 0), (0, 0, 0)), (0, (0, 0, 0), (0, 0, 0))), (((0, (-2147483648), 2147483647), 0, (0, 0, 0), (0, 0, 0)), (0, (0, 1, 0), (0, 0, 0))), (((0, (-2147483648), 2147483647), 0, (0, 0, 0), (0, 0, 0)), (0, (0, 2, 0), (0, 0, 0)))], [some (1, 0, 0), some (1, 1, 0), some (1, 2, 0)], [], []), [([(((0, (-2147483648), 2147483647), 0, (0, 0, 0), (0, 0, 0)), (0, (0, 0, 0), (0, 0, 0)))], some (1, 3, 0), [], [])], [(89, 3, 4)])
abbrev sn_184 : List se_Nd := []
set_option maxRecDepth 100000 in
theorem sk_184 : se_chk0 se_tt [sc_h1, sc_180, sc_181, sc_182, sc_183] se_Z 37 se_zt sc_184 sn_184 6 = true := by decide +kernel
theorem sm_184 {ty : Nat → Option Nat} {J : List mm_C → Prop} {kx : Nat} {zs : List mm_Zt} (hO : se_Ok ty J kx zs) (hh1 : se_Met ty se_tt J kx zs sc_h1) (h180 : se_Met ty se_tt J kx zs sc_180) (h181 : se_Met ty se_tt J kx zs sc_181) (h182 : se_Met ty se_tt J kx zs sc_182) (h183 : se_Met ty se_tt J kx zs sc_183) : se_Met ty se_tt J kx zs sc_184 := se_sound (C := [sc_h1, sc_180, sc_181, sc_182, sc_183]) hO.1 hO.2.1 hO.2.2 (fun n hn => by
  rcases List.mem_cons.mp hn with rfl | hn
  · exact hh1
  rcases List.mem_cons.mp hn with rfl | hn
  · exact h180
  rcases List.mem_cons.mp hn with rfl | hn
  · exact h181
  rcases List.mem_cons.mp hn with rfl | hn
  · exact h182
  rcases List.mem_cons.mp hn with rfl | hn
  · exact h183
  exact absurd hn List.not_mem_nil) sk_184 (fun _ hn => absurd hn List.not_mem_nil)
/-- RaftTownModel.load -/
def sc_185 : se_C := ((238, 1), ([(((91, 0, 0), 0, (0, 0, 0), (0, 0, 0)), (0, (0, 0, 0), (0, 0, 0))), (((0, (-2147483648), 2147483647), 0, (0, 0, 0), (0, 0, 0)), (0, (0, 1, 0), (0, 0, 0))), (((0, (-2147483648), 2147483647), 0, (0, 0, 0), (0, 0, 0)), (0, (0, 2, 0), (0, 0, 0))), (((0, 0, 1), 0, (0, 0, 0), (0, 0, 0)), (0, (0, 3, 0), (0, 0, 0)))], [some (1, 0, 0), some (1, 1, 0), some (1, 2, 0), some (1, 3, 0)], [], []), [([(((0, (-2147483648), 2147483647), 0, (0, 0, 0), (0, 0, 0)), (0, (0, 0, 0), (0, 0, 0)))], some (1, 4, 0), [], [])], [(56, 80, 150), (89, 3, 4)])
abbrev sn_185 : List se_Nd := []
set_option maxRecDepth 100000 in
theorem sk_185 : se_chk0 se_tt [] se_Z 37 se_zt sc_185 sn_185 8 = true := by decide +kernel
theorem sm_185 {ty : Nat → Option Nat} {J : List mm_C → Prop} {kx : Nat} {zs : List mm_Zt} (hO : se_Ok ty J kx zs) : se_Met ty se_tt J kx zs sc_185 := se_sound (C := []) hO.1 hO.2.1 hO.2.2 (fun _ hn => absurd hn List.not_mem_nil) sk_185 (fun _ hn => absurd hn List.not_mem_nil)
/-- RaftTownModel.trade -/
def sc_186 : se_C := ((241, 2), ([(((91, 0, 0), 0, (0, 0, 0), (0, 0, 0)), (0, (0, 0, 0), (0, 0, 0))), (((0, (-2147483648), 2147483647), 0, (0, 0, 0), (0, 0, 0)), (0, (0, 1, 0), (0, 0, 0))), (((0, (-2147483648), 2147483647), 0, (0, 0, 0), (0, 0, 0)), (0, (0, 2, 0), (0, 0, 0))), (((0, (-2147483648), 2147483647), 0, (0, 0, 0), (0, 0, 0)), (0, (0, 3, 0), (0, 0, 0))), (((0, 0, 1), 0, (0, 0, 0), (0, 0, 0)), (0, (0, 4, 0), (0, 0, 0)))], [some (1, 0, 0), some (1, 1, 0), some (1, 2, 0), some (1, 3, 0), some (1, 4, 0)], [], []), [([(((0, (-2147483648), 2147483647), 0, (0, 0, 0), (0, 0, 0)), (0, (0, 0, 0), (0, 0, 0)))], some (1, 5, 0), [], [])], [(56, 80, 150), (89, 3, 4)])
abbrev sn_186 : List se_Nd := []
set_option maxRecDepth 100000 in
theorem sk_186 : se_chk0 se_tt [sc_182, sc_183] se_Z 37 se_zt sc_186 sn_186 9 = true := by decide +kernel
theorem sm_186 {ty : Nat → Option Nat} {J : List mm_C → Prop} {kx : Nat} {zs : List mm_Zt} (hO : se_Ok ty J kx zs) (h182 : se_Met ty se_tt J kx zs sc_182) (h183 : se_Met ty se_tt J kx zs sc_183) : se_Met ty se_tt J kx zs sc_186 := se_sound (C := [sc_182, sc_183]) hO.1 hO.2.1 hO.2.2 (fun n hn => by
  rcases List.mem_cons.mp hn with rfl | hn
  · exact h182
  rcases List.mem_cons.mp hn with rfl | hn
  · exact h183
  exact absurd hn List.not_mem_nil) sk_186 (fun _ hn => absurd hn List.not_mem_nil)
/-- RaftTownModel.person -/
def sc_187 : se_C := ((242, 1), ([(((91, 0, 0), 0, (0, 0, 0), (0, 0, 0)), (0, (0, 0, 0), (0, 0, 0))), (((0, (-2147483648), 2147483647), 0, (0, 0, 0), (0, 0, 0)), (0, (0, 1, 0), (0, 0, 0))), (((0, (-2147483648), 2147483647), 0, (0, 0, 0), (0, 0, 0)), (0, (0, 2, 0), (0, 0, 0))), (((0, (-2147483648), 2147483647), 0, (0, 0, 0), (0, 0, 0)), (0, (0, 3, 0), (0, 0, 0))), (((0, (-2147483648), 2147483647), 0, (0, 0, 0), (0, 0, 0)), (0, (0, 4, 0), (0, 0, 0)))], [some (1, 0, 0), some (1, 1, 0), some (1, 2, 0), some (1, 3, 0), some (1, 4, 0)], [], []), [([(((0, (-100006), 13), 0, (0, 0, 0), (0, 0, 0)), (0, (0, 0, 0), (0, 0, 0)))], some (1, 5, 0), [], [])], [(56, 1, 2), (56, 150, 248), (89, 3, 4)])
abbrev sn_187 : List se_Nd := []
set_option maxRecDepth 100000 in
theorem sk_187 : se_chk0 se_tt [] se_Z 37 se_zt sc_187 sn_187 8 = true := by decide +kernel
theorem sm_187 {ty : Nat → Option Nat} {J : List mm_C → Prop} {kx : Nat} {zs : List mm_Zt} (hO : se_Ok ty J kx zs) : se_Met ty se_tt J kx zs sc_187 := se_sound (C := []) hO.1 hO.2.1 hO.2.2 (fun _ hn => absurd hn List.not_mem_nil) sk_187 (fun _ hn => absurd hn List.not_mem_nil)
/-- RaftTownModel.wed -/
def sc_188 : se_C := ((243, 1), ([(((91, 0, 0), 0, (0, 0, 0), (0, 0, 0)), (0, (0, 0, 0), (0, 0, 0))), (((0, (-2147483648), 2147483647), 0, (0, 0, 0), (0, 0, 0)), (0, (0, 1, 0), (0, 0, 0))), (((0, (-2147483648), 2147483647), 0, (0, 0, 0), (0, 0, 0)), (0, (0, 2, 0), (0, 0, 0)))], [some (1, 0, 0), some (1, 1, 0), some (1, 2, 0)], [], []), [([(((0, (-100007), 1), 0, (0, 0, 0), (0, 0, 0)), (0, (0, 0, 0), (0, 0, 0)))], some (1, 3, 0), [], [])], [(56, 150, 248), (89, 3, 4)])
abbrev sn_188 : List se_Nd := []
set_option maxRecDepth 100000 in
theorem sk_188 : se_chk0 se_tt [] se_Z 37 se_zt sc_188 sn_188 8 = true := by decide +kernel
theorem sm_188 {ty : Nat → Option Nat} {J : List mm_C → Prop} {kx : Nat} {zs : List mm_Zt} (hO : se_Ok ty J kx zs) : se_Met ty se_tt J kx zs sc_188 := se_sound (C := []) hO.1 hO.2.1 hO.2.2 (fun _ hn => absurd hn List.not_mem_nil) sk_188 (fun _ hn => absurd hn List.not_mem_nil)
/-- RaftTownModel.move -/
def sc_189 : se_C := ((245, 2), ([(((91, 0, 0), 0, (0, 0, 0), (0, 0, 0)), (0, (0, 0, 0), (0, 0, 0))), (((0, (-2147483648), 2147483647), 0, (0, 0, 0), (0, 0, 0)), (0, (0, 1, 0), (0, 0, 0))), (((0, (-2147483648), 2147483647), 0, (0, 0, 0), (0, 0, 0)), (0, (0, 2, 0), (0, 0, 0)))], [some (1, 0, 0), some (1, 1, 0), some (1, 2, 0)], [], []), [([(((0, (-100008), 9), 0, (0, 0, 0), (0, 0, 0)), (0, (0, 0, 0), (0, 0, 0)))], some (1, 3, 0), [], [])], [(56, 150, 248), (89, 3, 4)])
abbrev sn_189 : List se_Nd := []
set_option maxRecDepth 100000 in
theorem sk_189 : se_chk0 se_tt [sc_182, sc_183] se_Z 37 se_zt sc_189 sn_189 8 = true := by decide +kernel
theorem sm_189 {ty : Nat → Option Nat} {J : List mm_C → Prop} {kx : Nat} {zs : List mm_Zt} (hO : se_Ok ty J kx zs) (h182 : se_Met ty se_tt J kx zs sc_182) (h183 : se_Met ty se_tt J kx zs sc_183) : se_Met ty se_tt J kx zs sc_189 := se_sound (C := [sc_182, sc_183]) hO.1 hO.2.1 hO.2.2 (fun n hn => by
  rcases List.mem_cons.mp hn with rfl | hn
  · exact h182
  rcases List.mem_cons.mp hn with rfl | hn
  · exact h183
  exact absurd hn List.not_mem_nil) sk_189 (fun _ hn => absurd hn List.not_mem_nil)
/-- RaftTownModel.areKin -/
def sc_190 : se_C := ((247, 1), ([(((91, 0, 0), 0, (0, 0, 0), (0, 0, 0)), (0, (0, 0, 0), (0, 0, 0))), (((0, 0, 13), 0, (0, 0, 0), (0, 0, 0)), (0, (0, 1, 0), (0, 0, 0))), (((0, 0, 13), 0, (0, 0, 0), (0, 0, 0)), (0, (0, 2, 0), (0, 0, 0)))], [some (1, 0, 0), some (1, 1, 0), some (1, 2, 0)], [], []), [([(((0, 0, 1), 0, (0, 0, 0), (0, 0, 0)), (0, (0, 0, 0), (0, 0, 0)))], some (1, 3, 0), [], [])], [])
abbrev sn_190 : List se_Nd := []
set_option maxRecDepth 100000 in
theorem sk_190 : se_chk0 se_tt [] se_Z 37 se_zt sc_190 sn_190 8 = true := by decide +kernel
theorem sm_190 {ty : Nat → Option Nat} {J : List mm_C → Prop} {kx : Nat} {zs : List mm_Zt} (hO : se_Ok ty J kx zs) : se_Met ty se_tt J kx zs sc_190 := se_sound (C := []) hO.1 hO.2.1 hO.2.2 (fun _ hn => absurd hn List.not_mem_nil) sk_190 (fun _ hn => absurd hn List.not_mem_nil)
/-- RaftTownModel.personIs -/
def sc_191 : se_C := ((246, 2), ([(((91, 0, 0), 0, (0, 0, 0), (0, 0, 0)), (0, (0, 0, 0), (0, 0, 0))), (((0, (-2147483648), 2147483647), 0, (0, 0, 0), (0, 0, 0)), (0, (0, 1, 0), (0, 0, 0))), (((0, (-2147483648), 2147483647), 0, (0, 0, 0), (0, 0, 0)), (0, (0, 2, 0), (0, 0, 0)))], [some (1, 0, 0), some (1, 1, 0), some (1, 2, 0)], [], []), [([(((0, (-2147483648), 2147483647), 0, (0, 0, 0), (0, 0, 0)), (0, (0, 0, 0), (0, 0, 0)))], some (1, 3, 0), [], [])], [(89, 3, 4)])
def sn_191_0 : se_Nd := (83, ([(((91, 0, 0), 0, (0, 0, 0), (0, 0, 0)), (3, (0, 0, 0), (0, 0, 0))), (((0, 0, 13), 0, (0, 0, 0), (0, 0, 0)), (3, (0, 1, 0), (0, 0, 0))), (((0, 5, 5), 0, (0, 0, 0), (0, 0, 0)), (3, (0, 2, 0), (0, 0, 0))), (((0, 0, 65535), 0, (0, 0, 0), (0, 0, 0)), (0, (0, 3, 0), (0, 0, 0))), (((0, 0, 14), 0, (0, 0, 0), (0, 0, 0)), (0, (0, 4, 0), (0, 0, 0)))], [some (1, 0, 0), some (1, 1, 0), some (1, 2, 0), some (1, 3, 0), some (1, 4, 0)], [], []), [(0, 0, 0), ((-1), 4, 0), (0, 0, 0)])
abbrev sn_191 : List se_Nd := [sn_191_0]
set_option maxRecDepth 100000 in
theorem sk_191 : se_chk0 se_tt [sc_190] se_Z 37 se_zt sc_191 sn_191 6 = true := by decide +kernel
set_option maxRecDepth 100000 in
theorem sk_191_0 : se_chkn se_tt [sc_190] se_Z 37 se_zt sc_191 sn_191 6 sn_191_0 = true := by decide +kernel
theorem sm_191 {ty : Nat → Option Nat} {J : List mm_C → Prop} {kx : Nat} {zs : List mm_Zt} (hO : se_Ok ty J kx zs) (h190 : se_Met ty se_tt J kx zs sc_190) : se_Met ty se_tt J kx zs sc_191 := se_sound (C := [sc_190]) hO.1 hO.2.1 hO.2.2 (fun n hn => by
  rcases List.mem_cons.mp hn with rfl | hn
  · exact h190
  exact absurd hn List.not_mem_nil) sk_191 (fun n hn => by
  rcases List.mem_cons.mp hn with rfl | hn
  · exact sk_191_0
  exact absurd hn List.not_mem_nil)
/-- RaftTownModel.partMany -/
def sc_192 : se_C := ((250, 2), ([(((91, 0, 0), 0, (0, 0, 0), (0, 0, 0)), (0, (0, 0, 0), (0, 0, 0)))], [some (1, 0, 0)], [], []), [([(((0, (-2147483648), 2147483647), 0, (0, 0, 0), (0, 0, 0)), (0, (0, 0, 0), (0, 0, 0)))], some (1, 1, 0), [], [])], [])
def sn_192_0 : se_Nd := (9, ([(((91, 0, 0), 0, (0, 0, 0), (0, 0, 0)), (3, (0, 0, 0), (0, 0, 0))), (((0, 0, 4095), 0, (0, 0, 0), (0, 0, 0)), (0, (0, 1, 0), (0, 0, 0))), (((0, (-2147483648), 2147483647), 0, (0, 0, 0), (0, 0, 0)), (0, (0, 2, 0), (0, 0, 0))), (((0, 0, 10), 0, (0, 0, 0), (0, 0, 0)), (0, (0, 3, 0), (0, 0, 0)))], [some (1, 0, 0), some (1, 1, 0), some (1, 2, 0), some (1, 3, 0)], [], []), [(0, 0, 0), ((-1), 3, 0), (0, 0, 0)])
abbrev sn_192 : List se_Nd := [sn_192_0]
set_option maxRecDepth 100000 in
theorem sk_192 : se_chk0 se_tt [sc_h1, sc_182, sc_183] se_Z 37 se_zt sc_192 sn_192 6 = true := by decide +kernel
set_option maxRecDepth 100000 in
theorem sk_192_0 : se_chkn se_tt [sc_h1, sc_182, sc_183] se_Z 37 se_zt sc_192 sn_192 6 sn_192_0 = true := by decide +kernel
theorem sm_192 {ty : Nat → Option Nat} {J : List mm_C → Prop} {kx : Nat} {zs : List mm_Zt} (hO : se_Ok ty J kx zs) (hh1 : se_Met ty se_tt J kx zs sc_h1) (h182 : se_Met ty se_tt J kx zs sc_182) (h183 : se_Met ty se_tt J kx zs sc_183) : se_Met ty se_tt J kx zs sc_192 := se_sound (C := [sc_h1, sc_182, sc_183]) hO.1 hO.2.1 hO.2.2 (fun n hn => by
  rcases List.mem_cons.mp hn with rfl | hn
  · exact hh1
  rcases List.mem_cons.mp hn with rfl | hn
  · exact h182
  rcases List.mem_cons.mp hn with rfl | hn
  · exact h183
  exact absurd hn List.not_mem_nil) sk_192 (fun n hn => by
  rcases List.mem_cons.mp hn with rfl | hn
  · exact sk_192_0
  exact absurd hn List.not_mem_nil)
/-- RaftTownModel.parts -/
def sc_193 : se_C := ((249, 3), ([(((91, 0, 0), 0, (0, 0, 0), (0, 0, 0)), (0, (0, 0, 0), (0, 0, 0)))], [some (1, 0, 0)], [], []), [([(((0, (-2147483648), 2147483647), 0, (0, 0, 0), (0, 0, 0)), (0, (0, 0, 0), (0, 0, 0)))], some (1, 1, 0), [], [])], [])
abbrev sn_193 : List se_Nd := []
set_option maxRecDepth 100000 in
theorem sk_193 : se_chk0 se_tt [sc_192] se_Z 37 se_zt sc_193 sn_193 2 = true := by decide +kernel
theorem sm_193 {ty : Nat → Option Nat} {J : List mm_C → Prop} {kx : Nat} {zs : List mm_Zt} (hO : se_Ok ty J kx zs) (h192 : se_Met ty se_tt J kx zs sc_192) : se_Met ty se_tt J kx zs sc_193 := se_sound (C := [sc_192]) hO.1 hO.2.1 hO.2.2 (fun n hn => by
  rcases List.mem_cons.mp hn with rfl | hn
  · exact h192
  exact absurd hn List.not_mem_nil) sk_193 (fun _ hn => absurd hn List.not_mem_nil)
/-- RaftTownModel.part -/
def sc_194 : se_C := ((251, 2), ([(((91, 0, 0), 0, (0, 0, 0), (0, 0, 0)), (0, (0, 0, 0), (0, 0, 0))), (((0, (-2147483648), 2147483647), 0, (0, 0, 0), (0, 0, 0)), (0, (0, 1, 0), (0, 0, 0)))], [some (1, 0, 0), some (1, 1, 0)], [], []), [([(((0, (-100006), 1023), 0, (0, 0, 0), (0, 0, 0)), (0, (0, 0, 0), (0, 0, 0)))], some (1, 2, 0), [], [])], [(89, 3, 4)])
abbrev sn_194 : List se_Nd := []
set_option maxRecDepth 100000 in
theorem sk_194 : se_chk0 se_tt [sc_182, sc_183] se_Z 37 se_zt sc_194 sn_194 6 = true := by decide +kernel
theorem sm_194 {ty : Nat → Option Nat} {J : List mm_C → Prop} {kx : Nat} {zs : List mm_Zt} (hO : se_Ok ty J kx zs) (h182 : se_Met ty se_tt J kx zs sc_182) (h183 : se_Met ty se_tt J kx zs sc_183) : se_Met ty se_tt J kx zs sc_194 := se_sound (C := [sc_182, sc_183]) hO.1 hO.2.1 hO.2.2 (fun n hn => by
  rcases List.mem_cons.mp hn with rfl | hn
  · exact h182
  rcases List.mem_cons.mp hn with rfl | hn
  · exact h183
  exact absurd hn List.not_mem_nil) sk_194 (fun _ hn => absurd hn List.not_mem_nil)
