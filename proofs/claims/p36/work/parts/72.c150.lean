/-! ===== printed by wip/p2/gen_tab.py: contracts and their checks ===== -/
/-- RaftTownModel.weightOf -/
def sc_150 : se_C := ((228, 2), ([(((91, 0, 0), 0, (0, 0, 0), (0, 0, 0)), (0, (0, 0, 0), (0, 0, 0))), (((0, 0, 9), 0, (0, 0, 0), (0, 0, 0)), (0, (0, 1, 0), (0, 0, 0)))], [some (1, 0, 0), some (1, 1, 0)], [], []), [([(((0, (-2147483648), 2147483647), 0, (0, 0, 0), (0, 0, 0)), (0, (0, 0, 0), (0, 0, 0)))], some (1, 2, 0), [], [])], [])
def sn_150_0 : se_Nd := (4, ([(((91, 0, 0), 0, (0, 0, 0), (0, 0, 0)), (3, (0, 0, 0), (0, 0, 0))), (((0, 0, 9), 0, (0, 0, 0), (0, 0, 0)), (3, (0, 1, 0), (0, 0, 0))), (((0, (-2147483648), 2147483647), 0, (0, 0, 0), (0, 0, 0)), (0, (0, 2, 0), (0, 0, 0))), (((0, 0, 14), 0, (0, 0, 0), (0, 0, 0)), (0, (0, 3, 0), (0, 0, 0)))], [some (1, 0, 0), some (1, 1, 0), some (1, 2, 0), some (1, 3, 0)], [], []), [(0, 0, 0), ((-1), 3, 0), (0, 0, 0)])
abbrev sn_150 : List se_Nd := [sn_150_0]
set_option maxRecDepth 100000 in
theorem sk_150 : se_chk0 se_tt [sc_149] se_Z 37 se_zt sc_150 sn_150 7 = true := by decide +kernel
set_option maxRecDepth 100000 in
theorem sk_150_0 : se_chkn se_tt [sc_149] se_Z 37 se_zt sc_150 sn_150 7 sn_150_0 = true := by decide +kernel
theorem sm_150 {ty : Nat → Option Nat} {J : List mm_C → Prop} {kx : Nat} {zs : List mm_Zt} (hO : se_Ok ty J kx zs) (h149 : se_Met ty se_tt J kx zs sc_149) : se_Met ty se_tt J kx zs sc_150 := se_sound (C := [sc_149]) hO.1 hO.2.1 hO.2.2 (fun n hn => by
  rcases List.mem_cons.mp hn with rfl | hn
  · exact h149
  exact absurd hn List.not_mem_nil) sk_150 (fun n hn => by
  rcases List.mem_cons.mp hn with rfl | hn
  · exact sk_150_0
  exact absurd hn List.not_mem_nil)
/-- RaftTownModel.allRopes -/
def sc_151 : se_C := ((233, 1), ([(((91, 0, 0), 0, (0, 0, 0), (0, 0, 0)), (0, (0, 0, 0), (0, 0, 0)))], [some (1, 0, 0)], [], []), [([(((0, 0, 4095), 0, (0, 0, 0), (0, 0, 0)), (0, (0, 0, 0), (0, 0, 0)))], some (1, 1, 0), [], [])], [])
def sn_151_0 : se_Nd := (4, ([(((91, 0, 0), 0, (0, 0, 0), (0, 0, 0)), (3, (0, 0, 0), (0, 0, 0))), (((0, 0, 4095), 0, (0, 0, 0), (0, 0, 0)), (0, (0, 1, 0), (0, 0, 0))), (((0, 0, 12), 0, (0, 0, 0), (0, 0, 0)), (0, (0, 2, 0), (0, 0, 0)))], [some (1, 0, 0), some (1, 1, 0), some (1, 2, 0)], [], []), [(0, 0, 0), ((-1), 2, 0), (0, 0, 0)])
abbrev sn_151 : List se_Nd := [sn_151_0]
set_option maxRecDepth 100000 in
theorem sk_151 : se_chk0 se_tt [] se_Z 37 se_zt sc_151 sn_151 6 = true := by decide +kernel
set_option maxRecDepth 100000 in
theorem sk_151_0 : se_chkn se_tt [] se_Z 37 se_zt sc_151 sn_151 6 sn_151_0 = true := by decide +kernel
theorem sm_151 {ty : Nat → Option Nat} {J : List mm_C → Prop} {kx : Nat} {zs : List mm_Zt} (hO : se_Ok ty J kx zs) : se_Met ty se_tt J kx zs sc_151 := se_sound (C := []) hO.1 hO.2.1 hO.2.2 (fun _ hn => absurd hn List.not_mem_nil) sk_151 (fun n hn => by
  rcases List.mem_cons.mp hn with rfl | hn
  · exact sk_151_0
  exact absurd hn List.not_mem_nil)
/-- RaftTownModel.partOf -/
def sc_152 : se_C := ((236, 1), ([(((91, 0, 0), 0, (0, 0, 0), (0, 0, 0)), (0, (0, 0, 0), (0, 0, 0))), (((0, 0, 9), 0, (0, 0, 0), (0, 0, 0)), (0, (0, 1, 0), (0, 0, 0))), (((0, (-2147483648), 2147483647), 0, (0, 0, 0), (0, 0, 0)), (0, (0, 2, 0), (0, 0, 0)))], [some (1, 0, 0), some (1, 1, 0), some (1, 2, 0)], [], []), [([(((0, 1, 1023), 0, (0, 0, 0), (0, 0, 0)), (0, (0, 0, 0), (0, 0, 0)))], some (1, 3, 0), [], [])], [])
def sn_152_0 : se_Nd := (7, ([(((91, 0, 0), 0, (0, 0, 0), (0, 0, 0)), (3, (0, 0, 0), (0, 0, 0))), (((0, 0, 9), 0, (0, 0, 0), (0, 0, 0)), (3, (0, 1, 0), (0, 0, 0))), (((0, (-2147483648), 2147483647), 0, (0, 0, 0), (0, 0, 0)), (3, (0, 2, 0), (0, 0, 0))), (((0, 1, 1023), 0, (0, 0, 0), (0, 0, 0)), (0, (0, 3, 0), (0, 0, 0))), (((0, 0, 1), 0, (0, 0, 0), (0, 0, 0)), (0, (0, 4, 0), (0, 0, 0)))], [some (1, 0, 0), some (1, 1, 0), some (1, 2, 0), some (1, 3, 0), some (1, 4, 0), none, none, none], [], []), [(0, 0, 0), ((-1), 3, 0), (0, 0, 0), (1, 4, 0), (0, 0, 0)])
def sn_152_1 : se_Nd := (18, ([(((91, 0, 0), 0, (0, 0, 0), (0, 0, 0)), (3, (0, 0, 0), (0, 0, 0))), (((0, 0, 9), 0, (0, 0, 0), (0, 0, 0)), (3, (0, 1, 0), (0, 0, 0))), (((0, (-2147483648), 2147483647), 0, (0, 0, 0), (0, 0, 0)), (3, (0, 2, 0), (0, 0, 0))), (((0, 1, 1023), 0, (0, 0, 0), (0, 0, 0)), (0, (0, 3, 0), (0, 0, 0))), (((0, 0, 1), 0, (0, 0, 0), (0, 0, 0)), (0, (0, 4, 0), (0, 0, 0))), (((0, 0, 12), 0, (0, 0, 0), (0, 0, 0)), (0, (0, 5, 0), (0, 0, 0)))], [some (1, 0, 0), some (1, 1, 0), some (1, 2, 0), some (1, 3, 0), some (1, 4, 0), some (1, 5, 0), none, none], [], []), [(0, 0, 0), ((-1), 3, 0), (0, 0, 0), (1, 4, 0), (0, 0, 1), ((-1), 5, 0), (0, 0, 0)])
abbrev sn_152 : List se_Nd := [sn_152_0, sn_152_1]
set_option maxRecDepth 100000 in
theorem sk_152 : se_chk0 se_tt [] se_Z 37 se_zt sc_152 sn_152 7 = true := by decide +kernel
set_option maxRecDepth 100000 in
theorem sk_152_0 : se_chkn se_tt [] se_Z 37 se_zt sc_152 sn_152 7 sn_152_0 = true := by decide +kernel
set_option maxRecDepth 100000 in
theorem sk_152_1 : se_chkn se_tt [] se_Z 37 se_zt sc_152 sn_152 7 sn_152_1 = true := by decide +kernel
theorem sm_152 {ty : Nat → Option Nat} {J : List mm_C → Prop} {kx : Nat} {zs : List mm_Zt} (hO : se_Ok ty J kx zs) : se_Met ty se_tt J kx zs sc_152 := se_sound (C := []) hO.1 hO.2.1 hO.2.2 (fun _ hn => absurd hn List.not_mem_nil) sk_152 (fun n hn => by
  rcases List.mem_cons.mp hn with rfl | hn
  · exact sk_152_0
  rcases List.mem_cons.mp hn with rfl | hn
  · exact sk_152_1
  exact absurd hn List.not_mem_nil)
/-- RaftTownModel.raftIs -/
def sc_153 : se_C := ((227, 3), ([(((91, 0, 0), 0, (0, 0, 0), (0, 0, 0)), (0, (0, 0, 0), (0, 0, 0))), (((0, (-2147483648), 2147483647), 0, (0, 0, 0), (0, 0, 0)), (0, (0, 1, 0), (0, 0, 0))), (((0, (-2147483648), 2147483647), 0, (0, 0, 0), (0, 0, 0)), (0, (0, 2, 0), (0, 0, 0)))], [some (1, 0, 0), some (1, 1, 0), some (1, 2, 0)], [], []), [([(((0, (-2147483648), 2147483647), 0, (0, 0, 0), (0, 0, 0)), (0, (0, 0, 0), (0, 0, 0)))], some (1, 3, 0), [], [])], [(89, 3, 4)])
abbrev sn_153 : List se_Nd := []
set_option maxRecDepth 100000 in
theorem sk_153 : se_chk0 se_tt [sc_h1, sc_149, sc_150, sc_151, sc_152] se_Z 37 se_zt sc_153 sn_153 6 = true := by decide +kernel
theorem sm_153 {ty : Nat → Option Nat} {J : List mm_C → Prop} {kx : Nat} {zs : List mm_Zt} (hO : se_Ok ty J kx zs) (hh1 : se_Met ty se_tt J kx zs sc_h1) (h149 : se_Met ty se_tt J kx zs sc_149) (h150 : se_Met ty se_tt J kx zs sc_150) (h151 : se_Met ty se_tt J kx zs sc_151) (h152 : se_Met ty se_tt J kx zs sc_152) : se_Met ty se_tt J kx zs sc_153 := se_sound (C := [sc_h1, sc_149, sc_150, sc_151, sc_152]) hO.1 hO.2.1 hO.2.2 (fun n hn => by
  rcases List.mem_cons.mp hn with rfl | hn
  · exact hh1
  rcases List.mem_cons.mp hn with rfl | hn
  · exact h149
  rcases List.mem_cons.mp hn with rfl | hn
  · exact h150
  rcases List.mem_cons.mp hn with rfl | hn
  · exact h151
  rcases List.mem_cons.mp hn with rfl | hn
  · exact h152
  exact absurd hn List.not_mem_nil) sk_153 (fun _ hn => absurd hn List.not_mem_nil)
/-- RaftTownModel.load -/
def sc_154 : se_C := ((238, 1), ([(((91, 0, 0), 0, (0, 0, 0), (0, 0, 0)), (0, (0, 0, 0), (0, 0, 0))), (((0, (-2147483648), 2147483647), 0, (0, 0, 0), (0, 0, 0)), (0, (0, 1, 0), (0, 0, 0))), (((0, (-2147483648), 2147483647), 0, (0, 0, 0), (0, 0, 0)), (0, (0, 2, 0), (0, 0, 0))), (((0, 0, 1), 0, (0, 0, 0), (0, 0, 0)), (0, (0, 3, 0), (0, 0, 0)))], [some (1, 0, 0), some (1, 1, 0), some (1, 2, 0), some (1, 3, 0)], [], []), [([(((0, (-2147483648), 2147483647), 0, (0, 0, 0), (0, 0, 0)), (0, (0, 0, 0), (0, 0, 0)))], some (1, 4, 0), [], [])], [(56, 0, 528), (89, 3, 4)])
abbrev sn_154 : List se_Nd := []
set_option maxRecDepth 100000 in
theorem sk_154 : se_chk0 se_tt [] se_Z 37 se_zt sc_154 sn_154 8 = true := by decide +kernel
theorem sm_154 {ty : Nat → Option Nat} {J : List mm_C → Prop} {kx : Nat} {zs : List mm_Zt} (hO : se_Ok ty J kx zs) : se_Met ty se_tt J kx zs sc_154 := se_sound (C := []) hO.1 hO.2.1 hO.2.2 (fun _ hn => absurd hn List.not_mem_nil) sk_154 (fun _ hn => absurd hn List.not_mem_nil)
/-- RaftTownModel.trade -/
def sc_155 : se_C := ((241, 2), ([(((91, 0, 0), 0, (0, 0, 0), (0, 0, 0)), (0, (0, 0, 0), (0, 0, 0))), (((0, (-2147483648), 2147483647), 0, (0, 0, 0), (0, 0, 0)), (0, (0, 1, 0), (0, 0, 0))), (((0, (-2147483648), 2147483647), 0, (0, 0, 0), (0, 0, 0)), (0, (0, 2, 0), (0, 0, 0))), (((0, (-2147483648), 2147483647), 0, (0, 0, 0), (0, 0, 0)), (0, (0, 3, 0), (0, 0, 0))), (((0, 0, 1), 0, (0, 0, 0), (0, 0, 0)), (0, (0, 4, 0), (0, 0, 0)))], [some (1, 0, 0), some (1, 1, 0), some (1, 2, 0), some (1, 3, 0), some (1, 4, 0)], [], []), [([(((0, (-2147483648), 2147483647), 0, (0, 0, 0), (0, 0, 0)), (0, (0, 0, 0), (0, 0, 0)))], some (1, 5, 0), [], [])], [(56, 0, 528), (89, 3, 4)])
abbrev sn_155 : List se_Nd := []
set_option maxRecDepth 100000 in
theorem sk_155 : se_chk0 se_tt [sc_151, sc_152] se_Z 37 se_zt sc_155 sn_155 9 = true := by decide +kernel
theorem sm_155 {ty : Nat → Option Nat} {J : List mm_C → Prop} {kx : Nat} {zs : List mm_Zt} (hO : se_Ok ty J kx zs) (h151 : se_Met ty se_tt J kx zs sc_151) (h152 : se_Met ty se_tt J kx zs sc_152) : se_Met ty se_tt J kx zs sc_155 := se_sound (C := [sc_151, sc_152]) hO.1 hO.2.1 hO.2.2 (fun n hn => by
  rcases List.mem_cons.mp hn with rfl | hn
  · exact h151
  rcases List.mem_cons.mp hn with rfl | hn
  · exact h152
  exact absurd hn List.not_mem_nil) sk_155 (fun _ hn => absurd hn List.not_mem_nil)
/-- RaftTownModel.person -/
def sc_156 : se_C := ((242, 1), ([(((91, 0, 0), 0, (0, 0, 0), (0, 0, 0)), (0, (0, 0, 0), (0, 0, 0))), (((0, (-2147483648), 2147483647), 0, (0, 0, 0), (0, 0, 0)), (0, (0, 1, 0), (0, 0, 0))), (((0, (-2147483648), 2147483647), 0, (0, 0, 0), (0, 0, 0)), (0, (0, 2, 0), (0, 0, 0))), (((0, (-2147483648), 2147483647), 0, (0, 0, 0), (0, 0, 0)), (0, (0, 3, 0), (0, 0, 0))), (((0, (-2147483648), 2147483647), 0, (0, 0, 0), (0, 0, 0)), (0, (0, 4, 0), (0, 0, 0)))], [some (1, 0, 0), some (1, 1, 0), some (1, 2, 0), some (1, 3, 0), some (1, 4, 0)], [], []), [([(((0, (-100006), 13), 0, (0, 0, 0), (0, 0, 0)), (0, (0, 0, 0), (0, 0, 0)))], some (1, 5, 0), [], [])], [(56, 0, 528), (89, 3, 4)])
abbrev sn_156 : List se_Nd := []
set_option maxRecDepth 100000 in
theorem sk_156 : se_chk0 se_tt [] se_Z 37 se_zt sc_156 sn_156 8 = true := by decide +kernel
theorem sm_156 {ty : Nat → Option Nat} {J : List mm_C → Prop} {kx : Nat} {zs : List mm_Zt} (hO : se_Ok ty J kx zs) : se_Met ty se_tt J kx zs sc_156 := se_sound (C := []) hO.1 hO.2.1 hO.2.2 (fun _ hn => absurd hn List.not_mem_nil) sk_156 (fun _ hn => absurd hn List.not_mem_nil)
/-- RaftTownModel.wed -/
def sc_157 : se_C := ((243, 1), ([(((91, 0, 0), 0, (0, 0, 0), (0, 0, 0)), (0, (0, 0, 0), (0, 0, 0))), (((0, (-2147483648), 2147483647), 0, (0, 0, 0), (0, 0, 0)), (0, (0, 1, 0), (0, 0, 0))), (((0, (-2147483648), 2147483647), 0, (0, 0, 0), (0, 0, 0)), (0, (0, 2, 0), (0, 0, 0)))], [some (1, 0, 0), some (1, 1, 0), some (1, 2, 0)], [], []), [([(((0, (-100007), 1), 0, (0, 0, 0), (0, 0, 0)), (0, (0, 0, 0), (0, 0, 0)))], some (1, 3, 0), [], [])], [(56, 0, 528), (89, 3, 4)])
abbrev sn_157 : List se_Nd := []
set_option maxRecDepth 100000 in
theorem sk_157 : se_chk0 se_tt [] se_Z 37 se_zt sc_157 sn_157 8 = true := by decide +kernel
theorem sm_157 {ty : Nat → Option Nat} {J : List mm_C → Prop} {kx : Nat} {zs : List mm_Zt} (hO : se_Ok ty J kx zs) : se_Met ty se_tt J kx zs sc_157 := se_sound (C := []) hO.1 hO.2.1 hO.2.2 (fun _ hn => absurd hn List.not_mem_nil) sk_157 (fun _ hn => absurd hn List.not_mem_nil)
/-- RaftTownModel.move -/
def sc_158 : se_C := ((245, 2), ([(((91, 0, 0), 0, (0, 0, 0), (0, 0, 0)), (0, (0, 0, 0), (0, 0, 0))), (((0, (-2147483648), 2147483647), 0, (0, 0, 0), (0, 0, 0)), (0, (0, 1, 0), (0, 0, 0))), (((0, (-2147483648), 2147483647), 0, (0, 0, 0), (0, 0, 0)), (0, (0, 2, 0), (0, 0, 0)))], [some (1, 0, 0), some (1, 1, 0), some (1, 2, 0)], [], []), [([(((0, (-100008), 9), 0, (0, 0, 0), (0, 0, 0)), (0, (0, 0, 0), (0, 0, 0)))], some (1, 3, 0), [], [])], [(56, 0, 528), (89, 3, 4)])
abbrev sn_158 : List se_Nd := []
set_option maxRecDepth 100000 in
theorem sk_158 : se_chk0 se_tt [sc_151, sc_152] se_Z 37 se_zt sc_158 sn_158 8 = true := by decide +kernel
theorem sm_158 {ty : Nat → Option Nat} {J : List mm_C → Prop} {kx : Nat} {zs : List mm_Zt} (hO : se_Ok ty J kx zs) (h151 : se_Met ty se_tt J kx zs sc_151) (h152 : se_Met ty se_tt J kx zs sc_152) : se_Met ty se_tt J kx zs sc_158 := se_sound (C := [sc_151, sc_152]) hO.1 hO.2.1 hO.2.2 (fun n hn => by
  rcases List.mem_cons.mp hn with rfl | hn
  · exact h151
  rcases List.mem_cons.mp hn with rfl | hn
  · exact h152
  exact absurd hn List.not_mem_nil) sk_158 (fun _ hn => absurd hn List.not_mem_nil)
/-- RaftTownModel.areKin -/
def sc_159 : se_C := ((247, 1), ([(((91, 0, 0), 0, (0, 0, 0), (0, 0, 0)), (0, (0, 0, 0), (0, 0, 0))), (((0, 0, 13), 0, (0, 0, 0), (0, 0, 0)), (0, (0, 1, 0), (0, 0, 0))), (((0, 0, 13), 0, (0, 0, 0), (0, 0, 0)), (0, (0, 2, 0), (0, 0, 0)))], [some (1, 0, 0), some (1, 1, 0), some (1, 2, 0)], [], []), [([(((0, 0, 1), 0, (0, 0, 0), (0, 0, 0)), (0, (0, 0, 0), (0, 0, 0)))], some (1, 3, 0), [], [])], [])
abbrev sn_159 : List se_Nd := []
set_option maxRecDepth 100000 in
theorem sk_159 : se_chk0 se_tt [] se_Z 37 se_zt sc_159 sn_159 8 = true := by decide +kernel
theorem sm_159 {ty : Nat → Option Nat} {J : List mm_C → Prop} {kx : Nat} {zs : List mm_Zt} (hO : se_Ok ty J kx zs) : se_Met ty se_tt J kx zs sc_159 := se_sound (C := []) hO.1 hO.2.1 hO.2.2 (fun _ hn => absurd hn List.not_mem_nil) sk_159 (fun _ hn => absurd hn List.not_mem_nil)
/-- RaftTownModel.personIs -/
def sc_160 : se_C := ((246, 2), ([(((91, 0, 0), 0, (0, 0, 0), (0, 0, 0)), (0, (0, 0, 0), (0, 0, 0))), (((0, (-2147483648), 2147483647), 0, (0, 0, 0), (0, 0, 0)), (0, (0, 1, 0), (0, 0, 0))), (((0, (-2147483648), 2147483647), 0, (0, 0, 0), (0, 0, 0)), (0, (0, 2, 0), (0, 0, 0)))], [some (1, 0, 0), some (1, 1, 0), some (1, 2, 0)], [], []), [([(((0, (-2147483648), 2147483647), 0, (0, 0, 0), (0, 0, 0)), (0, (0, 0, 0), (0, 0, 0)))], some (1, 3, 0), [], [])], [(89, 3, 4)])
def sn_160_0 : se_Nd := (83, ([(((91, 0, 0), 0, (0, 0, 0), (0, 0, 0)), (3, (0, 0, 0), (0, 0, 0))), (((0, 0, 13), 0, (0, 0, 0), (0, 0, 0)), (3, (0, 1, 0), (0, 0, 0))), (((0, 5, 5), 0, (0, 0, 0), (0, 0, 0)), (3, (0, 2, 0), (0, 0, 0))), (((0, 0, 65535), 0, (0, 0, 0), (0, 0, 0)), (0, (0, 3, 0), (0, 0, 0))), (((0, 0, 14), 0, (0, 0, 0), (0, 0, 0)), (0, (0, 4, 0), (0, 0, 0)))], [some (1, 0, 0), some (1, 1, 0), some (1, 2, 0), some (1, 3, 0), some (1, 4, 0)], [], []), [(0, 0, 0), ((-1), 4, 0), (0, 0, 0)])
abbrev sn_160 : List se_Nd := [sn_160_0]
set_option maxRecDepth 100000 in
theorem sk_160 : se_chk0 se_tt [sc_159] se_Z 37 se_zt sc_160 sn_160 6 = true := by decide +kernel
set_option maxRecDepth 100000 in
theorem sk_160_0 : se_chkn se_tt [sc_159] se_Z 37 se_zt sc_160 sn_160 6 sn_160_0 = true := by decide +kernel
theorem sm_160 {ty : Nat → Option Nat} {J : List mm_C → Prop} {kx : Nat} {zs : List mm_Zt} (hO : se_Ok ty J kx zs) (h159 : se_Met ty se_tt J kx zs sc_159) : se_Met ty se_tt J kx zs sc_160 := se_sound (C := [sc_159]) hO.1 hO.2.1 hO.2.2 (fun n hn => by
  rcases List.mem_cons.mp hn with rfl | hn
  · exact h159
  exact absurd hn List.not_mem_nil) sk_160 (fun n hn => by
  rcases List.mem_cons.mp hn with rfl | hn
  · exact sk_160_0
  exact absurd hn List.not_mem_nil)
/-- RaftTownModel.partMany -/
def sc_161 : se_C := ((250, 2), ([(((91, 0, 0), 0, (0, 0, 0), (0, 0, 0)), (0, (0, 0, 0), (0, 0, 0)))], [some (1, 0, 0)], [], []), [([(((0, (-2147483648), 2147483647), 0, (0, 0, 0), (0, 0, 0)), (0, (0, 0, 0), (0, 0, 0)))], some (1, 1, 0), [], [])], [])
def sn_161_0 : se_Nd := (9, ([(((91, 0, 0), 0, (0, 0, 0), (0, 0, 0)), (3, (0, 0, 0), (0, 0, 0))), (((0, 0, 4095), 0, (0, 0, 0), (0, 0, 0)), (0, (0, 1, 0), (0, 0, 0))), (((0, (-2147483648), 2147483647), 0, (0, 0, 0), (0, 0, 0)), (0, (0, 2, 0), (0, 0, 0))), (((0, 0, 10), 0, (0, 0, 0), (0, 0, 0)), (0, (0, 3, 0), (0, 0, 0)))], [some (1, 0, 0), some (1, 1, 0), some (1, 2, 0), some (1, 3, 0)], [], []), [(0, 0, 0), ((-1), 3, 0), (0, 0, 0)])
abbrev sn_161 : List se_Nd := [sn_161_0]
set_option maxRecDepth 100000 in
theorem sk_161 : se_chk0 se_tt [sc_h1, sc_151, sc_152] se_Z 37 se_zt sc_161 sn_161 6 = true := by decide +kernel
set_option maxRecDepth 100000 in
theorem sk_161_0 : se_chkn se_tt [sc_h1, sc_151, sc_152] se_Z 37 se_zt sc_161 sn_161 6 sn_161_0 = true := by decide +kernel
theorem sm_161 {ty : Nat → Option Nat} {J : List mm_C → Prop} {kx : Nat} {zs : List mm_Zt} (hO : se_Ok ty J kx zs) (hh1 : se_Met ty se_tt J kx zs sc_h1) (h151 : se_Met ty se_tt J kx zs sc_151) (h152 : se_Met ty se_tt J kx zs sc_152) : se_Met ty se_tt J kx zs sc_161 := se_sound (C := [sc_h1, sc_151, sc_152]) hO.1 hO.2.1 hO.2.2 (fun n hn => by
  rcases List.mem_cons.mp hn with rfl | hn
  · exact hh1
  rcases List.mem_cons.mp hn with rfl | hn
  · exact h151
  rcases List.mem_cons.mp hn with rfl | hn
  · exact h152
  exact absurd hn List.not_mem_nil) sk_161 (fun n hn => by
  rcases List.mem_cons.mp hn with rfl | hn
  · exact sk_161_0
  exact absurd hn List.not_mem_nil)
/-- RaftTownModel.parts -/
def sc_162 : se_C := ((249, 3), ([(((91, 0, 0), 0, (0, 0, 0), (0, 0, 0)), (0, (0, 0, 0), (0, 0, 0)))], [some (1, 0, 0)], [], []), [([(((0, (-2147483648), 2147483647), 0, (0, 0, 0), (0, 0, 0)), (0, (0, 0, 0), (0, 0, 0)))], some (1, 1, 0), [], [])], [])
abbrev sn_162 : List se_Nd := []
set_option maxRecDepth 100000 in
theorem sk_162 : se_chk0 se_tt [sc_161] se_Z 37 se_zt sc_162 sn_162 2 = true := by decide +kernel
theorem sm_162 {ty : Nat → Option Nat} {J : List mm_C → Prop} {kx : Nat} {zs : List mm_Zt} (hO : se_Ok ty J kx zs) (h161 : se_Met ty se_tt J kx zs sc_161) : se_Met ty se_tt J kx zs sc_162 := se_sound (C := [sc_161]) hO.1 hO.2.1 hO.2.2 (fun n hn => by
  rcases List.mem_cons.mp hn with rfl | hn
  · exact h161
  exact absurd hn List.not_mem_nil) sk_162 (fun _ hn => absurd hn List.not_mem_nil)
/-- RaftTownModel.part -/
def sc_163 : se_C := ((251, 2), ([(((91, 0, 0), 0, (0, 0, 0), (0, 0, 0)), (0, (0, 0, 0), (0, 0, 0))), (((0, (-2147483648), 2147483647), 0, (0, 0, 0), (0, 0, 0)), (0, (0, 1, 0), (0, 0, 0)))], [some (1, 0, 0), some (1, 1, 0)], [], []), [([(((0, (-100006), 1023), 0, (0, 0, 0), (0, 0, 0)), (0, (0, 0, 0), (0, 0, 0)))], some (1, 2, 0), [], [])], [(89, 3, 4)])
abbrev sn_163 : List se_Nd := []
set_option maxRecDepth 100000 in
theorem sk_163 : se_chk0 se_tt [sc_151, sc_152] se_Z 37 se_zt sc_163 sn_163 6 = true := by decide +kernel
theorem sm_163 {ty : Nat → Option Nat} {J : List mm_C → Prop} {kx : Nat} {zs : List mm_Zt} (hO : se_Ok ty J kx zs) (h151 : se_Met ty se_tt J kx zs sc_151) (h152 : se_Met ty se_tt J kx zs sc_152) : se_Met ty se_tt J kx zs sc_163 := se_sound (C := [sc_151, sc_152]) hO.1 hO.2.1 hO.2.2 (fun n hn => by
  rcases List.mem_cons.mp hn with rfl | hn
  · exact h151
  rcases List.mem_cons.mp hn with rfl | hn
  · exact h152
  exact absurd hn List.not_mem_nil) sk_163 (fun _ hn => absurd hn List.not_mem_nil)
/-- RaftTownModel.hasRoom -/
def sc_164 : se_C := ((253, 1), ([(((91, 0, 0), 0, (0, 0, 0), (0, 0, 0)), (0, (0, 0, 0), (0, 0, 0))), (((0, 0, 9), 0, (0, 0, 0), (0, 0, 0)), (0, (0, 1, 0), (0, 0, 0))), (((0, (-2147483648), 2147483647), 0, (0, 0, 0), (0, 0, 0)), (0, (0, 2, 0), (0, 0, 0)))], [some (1, 0, 0), some (1, 1, 0), some (1, 2, 0)], [], []), [([(((0, 0, 1), 0, (0, 0, 0), (0, 0, 0)), (0, (0, 0, 0), (0, 0, 0)))], some (1, 3, 0), [], [])], [])
def sn_164_0 : se_Nd := (5, ([(((91, 0, 0), 0, (0, 0, 0), (0, 0, 0)), (3, (0, 0, 0), (0, 0, 0))), (((0, 0, 9), 0, (0, 0, 0), (0, 0, 0)), (3, (0, 1, 0), (0, 0, 0))), (((0, (-2147483648), 2147483647), 0, (0, 0, 0), (0, 0, 0)), (3, (0, 2, 0), (0, 0, 0))), (((0, (-2147483648), 2147483647), 0, (0, 0, 0), (0, 0, 0)), (0, (0, 3, 0), (0, 0, 0))), (((0, 0, 12), 0, (0, 0, 0), (0, 0, 0)), (0, (0, 4, 0), (0, 0, 0)))], [some (1, 0, 0), some (1, 1, 0), some (1, 2, 0), some (1, 3, 0), some (1, 4, 0)], [], []), [(0, 0, 0), ((-1), 4, 0), (0, 0, 0)])
abbrev sn_164 : List se_Nd := [sn_164_0]
set_option maxRecDepth 100000 in
theorem sk_164 : se_chk0 se_tt [] se_Z 37 se_zt sc_164 sn_164 7 = true := by decide +kernel
set_option maxRecDepth 100000 in
theorem sk_164_0 : se_chkn se_tt [] se_Z 37 se_zt sc_164 sn_164 7 sn_164_0 = true := by decide +kernel
theorem sm_164 {ty : Nat → Option Nat} {J : List mm_C → Prop} {kx : Nat} {zs : List mm_Zt} (hO : se_Ok ty J kx zs) : se_Met ty se_tt J kx zs sc_164 := se_sound (C := []) hO.1 hO.2.1 hO.2.2 (fun _ hn => absurd hn List.not_mem_nil) sk_164 (fun n hn => by
  rcases List.mem_cons.mp hn with rfl | hn
  · exact sk_164_0
  exact absurd hn List.not_mem_nil)
