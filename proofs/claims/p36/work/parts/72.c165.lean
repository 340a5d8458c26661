/-! ===== printed by wip/p2/gen_tab.py: contracts and their checks ===== -/
/-- RaftTownModel.tellsOn -/
def sc_165 : se_C := ((254, 1), ([(((91, 0, 0), 0, (0, 0, 0), (0, 0, 0)), (0, (0, 0, 0), (0, 0, 0))), (((0, (-2147483648), 2147483647), 0, (0, 0, 0), (0, 0, 0)), (0, (0, 1, 0), (0, 0, 0)))], [some (1, 0, 0), some (1, 1, 0)], [], []), [([], none, [], [])], [(56, 0, 528)])
def sn_165_0 : se_Nd := (2, ([(((91, 0, 0), 0, (0, 0, 0), (0, 0, 0)), (3, (0, 0, 0), (0, 0, 0))), (((0, (-2147483648), 2147483647), 0, (0, 0, 0), (0, 0, 0)), (3, (0, 1, 0), (0, 0, 0))), (((0, 0, 40), 0, (0, 0, 0), (0, 0, 0)), (0, (0, 2, 0), (0, 0, 0)))], [some (1, 0, 0), some (1, 1, 0), some (1, 2, 0)], [], []), [(0, 0, 1), ((-1), 2, 0), (0, 0, 0)])
def sn_165_1 : se_Nd := (58, ([(((91, 0, 0), 0, (0, 0, 0), (0, 0, 0)), (3, (0, 0, 0), (0, 0, 0))), (((0, (-2147483648), 2147483647), 0, (0, 0, 0), (0, 0, 0)), (3, (0, 1, 0), (0, 0, 0))), (((0, 0, 12), 0, (0, 0, 0), (0, 0, 0)), (0, (0, 2, 0), (0, 0, 0)))], [some (1, 0, 0), some (1, 1, 0), some (1, 2, 0)], [], []), [(0, 0, 0), ((-1), 2, 0), (0, 0, 0)])
abbrev sn_165 : List se_Nd := [sn_165_0, sn_165_1]
set_option maxRecDepth 100000 in
theorem sk_165 : se_chk0 se_tt [] se_Z 37 se_zt sc_165 sn_165 6 = true := by decide +kernel
set_option maxRecDepth 100000 in
theorem sk_165_0 : se_chkn se_tt [] se_Z 37 se_zt sc_165 sn_165 6 sn_165_0 = true := by decide +kernel
set_option maxRecDepth 100000 in
theorem sk_165_1 : se_chkn se_tt [] se_Z 37 se_zt sc_165 sn_165 6 sn_165_1 = true := by decide +kernel
theorem sm_165 {ty : Nat → Option Nat} {J : List mm_C → Prop} {kx : Nat} {zs : List mm_Zt} (hO : se_Ok ty J kx zs) : se_Met ty se_tt J kx zs sc_165 := se_sound (C := []) hO.1 hO.2.1 hO.2.2 (fun _ hn => absurd hn List.not_mem_nil) sk_165 (fun n hn => by
  rcases List.mem_cons.mp hn with rfl | hn
  · exact sk_165_0
  rcases List.mem_cons.mp hn with rfl | hn
  · exact sk_165_1
  exact absurd hn List.not_mem_nil)
/-- RaftTownModel.happens -/
def sc_166 : se_C := ((255, 1), ([(((91, 0, 0), 0, (0, 0, 0), (0, 0, 0)), (0, (0, 0, 0), (0, 0, 0))), (((0, (-2147483648), 2147483647), 0, (0, 0, 0), (0, 0, 0)), (0, (0, 1, 0), (0, 0, 0))), (((0, (-2147483648), 2147483647), 0, (0, 0, 0), (0, 0, 0)), (0, (0, 2, 0), (0, 0, 0))), (((0, (-2147483648), 2147483647), 0, (0, 0, 0), (0, 0, 0)), (0, (0, 3, 0), (0, 0, 0)))], [some (1, 0, 0), some (1, 1, 0), some (1, 2, 0), some (1, 3, 0)], [], []), [([], none, [], [])], [(56, 0, 528)])
def sn_166_0 : se_Nd := (15, ([(((91, 0, 0), 0, (0, 0, 0), (0, 0, 0)), (3, (0, 0, 0), (0, 0, 0))), (((0, (-2147483648), 2147483647), 0, (0, 0, 0), (0, 0, 0)), (3, (0, 1, 0), (0, 0, 0))), (((0, (-2147483648), 2147483647), 0, (0, 0, 0), (0, 0, 0)), (3, (0, 2, 0), (0, 0, 0))), (((0, (-2147483648), 2147483647), 0, (0, 0, 0), (0, 0, 0)), (3, (0, 3, 0), (0, 0, 0))), (((0, 0, 156), 0, (0, 0, 0), (0, 0, 0)), (0, (0, 4, 0), (0, 0, 0))), (((58, 0, 0), 0, (0, 0, 0), (0, 0, 0)), (1, (1, 0, 0), (0, 0, 0))), (((0, 40, 40), 0, (0, 0, 0), (0, 0, 0)), (1, (1, 5, 0), (0, 0, 6)))], [some (1, 0, 0), some (1, 1, 0), some (1, 2, 0), some (1, 3, 0), some (1, 4, 0)], [((1, 0, 0), (0, 0, 0), (1, 5, 0)), ((1, 5, 0), (0, 0, 6), (1, 6, 0))], []), [(0, 0, 0), ((-1), 4, 0), (0, 0, 0)])
abbrev sn_166 : List se_Nd := [sn_166_0]
set_option maxRecDepth 100000 in
theorem sk_166 : se_chk0 se_tt [] se_Z 37 se_zt sc_166 sn_166 6 = true := by decide +kernel
set_option maxRecDepth 100000 in
theorem sk_166_0 : se_chkn se_tt [] se_Z 37 se_zt sc_166 sn_166 6 sn_166_0 = true := by decide +kernel
theorem sm_166 {ty : Nat → Option Nat} {J : List mm_C → Prop} {kx : Nat} {zs : List mm_Zt} (hO : se_Ok ty J kx zs) : se_Met ty se_tt J kx zs sc_166 := se_sound (C := []) hO.1 hO.2.1 hO.2.2 (fun _ hn => absurd hn List.not_mem_nil) sk_166 (fun n hn => by
  rcases List.mem_cons.mp hn with rfl | hn
  · exact sk_166_0
  exact absurd hn List.not_mem_nil)
/-- RaftTownModel.tie -/
def sc_167 : se_C := ((252, 2), ([(((91, 0, 0), 0, (0, 0, 0), (0, 0, 0)), (0, (0, 0, 0), (0, 0, 0))), (((0, (-2147483648), 2147483647), 0, (0, 0, 0), (0, 0, 0)), (0, (0, 1, 0), (0, 0, 0))), (((0, (-2147483648), 2147483647), 0, (0, 0, 0), (0, 0, 0)), (0, (0, 2, 0), (0, 0, 0))), (((0, (-2147483648), 2147483647), 0, (0, 0, 0), (0, 0, 0)), (0, (0, 3, 0), (0, 0, 0))), (((0, (-2147483648), 2147483647), 0, (0, 0, 0), (0, 0, 0)), (0, (0, 4, 0), (0, 0, 0))), (((0, (-2147483648), 2147483647), 0, (0, 0, 0), (0, 0, 0)), (0, (0, 5, 0), (0, 0, 0)))], [some (1, 0, 0), some (1, 1, 0), some (1, 2, 0), some (1, 3, 0), some (1, 4, 0), some (1, 5, 0)], [], []), [([(((0, (-100008), 11), 0, (0, 0, 0), (0, 0, 0)), (0, (0, 0, 0), (0, 0, 0)))], some (1, 6, 0), [], [])], [(56, 0, 528), (89, 3, 4)])
def sn_167_0 : se_Nd := (139, ([(((91, 0, 0), 0, (0, 0, 0), (0, 0, 0)), (3, (0, 0, 0), (0, 0, 0))), (((0, 0, 9), 0, (0, 0, 0), (0, 0, 0)), (3, (0, 1, 0), (0, 0, 0))), (((0, 0, 3), 0, (0, 0, 0), (0, 0, 0)), (3, (0, 2, 0), (0, 0, 0))), (((0, 0, 9), 0, (0, 0, 0), (0, 0, 0)), (3, (0, 3, 0), (0, 0, 0))), (((0, 0, 3), 0, (0, 0, 0), (0, 0, 0)), (3, (0, 4, 0), (0, 0, 0))), (((0, 1, 99), 0, (0, 0, 0), (0, 0, 0)), (3, (0, 5, 0), (0, 0, 0))), (((0, 0, 12), 0, (0, 0, 0), (0, 0, 0)), (0, (0, 6, 0), (0, 0, 0)))], [some (1, 0, 0), some (1, 1, 0), some (1, 2, 0), some (1, 3, 0), some (1, 4, 0), some (1, 5, 0), some (1, 6, 0), none, none], [], []), [(0, 0, 0), ((-1), 6, 0), (0, 0, 0)])
abbrev sn_167 : List se_Nd := [sn_167_0]
set_option maxRecDepth 100000 in
theorem sk_167 : se_chk0 se_tt [sc_151, sc_152, sc_164, sc_165, sc_166] se_Z 37 se_zt sc_167 sn_167 8 = true := by decide +kernel
set_option maxRecDepth 100000 in
theorem sk_167_0 : se_chkn se_tt [sc_151, sc_152, sc_164, sc_165, sc_166] se_Z 37 se_zt sc_167 sn_167 8 sn_167_0 = true := by decide +kernel
theorem sm_167 {ty : Nat → Option Nat} {J : List mm_C → Prop} {kx : Nat} {zs : List mm_Zt} (hO : se_Ok ty J kx zs) (h151 : se_Met ty se_tt J kx zs sc_151) (h152 : se_Met ty se_tt J kx zs sc_152) (h164 : se_Met ty se_tt J kx zs sc_164) (h165 : se_Met ty se_tt J kx zs sc_165) (h166 : se_Met ty se_tt J kx zs sc_166) : se_Met ty se_tt J kx zs sc_167 := se_sound (C := [sc_151, sc_152, sc_164, sc_165, sc_166]) hO.1 hO.2.1 hO.2.2 (fun n hn => by
  rcases List.mem_cons.mp hn with rfl | hn
  · exact h151
  rcases List.mem_cons.mp hn with rfl | hn
  · exact h152
  rcases List.mem_cons.mp hn with rfl | hn
  · exact h164
  rcases List.mem_cons.mp hn with rfl | hn
  · exact h165
  rcases List.mem_cons.mp hn with rfl | hn
  · exact h166
  exact absurd hn List.not_mem_nil) sk_167 (fun n hn => by
  rcases List.mem_cons.mp hn with rfl | hn
  · exact sk_167_0
  exact absurd hn List.not_mem_nil)
/-- RaftTownModel.weighs -/
def sc_168 : se_C := ((259, 3), ([(((91, 0, 0), 0, (0, 0, 0), (0, 0, 0)), (0, (0, 0, 0), (0, 0, 0)))], [some (1, 0, 0)], [], []), [([], none, [], [])], [(57, 0, 10)])
def sn_168_0 : se_Nd := (2, ([(((91, 0, 0), 0, (0, 0, 0), (0, 0, 0)), (3, (0, 0, 0), (0, 0, 0))), (((0, 0, 10), 0, (0, 0, 0), (0, 0, 0)), (0, (0, 1, 0), (0, 0, 0)))], [some (1, 0, 0), some (1, 1, 0)], [], []), [(0, 0, 0), ((-1), 1, 0), (0, 0, 0)])
abbrev sn_168 : List se_Nd := [sn_168_0]
set_option maxRecDepth 100000 in
theorem sk_168 : se_chk0 se_tt [sc_150] se_Z 37 se_zt sc_168 sn_168 4 = true := by decide +kernel
set_option maxRecDepth 100000 in
theorem sk_168_0 : se_chkn se_tt [sc_150] se_Z 37 se_zt sc_168 sn_168 4 sn_168_0 = true := by decide +kernel
theorem sm_168 {ty : Nat → Option Nat} {J : List mm_C → Prop} {kx : Nat} {zs : List mm_Zt} (hO : se_Ok ty J kx zs) (h150 : se_Met ty se_tt J kx zs sc_150) : se_Met ty se_tt J kx zs sc_168 := se_sound (C := [sc_150]) hO.1 hO.2.1 hO.2.2 (fun n hn => by
  rcases List.mem_cons.mp hn with rfl | hn
  · exact h150
  exact absurd hn List.not_mem_nil) sk_168 (fun n hn => by
  rcases List.mem_cons.mp hn with rfl | hn
  · exact sk_168_0
  exact absurd hn List.not_mem_nil)
/-- RaftTownModel.weightOfAll -/
def sc_169 : se_C := ((261, 1), ([(((91, 0, 0), 0, (0, 0, 0), (0, 0, 0)), (0, (0, 0, 0), (0, 0, 0))), (((0, (-2147483648), 2147483647), 0, (0, 0, 0), (0, 0, 0)), (0, (0, 1, 0), (0, 0, 0)))], [some (1, 0, 0), some (1, 1, 0)], [], []), [([(((0, (-2147483648), 2147483647), 0, (0, 0, 0), (0, 0, 0)), (0, (0, 0, 0), (0, 0, 0)))], some (1, 2, 0), [], [])], [])
def sn_169_0 : se_Nd := (4, ([(((91, 0, 0), 0, (0, 0, 0), (0, 0, 0)), (3, (0, 0, 0), (0, 0, 0))), (((0, (-2147483648), 2147483647), 0, (0, 0, 0), (0, 0, 0)), (3, (0, 1, 0), (0, 0, 0))), (((0, (-2147483648), 2147483647), 0, (0, 0, 0), (0, 0, 0)), (0, (0, 2, 0), (0, 0, 0))), (((0, 0, 10), 0, (0, 0, 0), (0, 0, 0)), (0, (0, 3, 0), (0, 0, 0)))], [some (1, 0, 0), some (1, 1, 0), some (1, 2, 0), some (1, 3, 0)], [], []), [(0, 0, 0), ((-1), 3, 0), (0, 0, 0)])
abbrev sn_169 : List se_Nd := [sn_169_0]
set_option maxRecDepth 100000 in
theorem sk_169 : se_chk0 se_tt [] se_Z 37 se_zt sc_169 sn_169 5 = true := by decide +kernel
set_option maxRecDepth 100000 in
theorem sk_169_0 : se_chkn se_tt [] se_Z 37 se_zt sc_169 sn_169 5 sn_169_0 = true := by decide +kernel
theorem sm_169 {ty : Nat → Option Nat} {J : List mm_C → Prop} {kx : Nat} {zs : List mm_Zt} (hO : se_Ok ty J kx zs) : se_Met ty se_tt J kx zs sc_169 := se_sound (C := []) hO.1 hO.2.1 hO.2.2 (fun _ hn => absurd hn List.not_mem_nil) sk_169 (fun n hn => by
  rcases List.mem_cons.mp hn with rfl | hn
  · exact sk_169_0
  exact absurd hn List.not_mem_nil)
/-- RaftTownModel.hangOf -/
def sc_170 : se_C := ((260, 2), ([(((91, 0, 0), 0, (0, 0, 0), (0, 0, 0)), (0, (0, 0, 0), (0, 0, 0))), (((0, 0, 11), 0, (0, 0, 0), (0, 0, 0)), (0, (0, 1, 0), (0, 0, 0))), (((0, (-2147483648), 2147483647), 0, (0, 0, 0), (0, 0, 0)), (0, (0, 2, 0), (0, 0, 0)))], [some (1, 0, 0), some (1, 1, 0), some (1, 2, 0)], [], []), [([(((0, (-2147483648), 2147483647), 0, (0, 0, 0), (0, 0, 0)), (0, (0, 0, 0), (0, 0, 0)))], some (1, 3, 0), [], [])], [])
abbrev sn_170 : List se_Nd := []
set_option maxRecDepth 100000 in
theorem sk_170 : se_chk0 se_tt [sc_152, sc_169] se_Z 37 se_zt sc_170 sn_170 7 = true := by decide +kernel
theorem sm_170 {ty : Nat → Option Nat} {J : List mm_C → Prop} {kx : Nat} {zs : List mm_Zt} (hO : se_Ok ty J kx zs) (h152 : se_Met ty se_tt J kx zs sc_152) (h169 : se_Met ty se_tt J kx zs sc_169) : se_Met ty se_tt J kx zs sc_170 := se_sound (C := [sc_152, sc_169]) hO.1 hO.2.1 hO.2.2 (fun n hn => by
  rcases List.mem_cons.mp hn with rfl | hn
  · exact h152
  rcases List.mem_cons.mp hn with rfl | hn
  · exact h169
  exact absurd hn List.not_mem_nil) sk_170 (fun _ hn => absurd hn List.not_mem_nil)
/-- RaftTownModel.rope -/
def sc_171 : se_C := ((256, 4), ([(((91, 0, 0), 0, (0, 0, 0), (0, 0, 0)), (0, (0, 0, 0), (0, 0, 0))), (((0, (-2147483648), 2147483647), 0, (0, 0, 0), (0, 0, 0)), (0, (0, 1, 0), (0, 0, 0))), (((0, (-2147483648), 2147483647), 0, (0, 0, 0), (0, 0, 0)), (0, (0, 2, 0), (0, 0, 0)))], [some (1, 0, 0), some (1, 1, 0), some (1, 2, 0)], [], []), [([(((0, (-2147483648), 2147483647), 0, (0, 0, 0), (0, 0, 0)), (0, (0, 0, 0), (0, 0, 0)))], some (1, 3, 0), [], [])], [(57, 0, 10), (89, 3, 4)])
abbrev sn_171 : List se_Nd := []
set_option maxRecDepth 100000 in
theorem sk_171 : se_chk0 se_tt [sc_151, sc_168, sc_170] se_Z 37 se_zt sc_171 sn_171 7 = true := by decide +kernel
theorem sm_171 {ty : Nat → Option Nat} {J : List mm_C → Prop} {kx : Nat} {zs : List mm_Zt} (hO : se_Ok ty J kx zs) (h151 : se_Met ty se_tt J kx zs sc_151) (h168 : se_Met ty se_tt J kx zs sc_168) (h170 : se_Met ty se_tt J kx zs sc_170) : se_Met ty se_tt J kx zs sc_171 := se_sound (C := [sc_151, sc_168, sc_170]) hO.1 hO.2.1 hO.2.2 (fun n hn => by
  rcases List.mem_cons.mp hn with rfl | hn
  · exact h151
  rcases List.mem_cons.mp hn with rfl | hn
  · exact h168
  rcases List.mem_cons.mp hn with rfl | hn
  · exact h170
  exact absurd hn List.not_mem_nil) sk_171 (fun _ hn => absurd hn List.not_mem_nil)
/-- RaftTownModel.loadOf -/
def sc_172 : se_C := ((264, 3), ([(((91, 0, 0), 0, (0, 0, 0), (0, 0, 0)), (0, (0, 0, 0), (0, 0, 0))), (((0, 0, 11), 0, (0, 0, 0), (0, 0, 0)), (0, (0, 1, 0), (0, 0, 0))), (((0, (-2147483648), 2147483647), 0, (0, 0, 0), (0, 0, 0)), (0, (0, 2, 0), (0, 0, 0))), (((0, (-2147483648), 2147483647), 0, (0, 0, 0), (0, 0, 0)), (0, (0, 3, 0), (0, 0, 0)))], [some (1, 0, 0), some (1, 1, 0), some (1, 2, 0), some (1, 3, 0)], [], []), [([(((0, (-2147483648), 2147483647), 0, (0, 0, 0), (0, 0, 0)), (0, (0, 0, 0), (0, 0, 0)))], some (1, 4, 0), [], [])], [])
abbrev sn_172 : List se_Nd := []
set_option maxRecDepth 100000 in
theorem sk_172 : se_chk0 se_tt [sc_170] se_Z 37 se_zt sc_172 sn_172 4 = true := by decide +kernel
theorem sm_172 {ty : Nat → Option Nat} {J : List mm_C → Prop} {kx : Nat} {zs : List mm_Zt} (hO : se_Ok ty J kx zs) (h170 : se_Met ty se_tt J kx zs sc_170) : se_Met ty se_tt J kx zs sc_172 := se_sound (C := [sc_170]) hO.1 hO.2.1 hO.2.2 (fun n hn => by
  rcases List.mem_cons.mp hn with rfl | hn
  · exact h170
  exact absurd hn List.not_mem_nil) sk_172 (fun _ hn => absurd hn List.not_mem_nil)
/-- RaftTownModel.bears -/
def sc_173 : se_C := ((262, 4), ([(((91, 0, 0), 0, (0, 0, 0), (0, 0, 0)), (0, (0, 0, 0), (0, 0, 0))), (((0, (-2147483648), 2147483647), 0, (0, 0, 0), (0, 0, 0)), (0, (0, 1, 0), (0, 0, 0))), (((0, (-2147483648), 2147483647), 0, (0, 0, 0), (0, 0, 0)), (0, (0, 2, 0), (0, 0, 0)))], [some (1, 0, 0), some (1, 1, 0), some (1, 2, 0)], [], []), [([(((0, (-2147483648), 2147483647), 0, (0, 0, 0), (0, 0, 0)), (0, (0, 0, 0), (0, 0, 0)))], some (1, 3, 0), [], [])], [(57, 0, 10), (89, 3, 4)])
abbrev sn_173 : List se_Nd := []
set_option maxRecDepth 100000 in
theorem sk_173 : se_chk0 se_tt [sc_151, sc_168, sc_172] se_Z 37 se_zt sc_173 sn_173 7 = true := by decide +kernel
theorem sm_173 {ty : Nat → Option Nat} {J : List mm_C → Prop} {kx : Nat} {zs : List mm_Zt} (hO : se_Ok ty J kx zs) (h151 : se_Met ty se_tt J kx zs sc_151) (h168 : se_Met ty se_tt J kx zs sc_168) (h172 : se_Met ty se_tt J kx zs sc_172) : se_Met ty se_tt J kx zs sc_173 := se_sound (C := [sc_151, sc_168, sc_172]) hO.1 hO.2.1 hO.2.2 (fun n hn => by
  rcases List.mem_cons.mp hn with rfl | hn
  · exact h151
  rcases List.mem_cons.mp hn with rfl | hn
  · exact h168
  rcases List.mem_cons.mp hn with rfl | hn
  · exact h172
  exact absurd hn List.not_mem_nil) sk_173 (fun _ hn => absurd hn List.not_mem_nil)
/-- RaftTownModel.partsFirst -/
def sc_174 : se_C := ((266, 4), ([(((91, 0, 0), 0, (0, 0, 0), (0, 0, 0)), (0, (0, 0, 0), (0, 0, 0))), (((0, 0, 4095), 0, (0, 0, 0), (0, 0, 0)), (0, (0, 1, 0), (0, 0, 0))), (((0, (-2147483648), 2147483647), 0, (0, 0, 0), (0, 0, 0)), (0, (0, 2, 0), (0, 0, 0)))], [some (1, 0, 0), some (1, 1, 0), some (1, 2, 0)], [], []), [([], some (0, 0, (-1)), [], []), ([(((0, 0, 11), 0, (0, 0, 0), (0, 0, 0)), (0, (0, 0, 0), (0, 0, 0))), (((0, (-2147483648), 2147483647), 8, (1, 1, 0), (1, 3, 0)), (2, (0, 0, 0), (0, 0, 0))), (((0, 1, 1), 4, (1, 4, 0), (0, 0, 1)), (2, (0, 0, 0), (0, 0, 0)))], some (1, 3, 0), [], [])], [])
def sn_174_0 : se_Nd := (8, ([(((91, 0, 0), 0, (0, 0, 0), (0, 0, 0)), (3, (0, 0, 0), (0, 0, 0))), (((0, 0, 4095), 0, (0, 0, 0), (0, 0, 0)), (3, (0, 1, 0), (0, 0, 0))), (((0, (-2147483648), 2147483647), 0, (0, 0, 0), (0, 0, 0)), (3, (0, 2, 0), (0, 0, 0))), (((0, 0, 12), 0, (0, 0, 0), (0, 0, 0)), (0, (0, 5, 0), (0, 0, 0)))], [some (1, 0, 0), some (1, 1, 0), some (1, 2, 0), some (0, 0, (-1)), some (0, 0, 0), some (1, 3, 0), none], [], []), [(0, 0, 1), ((-1), 3, 0), (0, 0, 0)])
def sn_174_1 : se_Nd := (8, ([(((91, 0, 0), 0, (0, 0, 0), (0, 0, 0)), (3, (0, 0, 0), (0, 0, 0))), (((0, 0, 4095), 0, (0, 0, 0), (0, 0, 0)), (3, (0, 1, 0), (0, 0, 0))), (((0, (-2147483648), 2147483647), 0, (0, 0, 0), (0, 0, 0)), (3, (0, 2, 0), (0, 0, 0))), (((0, 0, 11), 0, (0, 0, 0), (0, 0, 0)), (0, (0, 3, 0), (0, 0, 0))), (((0, 1, 2147483647), 0, (0, 0, 0), (0, 0, 0)), (0, (0, 4, 0), (0, 0, 0))), (((0, 1, 12), 0, (0, 0, 0), (0, 0, 0)), (0, (0, 5, 0), (0, 0, 0))), (((0, (-2147483648), 2147483647), 0, (0, 0, 0), (0, 0, 0)), (0, (0, 6, 0), (0, 0, 0))), (((0, 0, 4095), 8, (1, 1, 0), (1, 3, 0)), (2, (0, 0, 0), (0, 0, 0))), (((0, 1, 1), 4, (1, 7, 0), (0, 0, 1)), (2, (0, 0, 0), (0, 0, 0)))], [some (1, 0, 0), some (1, 1, 0), some (1, 2, 0), some (1, 3, 0), some (1, 4, 0), some (1, 5, 0), some (1, 6, 0)], [], []), [(0, 0, 0), ((-1), 5, 0), (0, 0, 0)])
abbrev sn_174 : List se_Nd := [sn_174_0, sn_174_1]
set_option maxRecDepth 100000 in
theorem sk_174 : se_chk0 se_tt [sc_172] se_Z 37 se_zt sc_174 sn_174 7 = true := by decide +kernel
set_option maxRecDepth 100000 in
theorem sk_174_0 : se_chkn se_tt [sc_172] se_Z 37 se_zt sc_174 sn_174 7 sn_174_0 = true := by decide +kernel
set_option maxRecDepth 100000 in
theorem sk_174_1 : se_chkn se_tt [sc_172] se_Z 37 se_zt sc_174 sn_174 7 sn_174_1 = true := by decide +kernel
theorem sm_174 {ty : Nat → Option Nat} {J : List mm_C → Prop} {kx : Nat} {zs : List mm_Zt} (hO : se_Ok ty J kx zs) (h172 : se_Met ty se_tt J kx zs sc_172) : se_Met ty se_tt J kx zs sc_174 := se_sound (C := [sc_172]) hO.1 hO.2.1 hO.2.2 (fun n hn => by
  rcases List.mem_cons.mp hn with rfl | hn
  · exact h172
  exact absurd hn List.not_mem_nil) sk_174 (fun n hn => by
  rcases List.mem_cons.mp hn with rfl | hn
  · exact sk_174_0
  rcases List.mem_cons.mp hn with rfl | hn
  · exact sk_174_1
  exact absurd hn List.not_mem_nil)
/-- RaftTownModel.worst -/
def sc_175 : se_C := ((265, 5), ([(((91, 0, 0), 0, (0, 0, 0), (0, 0, 0)), (0, (0, 0, 0), (0, 0, 0))), (((0, (-2147483648), 2147483647), 0, (0, 0, 0), (0, 0, 0)), (0, (0, 1, 0), (0, 0, 0))), (((0, (-2147483648), 2147483647), 0, (0, 0, 0), (0, 0, 0)), (0, (0, 2, 0), (0, 0, 0)))], [some (1, 0, 0), some (1, 1, 0), some (1, 2, 0)], [], []), [([(((0, (-2147483648), 2147483647), 0, (0, 0, 0), (0, 0, 0)), (0, (0, 0, 0), (0, 0, 0)))], some (1, 3, 0), [], [])], [(57, 0, 10), (89, 3, 4)])
def sn_175_0 : se_Nd := (39, ([(((91, 0, 0), 0, (0, 0, 0), (0, 0, 0)), (3, (0, 0, 0), (0, 0, 0))), (((0, 0, 20), 0, (0, 0, 0), (0, 0, 0)), (3, (0, 1, 0), (0, 0, 0))), (((0, (-1), 2147483647), 0, (0, 0, 0), (0, 0, 0)), (3, (0, 2, 0), (0, 0, 0))), (((0, 0, 4095), 0, (0, 0, 0), (0, 0, 0)), (0, (0, 3, 0), (0, 0, 0))), (((0, (-2147483648), 2147483647), 0, (0, 0, 0), (0, 0, 0)), (0, (0, 4, 0), (0, 0, 0)))], [some (1, 0, 0), some (1, 1, 0), some (1, 2, 0), some (1, 3, 0), some (1, 4, 0), some (0, 0, (-1))], [], []), [(0, 0, 0)])
def sn_175_1 : se_Nd := (39, ([(((91, 0, 0), 0, (0, 0, 0), (0, 0, 0)), (3, (0, 0, 0), (0, 0, 0))), (((0, 0, 20), 0, (0, 0, 0), (0, 0, 0)), (3, (0, 1, 0), (0, 0, 0))), (((0, (-1), 2147483647), 0, (0, 0, 0), (0, 0, 0)), (3, (0, 2, 0), (0, 0, 0))), (((0, 0, 4095), 0, (0, 0, 0), (0, 0, 0)), (0, (0, 3, 0), (0, 0, 0))), (((0, (-2147483648), 2147483647), 0, (0, 0, 0), (0, 0, 0)), (0, (0, 4, 0), (0, 0, 0))), (((0, 0, 11), 0, (0, 0, 0), (0, 0, 0)), (0, (0, 5, 0), (0, 0, 0))), (((0, (-2147483648), 2147483647), 8, (1, 3, 0), (1, 5, 0)), (2, (0, 0, 0), (0, 0, 0))), (((0, 1, 1), 4, (1, 6, 0), (0, 0, 1)), (2, (0, 0, 0), (0, 0, 0)))], [some (1, 0, 0), some (1, 1, 0), some (1, 2, 0), some (1, 3, 0), some (1, 4, 0), some (1, 5, 0)], [], []), [(0, 0, 1), (1, 3, 0), (0, 0, 0)])
abbrev sn_175 : List se_Nd := [sn_175_0, sn_175_1]
set_option maxRecDepth 100000 in
theorem sk_175 : se_chk0 se_tt [sc_151, sc_168, sc_174] se_Z 37 se_zt sc_175 sn_175 6 = true := by decide +kernel
set_option maxRecDepth 100000 in
theorem sk_175_0 : se_chkn se_tt [sc_151, sc_168, sc_174] se_Z 37 se_zt sc_175 sn_175 6 sn_175_0 = true := by decide +kernel
set_option maxRecDepth 100000 in
theorem sk_175_1 : se_chkn se_tt [sc_151, sc_168, sc_174] se_Z 37 se_zt sc_175 sn_175 6 sn_175_1 = true := by decide +kernel
theorem sm_175 {ty : Nat → Option Nat} {J : List mm_C → Prop} {kx : Nat} {zs : List mm_Zt} (hO : se_Ok ty J kx zs) (h151 : se_Met ty se_tt J kx zs sc_151) (h168 : se_Met ty se_tt J kx zs sc_168) (h174 : se_Met ty se_tt J kx zs sc_174) : se_Met ty se_tt J kx zs sc_175 := se_sound (C := [sc_151, sc_168, sc_174]) hO.1 hO.2.1 hO.2.2 (fun n hn => by
  rcases List.mem_cons.mp hn with rfl | hn
  · exact h151
  rcases List.mem_cons.mp hn with rfl | hn
  · exact h168
  rcases List.mem_cons.mp hn with rfl | hn
  · exact h174
  exact absurd hn List.not_mem_nil) sk_175 (fun n hn => by
  rcases List.mem_cons.mp hn with rfl | hn
  · exact sk_175_0
  rcases List.mem_cons.mp hn with rfl | hn
  · exact sk_175_1
  exact absurd hn List.not_mem_nil)
/-- RaftTownModel.events -/
def sc_176 : se_C := ((267, 1), ([(((91, 0, 0), 0, (0, 0, 0), (0, 0, 0)), (0, (0, 0, 0), (0, 0, 0))), (((0, (-2147483648), 2147483647), 0, (0, 0, 0), (0, 0, 0)), (0, (0, 1, 0), (0, 0, 0)))], [some (1, 0, 0), some (1, 1, 0)], [], []), [([(((0, (-2147483648), 2147483647), 0, (0, 0, 0), (0, 0, 0)), (0, (0, 0, 0), (0, 0, 0)))], some (1, 2, 0), [], [])], [(89, 3, 4)])
def sn_176_0 : se_Nd := (36, ([(((91, 0, 0), 0, (0, 0, 0), (0, 0, 0)), (3, (0, 0, 0), (0, 0, 0))), (((0, 0, 9), 0, (0, 0, 0), (0, 0, 0)), (3, (0, 1, 0), (0, 0, 0))), (((0, (-2147483648), 2147483647), 0, (0, 0, 0), (0, 0, 0)), (0, (0, 2, 0), (0, 0, 0))), (((0, 0, 40), 0, (0, 0, 0), (0, 0, 0)), (0, (0, 3, 0), (0, 0, 0)))], [some (1, 0, 0), some (1, 1, 0), some (1, 2, 0), some (1, 3, 0)], [], []), [(0, 0, 0), ((-1), 3, 0), (0, 0, 0)])
abbrev sn_176 : List se_Nd := [sn_176_0]
set_option maxRecDepth 100000 in
theorem sk_176 : se_chk0 se_tt [] se_Z 37 se_zt sc_176 sn_176 6 = true := by decide +kernel
set_option maxRecDepth 100000 in
theorem sk_176_0 : se_chkn se_tt [] se_Z 37 se_zt sc_176 sn_176 6 sn_176_0 = true := by decide +kernel
theorem sm_176 {ty : Nat → Option Nat} {J : List mm_C → Prop} {kx : Nat} {zs : List mm_Zt} (hO : se_Ok ty J kx zs) : se_Met ty se_tt J kx zs sc_176 := se_sound (C := []) hO.1 hO.2.1 hO.2.2 (fun _ hn => absurd hn List.not_mem_nil) sk_176 (fun n hn => by
  rcases List.mem_cons.mp hn with rfl | hn
  · exact sk_176_0
  exact absurd hn List.not_mem_nil)
/-- RaftTownModel.event -/
def sc_177 : se_C := ((268, 1), ([(((91, 0, 0), 0, (0, 0, 0), (0, 0, 0)), (0, (0, 0, 0), (0, 0, 0))), (((0, (-2147483648), 2147483647), 0, (0, 0, 0), (0, 0, 0)), (0, (0, 1, 0), (0, 0, 0))), (((0, (-2147483648), 2147483647), 0, (0, 0, 0), (0, 0, 0)), (0, (0, 2, 0), (0, 0, 0)))], [some (1, 0, 0), some (1, 1, 0), some (1, 2, 0)], [], []), [([(((0, (-2147483648), 2147483647), 0, (0, 0, 0), (0, 0, 0)), (0, (0, 0, 0), (0, 0, 0)))], some (1, 3, 0), [], [])], [(89, 3, 4)])
abbrev sn_177 : List se_Nd := []
set_option maxRecDepth 100000 in
theorem sk_177 : se_chk0 se_tt [] se_Z 37 se_zt sc_177 sn_177 6 = true := by decide +kernel
theorem sm_177 {ty : Nat → Option Nat} {J : List mm_C → Prop} {kx : Nat} {zs : List mm_Zt} (hO : se_Ok ty J kx zs) : se_Met ty se_tt J kx zs sc_177 := se_sound (C := []) hO.1 hO.2.1 hO.2.2 (fun _ hn => absurd hn List.not_mem_nil) sk_177 (fun _ hn => absurd hn List.not_mem_nil)
/-- RaftTownModel.partsAll -/
def sc_178 : se_C := ((271, 5), ([(((91, 0, 0), 0, (0, 0, 0), (0, 0, 0)), (0, (0, 0, 0), (0, 0, 0))), (((0, (-2147483648), 2147483647), 0, (0, 0, 0), (0, 0, 0)), (0, (0, 1, 0), (0, 0, 0)))], [some (1, 0, 0), some (1, 1, 0)], [], []), [([(((0, (-2147483648), 2147483647), 0, (0, 0, 0), (0, 0, 0)), (0, (0, 0, 0), (0, 0, 0)))], some (1, 2, 0), [], [])], [(56, 0, 528), (57, 0, 10)])
def sn_178_0 : se_Nd := (19, ([(((91, 0, 0), 0, (0, 0, 0), (0, 0, 0)), (3, (0, 0, 0), (0, 0, 0))), (((0, (-2147483648), 2147483647), 0, (0, 0, 0), (0, 0, 0)), (3, (0, 1, 0), (0, 0, 0))), (((0, 0, 4095), 0, (0, 0, 0), (0, 0, 0)), (0, (0, 2, 0), (0, 0, 0))), (((0, (-2147483648), 2147483647), 0, (0, 0, 0), (0, 0, 0)), (0, (0, 3, 0), (0, 0, 0)))], [some (1, 0, 0), some (1, 1, 0), some (1, 2, 0), some (1, 3, 0), some (0, 0, (-1))], [], []), [(0, 0, 0)])
def sn_178_1 : se_Nd := (19, ([(((91, 0, 0), 0, (0, 0, 0), (0, 0, 0)), (3, (0, 0, 0), (0, 0, 0))), (((0, (-2147483648), 2147483647), 0, (0, 0, 0), (0, 0, 0)), (3, (0, 1, 0), (0, 0, 0))), (((0, 0, 4095), 0, (0, 0, 0), (0, 0, 0)), (0, (0, 2, 0), (0, 0, 0))), (((0, (-2147483648), 2147483647), 0, (0, 0, 0), (0, 0, 0)), (0, (0, 3, 0), (0, 0, 0))), (((0, 0, 11), 0, (0, 0, 0), (0, 0, 0)), (0, (0, 4, 0), (0, 0, 0))), (((0, (-2147483648), 2147483647), 8, (1, 2, 0), (1, 4, 0)), (2, (0, 0, 0), (0, 0, 0))), (((0, 1, 1), 4, (1, 5, 0), (0, 0, 1)), (2, (0, 0, 0), (0, 0, 0)))], [some (1, 0, 0), some (1, 1, 0), some (1, 2, 0), some (1, 3, 0), some (1, 4, 0)], [], []), [(0, 0, 1), (1, 2, 0), (0, 0, 0)])
abbrev sn_178 : List se_Nd := [sn_178_0, sn_178_1]
set_option maxRecDepth 100000 in
theorem sk_178 : se_chk0 se_tt [sc_151, sc_152, sc_166, sc_168, sc_174] se_Z 37 se_zt sc_178 sn_178 6 = true := by decide +kernel
set_option maxRecDepth 100000 in
theorem sk_178_0 : se_chkn se_tt [sc_151, sc_152, sc_166, sc_168, sc_174] se_Z 37 se_zt sc_178 sn_178 6 sn_178_0 = true := by decide +kernel
set_option maxRecDepth 100000 in
theorem sk_178_1 : se_chkn se_tt [sc_151, sc_152, sc_166, sc_168, sc_174] se_Z 37 se_zt sc_178 sn_178 6 sn_178_1 = true := by decide +kernel
theorem sm_178 {ty : Nat → Option Nat} {J : List mm_C → Prop} {kx : Nat} {zs : List mm_Zt} (hO : se_Ok ty J kx zs) (h151 : se_Met ty se_tt J kx zs sc_151) (h152 : se_Met ty se_tt J kx zs sc_152) (h166 : se_Met ty se_tt J kx zs sc_166) (h168 : se_Met ty se_tt J kx zs sc_168) (h174 : se_Met ty se_tt J kx zs sc_174) : se_Met ty se_tt J kx zs sc_178 := se_sound (C := [sc_151, sc_152, sc_166, sc_168, sc_174]) hO.1 hO.2.1 hO.2.2 (fun n hn => by
  rcases List.mem_cons.mp hn with rfl | hn
  · exact h151
  rcases List.mem_cons.mp hn with rfl | hn
  · exact h152
  rcases List.mem_cons.mp hn with rfl | hn
  · exact h166
  rcases List.mem_cons.mp hn with rfl | hn
  · exact h168
  rcases List.mem_cons.mp hn with rfl | hn
  · exact h174
  exact absurd hn List.not_mem_nil) sk_178 (fun n hn => by
  rcases List.mem_cons.mp hn with rfl | hn
  · exact sk_178_0
  rcases List.mem_cons.mp hn with rfl | hn
  · exact sk_178_1
  exact absurd hn List.not_mem_nil)
/-- RaftTownModel.drinks -/
def sc_179 : se_C := ((273, 1), ([(((91, 0, 0), 0, (0, 0, 0), (0, 0, 0)), (0, (0, 0, 0), (0, 0, 0))), (((0, 0, 9), 0, (0, 0, 0), (0, 0, 0)), (0, (0, 1, 0), (0, 0, 0)))], [some (1, 0, 0), some (1, 1, 0)], [], []), [([(((0, 0, 1), 0, (0, 0, 0), (0, 0, 0)), (0, (0, 0, 0), (0, 0, 0)))], some (1, 2, 0), [], [])], [(56, 0, 528)])
abbrev sn_179 : List se_Nd := []
set_option maxRecDepth 100000 in
theorem sk_179 : se_chk0 se_tt [] se_Z 37 se_zt sc_179 sn_179 6 = true := by decide +kernel
theorem sm_179 {ty : Nat → Option Nat} {J : List mm_C → Prop} {kx : Nat} {zs : List mm_Zt} (hO : se_Ok ty J kx zs) : se_Met ty se_tt J kx zs sc_179 := se_sound (C := []) hO.1 hO.2.1 hO.2.2 (fun _ hn => absurd hn List.not_mem_nil) sk_179 (fun _ hn => absurd hn List.not_mem_nil)
