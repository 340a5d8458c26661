/-! ===== printed by wip/p2/gen_tab.py: contracts and their checks ===== -/
/-- RaftTown.tow -/
def sc_150 : se_C := ((197, 3), ([(((90, 0, 0), 0, (0, 0, 0), (0, 0, 0)), (0, (0, 0, 0), (0, 0, 0))), (((0, (-2147483648), 2147483647), 0, (0, 0, 0), (0, 0, 0)), (0, (0, 1, 0), (0, 0, 0))), (((0, (-2147483648), 2147483647), 0, (0, 0, 0), (0, 0, 0)), (0, (0, 2, 0), (0, 0, 0)))], [some (1, 0, 0), some (1, 1, 0), some (1, 2, 0)], [], []), [([(((0, (-100006), 30), 0, (0, 0, 0), (0, 0, 0)), (0, (0, 0, 0), (0, 0, 0)))], some (1, 3, 0), [], [])], [(45, 0, 12), (46, 0, 12), (47, 0, 12), (48, 0, 10), (51, 0, 36), (74, 4, 5), (74, 5, 6), (88, 7, 8)])
abbrev sn_150 : List se_Nd := []
set_option maxRecDepth 100000 in
theorem sk_150 : se_chk0 se_tt [sc_4, sc_5, sc_57, sc_149] se_Z 37 se_zt sc_150 sn_150 8 = true := by decide +kernel
theorem sm_150 {ty : Nat → Option Nat} {J : List mm_C → Prop} {kx : Nat} {zs : List mm_Zt} (hO : se_Ok ty J kx zs) (h4 : se_Met ty se_tt J kx zs sc_4) (h5 : se_Met ty se_tt J kx zs sc_5) (h57 : se_Met ty se_tt J kx zs sc_57) (h149 : se_Met ty se_tt J kx zs sc_149) : se_Met ty se_tt J kx zs sc_150 := se_sound (C := [sc_4, sc_5, sc_57, sc_149]) hO.1 hO.2.1 hO.2.2 (fun n hn => by
  rcases List.mem_cons.mp hn with rfl | hn
  · exact h4
  rcases List.mem_cons.mp hn with rfl | hn
  · exact h5
  rcases List.mem_cons.mp hn with rfl | hn
  · exact h57
  rcases List.mem_cons.mp hn with rfl | hn
  · exact h149
  exact absurd hn List.not_mem_nil) sk_150 (fun _ hn => absurd hn List.not_mem_nil)
/-- RaftTown$Sheet.rule -/
def sc_151 : se_C := ((200, 1), ([(((81, 0, 0), 0, (0, 0, 0), (0, 0, 0)), (0, (0, 0, 0), (0, 0, 0))), (((0, (-2147483648), 2147483647), 0, (0, 0, 0), (0, 0, 0)), (0, (0, 1, 0), (0, 0, 0))), (((0, 0, 20), 0, (0, 0, 0), (0, 0, 0)), (0, (0, 2, 0), (0, 0, 0)))], [some (1, 0, 0), some (1, 1, 0), some (1, 2, 0)], [], []), [([(((0, 0, 20), 0, (0, 0, 0), (0, 0, 0)), (0, (0, 0, 0), (0, 0, 0)))], some (1, 3, 0), [], [])], [(52, 0, 20), (79, 0, 1), (79, 1, 2)])
def sn_151_0 : se_Nd := (20, ([(((81, 0, 0), 0, (0, 0, 0), (0, 0, 0)), (3, (0, 0, 0), (0, 0, 0))), (((0, (-2147483648), 2147483647), 0, (0, 0, 0), (0, 0, 0)), (3, (0, 1, 0), (0, 0, 0))), (((0, 0, 20), 0, (0, 0, 0), (0, 0, 0)), (3, (0, 2, 0), (0, 0, 0))), (((0, 0, 20), 0, (0, 0, 0), (0, 0, 0)), (0, (0, 3, 0), (0, 0, 0)))], [some (1, 0, 0), some (1, 1, 0), some (1, 2, 0), some (1, 3, 0)], [], []), [(0, 0, 0), ((-1), 3, 0), (0, 0, 0)])
abbrev sn_151 : List se_Nd := [sn_151_0]
set_option maxRecDepth 100000 in
theorem sk_151 : se_chk0 se_tt [] se_Z 37 se_zt sc_151 sn_151 4 = true := by decide +kernel
set_option maxRecDepth 100000 in
theorem sk_151_0 : se_chkn se_tt [] se_Z 37 se_zt sc_151 sn_151 4 sn_151_0 = true := by decide +kernel
theorem sm_151 {ty : Nat → Option Nat} {J : List mm_C → Prop} {kx : Nat} {zs : List mm_Zt} (hO : se_Ok ty J kx zs) : se_Met ty se_tt J kx zs sc_151 := se_sound (C := []) hO.1 hO.2.1 hO.2.2 (fun _ hn => absurd hn List.not_mem_nil) sk_151 (fun n hn => by
  rcases List.mem_cons.mp hn with rfl | hn
  · exact sk_151_0
  exact absurd hn List.not_mem_nil)
/-- RaftTown$Sheet.rule -/
def sc_152 : se_C := ((200, 1), ([(((121, 0, 0), 0, (0, 0, 0), (0, 0, 0)), (0, (0, 0, 0), (0, 0, 0))), (((0, (-2147483648), 2147483647), 0, (0, 0, 0), (0, 0, 0)), (0, (0, 1, 0), (0, 0, 0))), (((0, 0, 20), 0, (0, 0, 0), (0, 0, 0)), (0, (0, 2, 0), (0, 0, 0)))], [some (1, 0, 0), some (1, 1, 0), some (1, 2, 0)], [], []), [([(((0, 0, 20), 0, (0, 0, 0), (0, 0, 0)), (0, (0, 0, 0), (0, 0, 0)))], some (1, 3, 0), [], [])], [(116, 0, 20), (119, 0, 1), (119, 1, 2)])
def sn_152_0 : se_Nd := (20, ([(((121, 0, 0), 0, (0, 0, 0), (0, 0, 0)), (3, (0, 0, 0), (0, 0, 0))), (((0, (-2147483648), 2147483647), 0, (0, 0, 0), (0, 0, 0)), (3, (0, 1, 0), (0, 0, 0))), (((0, 0, 20), 0, (0, 0, 0), (0, 0, 0)), (3, (0, 2, 0), (0, 0, 0))), (((0, 0, 20), 0, (0, 0, 0), (0, 0, 0)), (0, (0, 3, 0), (0, 0, 0)))], [some (1, 0, 0), some (1, 1, 0), some (1, 2, 0), some (1, 3, 0)], [], []), [(0, 0, 0), ((-1), 3, 0), (0, 0, 0)])
abbrev sn_152 : List se_Nd := [sn_152_0]
set_option maxRecDepth 100000 in
theorem sk_152 : se_chk0 se_tt [] se_Z 37 se_zt sc_152 sn_152 4 = true := by decide +kernel
set_option maxRecDepth 100000 in
theorem sk_152_0 : se_chkn se_tt [] se_Z 37 se_zt sc_152 sn_152 4 sn_152_0 = true := by decide +kernel
theorem sm_152 {ty : Nat → Option Nat} {J : List mm_C → Prop} {kx : Nat} {zs : List mm_Zt} (hO : se_Ok ty J kx zs) : se_Met ty se_tt J kx zs sc_152 := se_sound (C := []) hO.1 hO.2.1 hO.2.2 (fun _ hn => absurd hn List.not_mem_nil) sk_152 (fun n hn => by
  rcases List.mem_cons.mp hn with rfl | hn
  · exact sk_152_0
  exact absurd hn List.not_mem_nil)
/-- RaftTown$Sheet.rule -/
def sc_153 : se_C := ((200, 1), ([(((122, 0, 0), 0, (0, 0, 0), (0, 0, 0)), (0, (0, 0, 0), (0, 0, 0))), (((0, (-2147483648), 2147483647), 0, (0, 0, 0), (0, 0, 0)), (0, (0, 1, 0), (0, 0, 0))), (((0, 0, 20), 0, (0, 0, 0), (0, 0, 0)), (0, (0, 2, 0), (0, 0, 0)))], [some (1, 0, 0), some (1, 1, 0), some (1, 2, 0)], [], []), [([(((0, 0, 20), 0, (0, 0, 0), (0, 0, 0)), (0, (0, 0, 0), (0, 0, 0)))], some (1, 3, 0), [], [])], [(117, 0, 20), (120, 0, 1), (120, 1, 2)])
def sn_153_0 : se_Nd := (20, ([(((122, 0, 0), 0, (0, 0, 0), (0, 0, 0)), (3, (0, 0, 0), (0, 0, 0))), (((0, (-2147483648), 2147483647), 0, (0, 0, 0), (0, 0, 0)), (3, (0, 1, 0), (0, 0, 0))), (((0, 0, 20), 0, (0, 0, 0), (0, 0, 0)), (3, (0, 2, 0), (0, 0, 0))), (((0, 0, 20), 0, (0, 0, 0), (0, 0, 0)), (0, (0, 3, 0), (0, 0, 0)))], [some (1, 0, 0), some (1, 1, 0), some (1, 2, 0), some (1, 3, 0)], [], []), [(0, 0, 0), ((-1), 3, 0), (0, 0, 0)])
abbrev sn_153 : List se_Nd := [sn_153_0]
set_option maxRecDepth 100000 in
theorem sk_153 : se_chk0 se_tt [] se_Z 37 se_zt sc_153 sn_153 4 = true := by decide +kernel
set_option maxRecDepth 100000 in
theorem sk_153_0 : se_chkn se_tt [] se_Z 37 se_zt sc_153 sn_153 4 sn_153_0 = true := by decide +kernel
theorem sm_153 {ty : Nat → Option Nat} {J : List mm_C → Prop} {kx : Nat} {zs : List mm_Zt} (hO : se_Ok ty J kx zs) : se_Met ty se_tt J kx zs sc_153 := se_sound (C := []) hO.1 hO.2.1 hO.2.2 (fun _ hn => absurd hn List.not_mem_nil) sk_153 (fun n hn => by
  rcases List.mem_cons.mp hn with rfl | hn
  · exact sk_153_0
  exact absurd hn List.not_mem_nil)
/-- RaftTown$Sheet.rule -/
def sc_154 : se_C := ((200, 1), ([(((123, 0, 0), 0, (0, 0, 0), (0, 0, 0)), (0, (0, 0, 0), (0, 0, 0))), (((0, (-2147483648), 2147483647), 0, (0, 0, 0), (0, 0, 0)), (0, (0, 1, 0), (0, 0, 0))), (((0, 0, 20), 0, (0, 0, 0), (0, 0, 0)), (0, (0, 2, 0), (0, 0, 0)))], [some (1, 0, 0), some (1, 1, 0), some (1, 2, 0)], [], []), [([(((0, 0, 20), 0, (0, 0, 0), (0, 0, 0)), (0, (0, 0, 0), (0, 0, 0)))], some (1, 3, 0), [], [])], [(118, 0, 20), (121, 0, 1), (121, 1, 2)])
def sn_154_0 : se_Nd := (20, ([(((123, 0, 0), 0, (0, 0, 0), (0, 0, 0)), (3, (0, 0, 0), (0, 0, 0))), (((0, (-2147483648), 2147483647), 0, (0, 0, 0), (0, 0, 0)), (3, (0, 1, 0), (0, 0, 0))), (((0, 0, 20), 0, (0, 0, 0), (0, 0, 0)), (3, (0, 2, 0), (0, 0, 0))), (((0, 0, 20), 0, (0, 0, 0), (0, 0, 0)), (0, (0, 3, 0), (0, 0, 0)))], [some (1, 0, 0), some (1, 1, 0), some (1, 2, 0), some (1, 3, 0)], [], []), [(0, 0, 0), ((-1), 3, 0), (0, 0, 0)])
abbrev sn_154 : List se_Nd := [sn_154_0]
set_option maxRecDepth 100000 in
theorem sk_154 : se_chk0 se_tt [] se_Z 37 se_zt sc_154 sn_154 4 = true := by decide +kernel
set_option maxRecDepth 100000 in
theorem sk_154_0 : se_chkn se_tt [] se_Z 37 se_zt sc_154 sn_154 4 sn_154_0 = true := by decide +kernel
theorem sm_154 {ty : Nat → Option Nat} {J : List mm_C → Prop} {kx : Nat} {zs : List mm_Zt} (hO : se_Ok ty J kx zs) : se_Met ty se_tt J kx zs sc_154 := se_sound (C := []) hO.1 hO.2.1 hO.2.2 (fun _ hn => absurd hn List.not_mem_nil) sk_154 (fun n hn => by
  rcases List.mem_cons.mp hn with rfl | hn
  · exact sk_154_0
  exact absurd hn List.not_mem_nil)
/-- RaftTown.sheet -/
def sc_155 : se_C := ((199, 2), ([(((90, 0, 0), 0, (0, 0, 0), (0, 0, 0)), (0, (0, 0, 0), (0, 0, 0))), (((0, (-2147483648), 2147483647), 0, (0, 0, 0), (0, 0, 0)), (0, (0, 1, 0), (0, 0, 0))), (((0, (-2147483648), 2147483647), 0, (0, 0, 0), (0, 0, 0)), (0, (0, 2, 0), (0, 0, 0))), (((0, (-2147483648), 2147483647), 0, (0, 0, 0), (0, 0, 0)), (0, (0, 3, 0), (0, 0, 0)))], [some (1, 0, 0), some (1, 1, 0), some (1, 2, 0), some (1, 3, 0)], [], []), [([(((0, (-100003), 20), 0, (0, 0, 0), (0, 0, 0)), (0, (0, 0, 0), (0, 0, 0)))], some (1, 4, 0), [], [])], [(52, 0, 20), (79, 0, 1), (79, 1, 2), (88, 7, 8), (116, 0, 20), (117, 0, 20), (118, 0, 20), (119, 0, 1), (119, 1, 2), (120, 0, 1), (120, 1, 2), (121, 0, 1), (121, 1, 2)])
abbrev sn_155 : List se_Nd := []
set_option maxRecDepth 100000 in
theorem sk_155 : se_chk0 se_tt [sc_151, sc_152, sc_153, sc_154] se_Z 37 se_zt sc_155 sn_155 6 = true := by decide +kernel
theorem sm_155 {ty : Nat → Option Nat} {J : List mm_C → Prop} {kx : Nat} {zs : List mm_Zt} (hO : se_Ok ty J kx zs) (h151 : se_Met ty se_tt J kx zs sc_151) (h152 : se_Met ty se_tt J kx zs sc_152) (h153 : se_Met ty se_tt J kx zs sc_153) (h154 : se_Met ty se_tt J kx zs sc_154) : se_Met ty se_tt J kx zs sc_155 := se_sound (C := [sc_151, sc_152, sc_153, sc_154]) hO.1 hO.2.1 hO.2.2 (fun n hn => by
  rcases List.mem_cons.mp hn with rfl | hn
  · exact h151
  rcases List.mem_cons.mp hn with rfl | hn
  · exact h152
  rcases List.mem_cons.mp hn with rfl | hn
  · exact h153
  rcases List.mem_cons.mp hn with rfl | hn
  · exact h154
  exact absurd hn List.not_mem_nil) sk_155 (fun _ hn => absurd hn List.not_mem_nil)
/-- RaftTown.put -/
def sc_156 : se_C := ((201, 1), ([(((90, 0, 0), 0, (0, 0, 0), (0, 0, 0)), (0, (0, 0, 0), (0, 0, 0))), (((0, (-2147483648), 2147483647), 0, (0, 0, 0), (0, 0, 0)), (0, (0, 1, 0), (0, 0, 0))), (((0, (-2147483648), 2147483647), 0, (0, 0, 0), (0, 0, 0)), (0, (0, 2, 0), (0, 0, 0))), (((0, (-2147483648), 2147483647), 0, (0, 0, 0), (0, 0, 0)), (0, (0, 3, 0), (0, 0, 0)))], [some (1, 0, 0), some (1, 1, 0), some (1, 2, 0), some (1, 3, 0)], [], []), [([(((0, (-100002), 0), 0, (0, 0, 0), (0, 0, 0)), (0, (0, 0, 0), (0, 0, 0)))], some (1, 4, 0), [], [])], [(52, 0, 20), (88, 7, 8), (116, 0, 20), (117, 0, 20), (118, 0, 20)])
abbrev sn_156 : List se_Nd := []
set_option maxRecDepth 100000 in
theorem sk_156 : se_chk0 se_tt [] se_Z 37 se_zt sc_156 sn_156 7 = true := by decide +kernel
theorem sm_156 {ty : Nat → Option Nat} {J : List mm_C → Prop} {kx : Nat} {zs : List mm_Zt} (hO : se_Ok ty J kx zs) : se_Met ty se_tt J kx zs sc_156 := se_sound (C := []) hO.1 hO.2.1 hO.2.2 (fun _ hn => absurd hn List.not_mem_nil) sk_156 (fun _ hn => absurd hn List.not_mem_nil)
/-- RaftTown.copy -/
def sc_157 : se_C := ((203, 1), ([(((90, 0, 0), 0, (0, 0, 0), (0, 0, 0)), (0, (0, 0, 0), (0, 0, 0))), (((0, (-2147483648), 2147483647), 0, (0, 0, 0), (0, 0, 0)), (0, (0, 1, 0), (0, 0, 0))), (((0, (-2147483648), 2147483647), 0, (0, 0, 0), (0, 0, 0)), (0, (0, 2, 0), (0, 0, 0))), (((0, (-2147483648), 2147483647), 0, (0, 0, 0), (0, 0, 0)), (0, (0, 3, 0), (0, 0, 0))), (((0, (-2147483648), 2147483647), 0, (0, 0, 0), (0, 0, 0)), (0, (0, 4, 0), (0, 0, 0))), (((0, (-2147483648), 2147483647), 0, (0, 0, 0), (0, 0, 0)), (0, (0, 5, 0), (0, 0, 0)))], [some (1, 0, 0), some (1, 1, 0), some (1, 2, 0), some (1, 3, 0), some (1, 4, 0), some (1, 5, 0)], [], []), [([(((0, (-100004), 20), 0, (0, 0, 0), (0, 0, 0)), (0, (0, 0, 0), (0, 0, 0)))], some (1, 6, 0), [], [])], [(52, 0, 20), (88, 7, 8), (116, 0, 20), (117, 0, 20), (118, 0, 20)])
abbrev sn_157 : List se_Nd := []
set_option maxRecDepth 100000 in
theorem sk_157 : se_chk0 se_tt [] se_Z 37 se_zt sc_157 sn_157 7 = true := by decide +kernel
theorem sm_157 {ty : Nat → Option Nat} {J : List mm_C → Prop} {kx : Nat} {zs : List mm_Zt} (hO : se_Ok ty J kx zs) : se_Met ty se_tt J kx zs sc_157 := se_sound (C := []) hO.1 hO.2.1 hO.2.2 (fun _ hn => absurd hn List.not_mem_nil) sk_157 (fun _ hn => absurd hn List.not_mem_nil)
/-- RaftTown$Sea.take -/
def sc_158 : se_C := ((207, 1), ([(((107, 0, 0), 0, (0, 0, 0), (0, 0, 0)), (0, (0, 0, 0), (0, 0, 0))), (((80, 0, 0), 0, (0, 0, 0), (0, 0, 0)), (0, (0, 1, 0), (0, 0, 0)))], [some (1, 0, 0), some (1, 1, 0)], [], []), [([], none, [], [])], [(96, 0, 36), (97, 0, 36)])
abbrev sn_158 : List se_Nd := []
set_option maxRecDepth 100000 in
theorem sk_158 : se_chk0 se_tt [] se_Z 37 se_zt sc_158 sn_158 5 = true := by decide +kernel
theorem sm_158 {ty : Nat → Option Nat} {J : List mm_C → Prop} {kx : Nat} {zs : List mm_Zt} (hO : se_Ok ty J kx zs) : se_Met ty se_tt J kx zs sc_158 := se_sound (C := []) hO.1 hO.2.1 hO.2.2 (fun _ hn => absurd hn List.not_mem_nil) sk_158 (fun _ hn => absurd hn List.not_mem_nil)
/-- RaftTown$Sea.take -/
def sc_159 : se_C := ((207, 1), ([(((80, 0, 0), 0, (0, 0, 0), (0, 0, 0)), (0, (0, 0, 0), (0, 0, 0))), (((107, 0, 0), 0, (0, 0, 0), (0, 0, 0)), (0, (0, 1, 0), (0, 0, 0)))], [some (1, 0, 0), some (1, 1, 0)], [], []), [([], none, [], [])], [(49, 0, 36), (50, 0, 36)])
abbrev sn_159 : List se_Nd := []
set_option maxRecDepth 100000 in
theorem sk_159 : se_chk0 se_tt [] se_Z 37 se_zt sc_159 sn_159 5 = true := by decide +kernel
theorem sm_159 {ty : Nat → Option Nat} {J : List mm_C → Prop} {kx : Nat} {zs : List mm_Zt} (hO : se_Ok ty J kx zs) : se_Met ty se_tt J kx zs sc_159 := se_sound (C := []) hO.1 hO.2.1 hO.2.2 (fun _ hn => absurd hn List.not_mem_nil) sk_159 (fun _ hn => absurd hn List.not_mem_nil)
/-- RaftTown$Raft.take -/
def sc_160 : se_C := ((208, 1), ([(((109, 0, 0), 0, (0, 0, 0), (0, 0, 0)), (0, (0, 0, 0), (0, 0, 0))), (((78, 0, 0), 0, (0, 0, 0), (0, 0, 0)), (0, (0, 1, 0), (0, 0, 0)))], [some (1, 0, 0), some (1, 1, 0)], [], []), [([], none, [], [])], [(107, 0, 1), (107, 1, 2), (107, 2, 3), (107, 3, 4), (107, 4, 5), (107, 5, 6), (107, 6, 7)])
abbrev sn_160 : List se_Nd := []
set_option maxRecDepth 100000 in
theorem sk_160 : se_chk0 se_tt [] se_Z 37 se_zt sc_160 sn_160 6 = true := by decide +kernel
theorem sm_160 {ty : Nat → Option Nat} {J : List mm_C → Prop} {kx : Nat} {zs : List mm_Zt} (hO : se_Ok ty J kx zs) : se_Met ty se_tt J kx zs sc_160 := se_sound (C := []) hO.1 hO.2.1 hO.2.2 (fun _ hn => absurd hn List.not_mem_nil) sk_160 (fun _ hn => absurd hn List.not_mem_nil)
/-- RaftTown$Raft.take -/
def sc_161 : se_C := ((208, 1), ([(((78, 0, 0), 0, (0, 0, 0), (0, 0, 0)), (0, (0, 0, 0), (0, 0, 0))), (((109, 0, 0), 0, (0, 0, 0), (0, 0, 0)), (0, (0, 1, 0), (0, 0, 0)))], [some (1, 0, 0), some (1, 1, 0)], [], []), [([], none, [], [])], [(76, 0, 1), (76, 1, 2), (76, 2, 3), (76, 3, 4), (76, 4, 5), (76, 5, 6), (76, 6, 7)])
abbrev sn_161 : List se_Nd := []
set_option maxRecDepth 100000 in
theorem sk_161 : se_chk0 se_tt [] se_Z 37 se_zt sc_161 sn_161 6 = true := by decide +kernel
theorem sm_161 {ty : Nat → Option Nat} {J : List mm_C → Prop} {kx : Nat} {zs : List mm_Zt} (hO : se_Ok ty J kx zs) : se_Met ty se_tt J kx zs sc_161 := se_sound (C := []) hO.1 hO.2.1 hO.2.2 (fun _ hn => absurd hn List.not_mem_nil) sk_161 (fun _ hn => absurd hn List.not_mem_nil)
/-- RaftTown$Person.take -/
def sc_162 : se_C := ((209, 1), ([(((108, 0, 0), 0, (0, 0, 0), (0, 0, 0)), (0, (0, 0, 0), (0, 0, 0))), (((77, 0, 0), 0, (0, 0, 0), (0, 0, 0)), (0, (0, 1, 0), (0, 0, 0)))], [some (1, 0, 0), some (1, 1, 0)], [], []), [([], none, [], [])], [(106, 0, 1), (106, 1, 2), (106, 2, 3), (106, 3, 4), (106, 4, 5), (106, 5, 6), (106, 6, 7)])
abbrev sn_162 : List se_Nd := []
set_option maxRecDepth 100000 in
theorem sk_162 : se_chk0 se_tt [] se_Z 37 se_zt sc_162 sn_162 6 = true := by decide +kernel
theorem sm_162 {ty : Nat → Option Nat} {J : List mm_C → Prop} {kx : Nat} {zs : List mm_Zt} (hO : se_Ok ty J kx zs) : se_Met ty se_tt J kx zs sc_162 := se_sound (C := []) hO.1 hO.2.1 hO.2.2 (fun _ hn => absurd hn List.not_mem_nil) sk_162 (fun _ hn => absurd hn List.not_mem_nil)
/-- RaftTown$Person.take -/
def sc_163 : se_C := ((209, 1), ([(((77, 0, 0), 0, (0, 0, 0), (0, 0, 0)), (0, (0, 0, 0), (0, 0, 0))), (((108, 0, 0), 0, (0, 0, 0), (0, 0, 0)), (0, (0, 1, 0), (0, 0, 0)))], [some (1, 0, 0), some (1, 1, 0)], [], []), [([], none, [], [])], [(75, 0, 1), (75, 1, 2), (75, 2, 3), (75, 3, 4), (75, 4, 5), (75, 5, 6), (75, 6, 7)])
abbrev sn_163 : List se_Nd := []
set_option maxRecDepth 100000 in
theorem sk_163 : se_chk0 se_tt [] se_Z 37 se_zt sc_163 sn_163 6 = true := by decide +kernel
theorem sm_163 {ty : Nat → Option Nat} {J : List mm_C → Prop} {kx : Nat} {zs : List mm_Zt} (hO : se_Ok ty J kx zs) : se_Met ty se_tt J kx zs sc_163 := se_sound (C := []) hO.1 hO.2.1 hO.2.2 (fun _ hn => absurd hn List.not_mem_nil) sk_163 (fun _ hn => absurd hn List.not_mem_nil)
/-- RaftTown$Rope.take -/
def sc_164 : se_C := ((210, 1), ([(((110, 0, 0), 0, (0, 0, 0), (0, 0, 0)), (0, (0, 0, 0), (0, 0, 0))), (((79, 0, 0), 0, (0, 0, 0), (0, 0, 0)), (0, (0, 1, 0), (0, 0, 0)))], [some (1, 0, 0), some (1, 1, 0)], [], []), [([], none, [], [])], [(108, 0, 1), (108, 1, 2), (108, 2, 3), (108, 3, 4), (108, 4, 5), (108, 5, 6), (108, 6, 7), (108, 7, 8)])
abbrev sn_164 : List se_Nd := []
set_option maxRecDepth 100000 in
theorem sk_164 : se_chk0 se_tt [] se_Z 37 se_zt sc_164 sn_164 6 = true := by decide +kernel
theorem sm_164 {ty : Nat → Option Nat} {J : List mm_C → Prop} {kx : Nat} {zs : List mm_Zt} (hO : se_Ok ty J kx zs) : se_Met ty se_tt J kx zs sc_164 := se_sound (C := []) hO.1 hO.2.1 hO.2.2 (fun _ hn => absurd hn List.not_mem_nil) sk_164 (fun _ hn => absurd hn List.not_mem_nil)
