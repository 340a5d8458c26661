/-! ===== printed by wip/p37/gen_law3.py: contracts by region; all contracts; the law's arms ===== -/
/-- RaftTown$Town.take -/
def sc_tk : se_C := ((206, 2), ([(((117, 0, 0), 0, (0, 0, 0), (0, 0, 0)), (0, (0, 0, 0), (0, 0, 0))), (((89, 0, 0), 0, (0, 0, 0), (0, 0, 0)), (0, (0, 1, 0), (0, 0, 0))), (((0, (-2147483648), 2147483647), 0, (0, 0, 0), (0, 0, 0)), (1, (1, 1, 0), (0, 0, 2)))], [some (1, 0, 0), some (1, 1, 0)], [((1, 1, 0), (0, 0, 2), (1, 2, 0))], []), [([], none, [((1, 0, 0), (0, 0, 2), (1, 2, 0))], [])], [(90, 0, 40), (91, 0, 40), (92, 0, 40), (93, 0, 40), (94, 0, 12), (95, 0, 12), (96, 0, 36), (97, 0, 36), (99, 0, 160), (100, 0, 3), (104, 4, 5), (104, 5, 6), (104, 8, 9), (106, 0, 1), (106, 1, 2), (106, 2, 3), (106, 3, 4), (106, 4, 5), (106, 5, 6), (106, 6, 7), (107, 0, 1), (107, 1, 2), (107, 2, 3), (107, 3, 4), (107, 4, 5), (107, 5, 6), (107, 6, 7), (108, 0, 1), (108, 1, 2), (108, 2, 3), (108, 3, 4), (108, 4, 5), (108, 5, 6), (108, 6, 7), (108, 7, 8), (109, 0, 1), (109, 3, 4), (115, 2, 3), (115, 4, 5), (115, 6, 7), (115, 9, 10), (115, 10, 11), (115, 11, 12)])
def sn_tk_0 : se_Nd := (13, ([(((117, 0, 0), 0, (0, 0, 0), (0, 0, 0)), (3, (0, 0, 0), (0, 0, 0))), (((89, 0, 0), 0, (0, 0, 0), (0, 0, 0)), (3, (0, 1, 0), (0, 0, 0))), (((0, (-2147483648), 2147483647), 0, (0, 0, 0), (0, 0, 0)), (3, (0, 2, 0), (0, 0, 0))), (((0, 0, 10), 0, (0, 0, 0), (0, 0, 0)), (0, (0, 2, 0), (0, 0, 0)))], [some (1, 0, 0), some (1, 1, 0), some (1, 3, 0)], [((1, 1, 0), (0, 0, 2), (1, 2, 0))], []), [(0, 0, 3), ((-1), 3, 0), (0, 0, 0)])
def sn_tk_1 : se_Nd := (50, ([(((117, 0, 0), 0, (0, 0, 0), (0, 0, 0)), (3, (0, 0, 0), (0, 0, 0))), (((89, 0, 0), 0, (0, 0, 0), (0, 0, 0)), (3, (0, 1, 0), (0, 0, 0))), (((0, (-2147483648), 2147483647), 0, (0, 0, 0), (0, 0, 0)), (3, (0, 2, 0), (0, 0, 0))), (((0, 0, 14), 0, (0, 0, 0), (0, 0, 0)), (0, (0, 2, 0), (0, 0, 0)))], [some (1, 0, 0), some (1, 1, 0), some (1, 3, 0)], [((1, 0, 0), (0, 0, 2), (1, 2, 0))], []), [(0, 0, 2), ((-1), 3, 0), (0, 0, 0)])
def sn_tk_2 : se_Nd := (87, ([(((117, 0, 0), 0, (0, 0, 0), (0, 0, 0)), (3, (0, 0, 0), (0, 0, 0))), (((89, 0, 0), 0, (0, 0, 0), (0, 0, 0)), (3, (0, 1, 0), (0, 0, 0))), (((0, (-2147483648), 2147483647), 0, (0, 0, 0), (0, 0, 0)), (3, (0, 2, 0), (0, 0, 0))), (((0, 0, 12), 0, (0, 0, 0), (0, 0, 0)), (0, (0, 2, 0), (0, 0, 0)))], [some (1, 0, 0), some (1, 1, 0), some (1, 3, 0)], [((1, 0, 0), (0, 0, 2), (1, 2, 0))], []), [(0, 0, 1), ((-1), 3, 0), (0, 0, 0)])
def sn_tk_3 : se_Nd := (135, ([(((117, 0, 0), 0, (0, 0, 0), (0, 0, 0)), (3, (0, 0, 0), (0, 0, 0))), (((89, 0, 0), 0, (0, 0, 0), (0, 0, 0)), (3, (0, 1, 0), (0, 0, 0))), (((0, (-2147483648), 2147483647), 0, (0, 0, 0), (0, 0, 0)), (3, (0, 2, 0), (0, 0, 0))), (((0, 0, 5), 0, (0, 0, 0), (0, 0, 0)), (0, (0, 2, 0), (0, 0, 0)))], [some (1, 0, 0), some (1, 1, 0), some (1, 3, 0)], [((1, 0, 0), (0, 0, 2), (1, 2, 0))], []), [(0, 0, 0), ((-1), 3, 0), (0, 0, 0)])
abbrev sn_tk : List se_Nd := [sn_tk_0, sn_tk_1, sn_tk_2, sn_tk_3]
set_option maxRecDepth 100000 in
theorem sk_tk : se_chk0 se_tt [sc_119, sc_158, sc_160, sc_162, sc_164, sc_166] se_Z 37 se_zt sc_tk sn_tk 4 = true := by decide +kernel
set_option maxRecDepth 100000 in
theorem sk_tk_0 : se_chkn se_tt [sc_119, sc_158, sc_160, sc_162, sc_164, sc_166] se_Z 37 se_zt sc_tk sn_tk 4 sn_tk_0 = true := by decide +kernel
set_option maxRecDepth 100000 in
theorem sk_tk_1 : se_chkn se_tt [sc_119, sc_158, sc_160, sc_162, sc_164, sc_166] se_Z 37 se_zt sc_tk sn_tk 4 sn_tk_1 = true := by decide +kernel
set_option maxRecDepth 100000 in
theorem sk_tk_2 : se_chkn se_tt [sc_119, sc_158, sc_160, sc_162, sc_164, sc_166] se_Z 37 se_zt sc_tk sn_tk 4 sn_tk_2 = true := by decide +kernel
set_option maxRecDepth 100000 in
theorem sk_tk_3 : se_chkn se_tt [sc_119, sc_158, sc_160, sc_162, sc_164, sc_166] se_Z 37 se_zt sc_tk sn_tk 4 sn_tk_3 = true := by decide +kernel
theorem sm_tk {ty : Nat → Option Nat} {J : List mm_C → Prop} {kx : Nat} {zs : List mm_Zt} (hO : se_Ok ty J kx zs) (h119 : se_Met ty se_tt J kx zs sc_119) (h158 : se_Met ty se_tt J kx zs sc_158) (h160 : se_Met ty se_tt J kx zs sc_160) (h162 : se_Met ty se_tt J kx zs sc_162) (h164 : se_Met ty se_tt J kx zs sc_164) (h166 : se_Met ty se_tt J kx zs sc_166) : se_Met ty se_tt J kx zs sc_tk := se_sound (C := [sc_119, sc_158, sc_160, sc_162, sc_164, sc_166]) hO.1 hO.2.1 hO.2.2 (fun n hn => by
  rcases List.mem_cons.mp hn with rfl | hn
  · exact h119
  rcases List.mem_cons.mp hn with rfl | hn
  · exact h158
  rcases List.mem_cons.mp hn with rfl | hn
  · exact h160
  rcases List.mem_cons.mp hn with rfl | hn
  · exact h162
  rcases List.mem_cons.mp hn with rfl | hn
  · exact h164
  rcases List.mem_cons.mp hn with rfl | hn
  · exact h166
  exact absurd hn List.not_mem_nil) sk_tk (fun n hn => by
  rcases List.mem_cons.mp hn with rfl | hn
  · exact sk_tk_0
  rcases List.mem_cons.mp hn with rfl | hn
  · exact sk_tk_1
  rcases List.mem_cons.mp hn with rfl | hn
  · exact sk_tk_2
  rcases List.mem_cons.mp hn with rfl | hn
  · exact sk_tk_3
  exact absurd hn List.not_mem_nil)
/-- RaftTown$Town.take -/
def sc_tl : se_C := ((206, 2), ([(((89, 0, 0), 0, (0, 0, 0), (0, 0, 0)), (0, (0, 0, 0), (0, 0, 0))), (((117, 0, 0), 0, (0, 0, 0), (0, 0, 0)), (0, (0, 1, 0), (0, 0, 0))), (((0, (-2147483648), 2147483647), 0, (0, 0, 0), (0, 0, 0)), (1, (1, 1, 0), (0, 0, 2)))], [some (1, 0, 0), some (1, 1, 0)], [((1, 1, 0), (0, 0, 2), (1, 2, 0))], []), [([], none, [((1, 0, 0), (0, 0, 2), (1, 2, 0))], [])], [(39, 0, 40), (40, 0, 40), (41, 0, 40), (42, 0, 40), (43, 0, 12), (44, 0, 12), (49, 0, 36), (50, 0, 36), (54, 0, 160), (55, 0, 3), (73, 4, 5), (73, 5, 6), (73, 8, 9), (75, 0, 1), (75, 1, 2), (75, 2, 3), (75, 3, 4), (75, 4, 5), (75, 5, 6), (75, 6, 7), (76, 0, 1), (76, 1, 2), (76, 2, 3), (76, 3, 4), (76, 4, 5), (76, 5, 6), (76, 6, 7), (77, 0, 1), (77, 1, 2), (77, 2, 3), (77, 3, 4), (77, 4, 5), (77, 5, 6), (77, 6, 7), (77, 7, 8), (81, 0, 1), (81, 3, 4), (87, 2, 3), (87, 4, 5), (87, 6, 7), (87, 9, 10), (87, 10, 11), (87, 11, 12)])
def sn_tl_0 : se_Nd := (13, ([(((89, 0, 0), 0, (0, 0, 0), (0, 0, 0)), (3, (0, 0, 0), (0, 0, 0))), (((117, 0, 0), 0, (0, 0, 0), (0, 0, 0)), (3, (0, 1, 0), (0, 0, 0))), (((0, (-2147483648), 2147483647), 0, (0, 0, 0), (0, 0, 0)), (3, (0, 2, 0), (0, 0, 0))), (((0, 0, 10), 0, (0, 0, 0), (0, 0, 0)), (0, (0, 2, 0), (0, 0, 0)))], [some (1, 0, 0), some (1, 1, 0), some (1, 3, 0)], [((1, 1, 0), (0, 0, 2), (1, 2, 0))], []), [(0, 0, 3), ((-1), 3, 0), (0, 0, 0)])
def sn_tl_1 : se_Nd := (50, ([(((89, 0, 0), 0, (0, 0, 0), (0, 0, 0)), (3, (0, 0, 0), (0, 0, 0))), (((117, 0, 0), 0, (0, 0, 0), (0, 0, 0)), (3, (0, 1, 0), (0, 0, 0))), (((0, (-2147483648), 2147483647), 0, (0, 0, 0), (0, 0, 0)), (3, (0, 2, 0), (0, 0, 0))), (((0, 0, 14), 0, (0, 0, 0), (0, 0, 0)), (0, (0, 2, 0), (0, 0, 0)))], [some (1, 0, 0), some (1, 1, 0), some (1, 3, 0)], [((1, 0, 0), (0, 0, 2), (1, 2, 0))], []), [(0, 0, 2), ((-1), 3, 0), (0, 0, 0)])
def sn_tl_2 : se_Nd := (87, ([(((89, 0, 0), 0, (0, 0, 0), (0, 0, 0)), (3, (0, 0, 0), (0, 0, 0))), (((117, 0, 0), 0, (0, 0, 0), (0, 0, 0)), (3, (0, 1, 0), (0, 0, 0))), (((0, (-2147483648), 2147483647), 0, (0, 0, 0), (0, 0, 0)), (3, (0, 2, 0), (0, 0, 0))), (((0, 0, 12), 0, (0, 0, 0), (0, 0, 0)), (0, (0, 2, 0), (0, 0, 0)))], [some (1, 0, 0), some (1, 1, 0), some (1, 3, 0)], [((1, 0, 0), (0, 0, 2), (1, 2, 0))], []), [(0, 0, 1), ((-1), 3, 0), (0, 0, 0)])
def sn_tl_3 : se_Nd := (135, ([(((89, 0, 0), 0, (0, 0, 0), (0, 0, 0)), (3, (0, 0, 0), (0, 0, 0))), (((117, 0, 0), 0, (0, 0, 0), (0, 0, 0)), (3, (0, 1, 0), (0, 0, 0))), (((0, (-2147483648), 2147483647), 0, (0, 0, 0), (0, 0, 0)), (3, (0, 2, 0), (0, 0, 0))), (((0, 0, 5), 0, (0, 0, 0), (0, 0, 0)), (0, (0, 2, 0), (0, 0, 0)))], [some (1, 0, 0), some (1, 1, 0), some (1, 3, 0)], [((1, 0, 0), (0, 0, 2), (1, 2, 0))], []), [(0, 0, 0), ((-1), 3, 0), (0, 0, 0)])
abbrev sn_tl : List se_Nd := [sn_tl_0, sn_tl_1, sn_tl_2, sn_tl_3]
set_option maxRecDepth 100000 in
theorem sk_tl : se_chk0 se_tt [sc_120, sc_159, sc_161, sc_163, sc_165, sc_167] se_Z 37 se_zt sc_tl sn_tl 4 = true := by decide +kernel
set_option maxRecDepth 100000 in
theorem sk_tl_0 : se_chkn se_tt [sc_120, sc_159, sc_161, sc_163, sc_165, sc_167] se_Z 37 se_zt sc_tl sn_tl 4 sn_tl_0 = true := by decide +kernel
set_option maxRecDepth 100000 in
theorem sk_tl_1 : se_chkn se_tt [sc_120, sc_159, sc_161, sc_163, sc_165, sc_167] se_Z 37 se_zt sc_tl sn_tl 4 sn_tl_1 = true := by decide +kernel
set_option maxRecDepth 100000 in
theorem sk_tl_2 : se_chkn se_tt [sc_120, sc_159, sc_161, sc_163, sc_165, sc_167] se_Z 37 se_zt sc_tl sn_tl 4 sn_tl_2 = true := by decide +kernel
set_option maxRecDepth 100000 in
theorem sk_tl_3 : se_chkn se_tt [sc_120, sc_159, sc_161, sc_163, sc_165, sc_167] se_Z 37 se_zt sc_tl sn_tl 4 sn_tl_3 = true := by decide +kernel
theorem sm_tl {ty : Nat → Option Nat} {J : List mm_C → Prop} {kx : Nat} {zs : List mm_Zt} (hO : se_Ok ty J kx zs) (h120 : se_Met ty se_tt J kx zs sc_120) (h159 : se_Met ty se_tt J kx zs sc_159) (h161 : se_Met ty se_tt J kx zs sc_161) (h163 : se_Met ty se_tt J kx zs sc_163) (h165 : se_Met ty se_tt J kx zs sc_165) (h167 : se_Met ty se_tt J kx zs sc_167) : se_Met ty se_tt J kx zs sc_tl := se_sound (C := [sc_120, sc_159, sc_161, sc_163, sc_165, sc_167]) hO.1 hO.2.1 hO.2.2 (fun n hn => by
  rcases List.mem_cons.mp hn with rfl | hn
  · exact h120
  rcases List.mem_cons.mp hn with rfl | hn
  · exact h159
  rcases List.mem_cons.mp hn with rfl | hn
  · exact h161
  rcases List.mem_cons.mp hn with rfl | hn
  · exact h163
  rcases List.mem_cons.mp hn with rfl | hn
  · exact h165
  rcases List.mem_cons.mp hn with rfl | hn
  · exact h167
  exact absurd hn List.not_mem_nil) sk_tl (fun n hn => by
  rcases List.mem_cons.mp hn with rfl | hn
  · exact sk_tl_0
  rcases List.mem_cons.mp hn with rfl | hn
  · exact sk_tl_1
  rcases List.mem_cons.mp hn with rfl | hn
  · exact sk_tl_2
  rcases List.mem_cons.mp hn with rfl | hn
  · exact sk_tl_3
  exact absurd hn List.not_mem_nil)
/-- RaftTown.raft -/
def sc_q0 : se_C := ((17, 1), ([(((90, 0, 0), 0, (0, 0, 0), (0, 0, 0)), (0, (0, 0, 0), (0, 0, 0))), (((0, (-2147483648), (-1)), 0, (0, 0, 0), (0, 0, 0)), (0, (0, 1, 0), (0, 0, 0))), (((0, (-2147483648), 2147483647), 0, (0, 0, 0), (0, 0, 0)), (0, (0, 2, 0), (0, 0, 0))), (((0, (-2147483648), 2147483647), 0, (0, 0, 0), (0, 0, 0)), (0, (0, 3, 0), (0, 0, 0))), (((0, (-2147483648), 2147483647), 0, (0, 0, 0), (0, 0, 0)), (0, (0, 4, 0), (0, 0, 0)))], [some (1, 0, 0), some (1, 1, 0), some (1, 2, 0), some (1, 3, 0), some (1, 4, 0)], [], []), [([(((0, (-100001), (-100001)), 0, (0, 0, 0), (0, 0, 0)), (0, (0, 0, 0), (0, 0, 0)))], some (1, 5, 0), [], [])], [(88, 7, 8)])
abbrev sn_q0 : List se_Nd := []
set_option maxRecDepth 100000 in
theorem sk_q0 : se_chk0 se_tt [] se_Z 37 se_zt sc_q0 sn_q0 5 = true := by decide +kernel
theorem sm_q0 {ty : Nat → Option Nat} {J : List mm_C → Prop} {kx : Nat} {zs : List mm_Zt} (hO : se_Ok ty J kx zs) : se_Met ty se_tt J kx zs sc_q0 := se_sound (C := []) hO.1 hO.2.1 hO.2.2 (fun _ hn => absurd hn List.not_mem_nil) sk_q0 (fun _ hn => absurd hn List.not_mem_nil)
/-- RaftTownModel.raft -/
def sc_w0 : se_C := ((222, 1), ([(((91, 0, 0), 0, (0, 0, 0), (0, 0, 0)), (0, (0, 0, 0), (0, 0, 0))), (((0, (-2147483648), (-1)), 0, (0, 0, 0), (0, 0, 0)), (0, (0, 1, 0), (0, 0, 0))), (((0, (-2147483648), 2147483647), 0, (0, 0, 0), (0, 0, 0)), (0, (0, 2, 0), (0, 0, 0))), (((0, (-2147483648), 2147483647), 0, (0, 0, 0), (0, 0, 0)), (0, (0, 3, 0), (0, 0, 0))), (((0, (-2147483648), 2147483647), 0, (0, 0, 0), (0, 0, 0)), (0, (0, 4, 0), (0, 0, 0)))], [some (1, 0, 0), some (1, 1, 0), some (1, 2, 0), some (1, 3, 0), some (1, 4, 0)], [], []), [([(((0, (-100001), (-100001)), 0, (0, 0, 0), (0, 0, 0)), (0, (0, 0, 0), (0, 0, 0)))], some (1, 5, 0), [], [])], [(89, 3, 4)])
abbrev sn_w0 : List se_Nd := []
set_option maxRecDepth 100000 in
theorem sk_w0 : se_chk0 se_tt [] se_Z 37 se_zt sc_w0 sn_w0 5 = true := by decide +kernel
theorem sm_w0 {ty : Nat → Option Nat} {J : List mm_C → Prop} {kx : Nat} {zs : List mm_Zt} (hO : se_Ok ty J kx zs) : se_Met ty se_tt J kx zs sc_w0 := se_sound (C := []) hO.1 hO.2.1 hO.2.2 (fun _ hn => absurd hn List.not_mem_nil) sk_w0 (fun _ hn => absurd hn List.not_mem_nil)
/-- RaftTown.raft -/
def sc_q1 : se_C := ((17, 1), ([(((90, 0, 0), 0, (0, 0, 0), (0, 0, 0)), (0, (0, 0, 0), (0, 0, 0))), (((0, 0, 5), 0, (0, 0, 0), (0, 0, 0)), (0, (0, 1, 0), (0, 0, 0))), (((0, (-2147483648), (-1)), 0, (0, 0, 0), (0, 0, 0)), (0, (0, 2, 0), (0, 0, 0))), (((0, (-2147483648), 2147483647), 0, (0, 0, 0), (0, 0, 0)), (0, (0, 3, 0), (0, 0, 0))), (((0, (-2147483648), 2147483647), 0, (0, 0, 0), (0, 0, 0)), (0, (0, 4, 0), (0, 0, 0)))], [some (1, 0, 0), some (1, 1, 0), some (1, 2, 0), some (1, 3, 0), some (1, 4, 0)], [], []), [([(((0, (-100001), (-100001)), 0, (0, 0, 0), (0, 0, 0)), (0, (0, 0, 0), (0, 0, 0)))], some (1, 5, 0), [], [])], [(88, 7, 8)])
abbrev sn_q1 : List se_Nd := []
set_option maxRecDepth 100000 in
theorem sk_q1 : se_chk0 se_tt [] se_Z 37 se_zt sc_q1 sn_q1 6 = true := by decide +kernel
theorem sm_q1 {ty : Nat → Option Nat} {J : List mm_C → Prop} {kx : Nat} {zs : List mm_Zt} (hO : se_Ok ty J kx zs) : se_Met ty se_tt J kx zs sc_q1 := se_sound (C := []) hO.1 hO.2.1 hO.2.2 (fun _ hn => absurd hn List.not_mem_nil) sk_q1 (fun _ hn => absurd hn List.not_mem_nil)
/-- RaftTownModel.raft -/
def sc_w1 : se_C := ((222, 1), ([(((91, 0, 0), 0, (0, 0, 0), (0, 0, 0)), (0, (0, 0, 0), (0, 0, 0))), (((0, 0, 5), 0, (0, 0, 0), (0, 0, 0)), (0, (0, 1, 0), (0, 0, 0))), (((0, (-2147483648), (-1)), 0, (0, 0, 0), (0, 0, 0)), (0, (0, 2, 0), (0, 0, 0))), (((0, (-2147483648), 2147483647), 0, (0, 0, 0), (0, 0, 0)), (0, (0, 3, 0), (0, 0, 0))), (((0, (-2147483648), 2147483647), 0, (0, 0, 0), (0, 0, 0)), (0, (0, 4, 0), (0, 0, 0)))], [some (1, 0, 0), some (1, 1, 0), some (1, 2, 0), some (1, 3, 0), some (1, 4, 0)], [], []), [([(((0, (-100001), (-100001)), 0, (0, 0, 0), (0, 0, 0)), (0, (0, 0, 0), (0, 0, 0)))], some (1, 5, 0), [], [])], [(89, 3, 4)])
abbrev sn_w1 : List se_Nd := []
set_option maxRecDepth 100000 in
theorem sk_w1 : se_chk0 se_tt [] se_Z 37 se_zt sc_w1 sn_w1 6 = true := by decide +kernel
theorem sm_w1 {ty : Nat → Option Nat} {J : List mm_C → Prop} {kx : Nat} {zs : List mm_Zt} (hO : se_Ok ty J kx zs) : se_Met ty se_tt J kx zs sc_w1 := se_sound (C := []) hO.1 hO.2.1 hO.2.2 (fun _ hn => absurd hn List.not_mem_nil) sk_w1 (fun _ hn => absurd hn List.not_mem_nil)
/-- RaftTown.raft -/
def sc_q2 : se_C := ((17, 1), ([(((90, 0, 0), 0, (0, 0, 0), (0, 0, 0)), (0, (0, 0, 0), (0, 0, 0))), (((0, 0, 5), 0, (0, 0, 0), (0, 0, 0)), (0, (0, 1, 0), (0, 0, 0))), (((0, 0, 35), 0, (0, 0, 0), (0, 0, 0)), (0, (0, 2, 0), (0, 0, 0))), (((0, (-2147483648), 0), 0, (0, 0, 0), (0, 0, 0)), (0, (0, 3, 0), (0, 0, 0))), (((0, (-2147483648), 2147483647), 0, (0, 0, 0), (0, 0, 0)), (0, (0, 4, 0), (0, 0, 0)))], [some (1, 0, 0), some (1, 1, 0), some (1, 2, 0), some (1, 3, 0), some (1, 4, 0)], [], []), [([(((0, (-100001), (-100001)), 0, (0, 0, 0), (0, 0, 0)), (0, (0, 0, 0), (0, 0, 0)))], some (1, 5, 0), [], [])], [(88, 7, 8)])
abbrev sn_q2 : List se_Nd := []
set_option maxRecDepth 100000 in
theorem sk_q2 : se_chk0 se_tt [] se_Z 37 se_zt sc_q2 sn_q2 6 = true := by decide +kernel
theorem sm_q2 {ty : Nat → Option Nat} {J : List mm_C → Prop} {kx : Nat} {zs : List mm_Zt} (hO : se_Ok ty J kx zs) : se_Met ty se_tt J kx zs sc_q2 := se_sound (C := []) hO.1 hO.2.1 hO.2.2 (fun _ hn => absurd hn List.not_mem_nil) sk_q2 (fun _ hn => absurd hn List.not_mem_nil)
/-- RaftTownModel.raft -/
def sc_w2 : se_C := ((222, 1), ([(((91, 0, 0), 0, (0, 0, 0), (0, 0, 0)), (0, (0, 0, 0), (0, 0, 0))), (((0, 0, 5), 0, (0, 0, 0), (0, 0, 0)), (0, (0, 1, 0), (0, 0, 0))), (((0, 0, 35), 0, (0, 0, 0), (0, 0, 0)), (0, (0, 2, 0), (0, 0, 0))), (((0, (-2147483648), 0), 0, (0, 0, 0), (0, 0, 0)), (0, (0, 3, 0), (0, 0, 0))), (((0, (-2147483648), 2147483647), 0, (0, 0, 0), (0, 0, 0)), (0, (0, 4, 0), (0, 0, 0)))], [some (1, 0, 0), some (1, 1, 0), some (1, 2, 0), some (1, 3, 0), some (1, 4, 0)], [], []), [([(((0, (-100001), (-100001)), 0, (0, 0, 0), (0, 0, 0)), (0, (0, 0, 0), (0, 0, 0)))], some (1, 5, 0), [], [])], [(89, 3, 4)])
abbrev sn_w2 : List se_Nd := []
set_option maxRecDepth 100000 in
theorem sk_w2 : se_chk0 se_tt [] se_Z 37 se_zt sc_w2 sn_w2 6 = true := by decide +kernel
theorem sm_w2 {ty : Nat → Option Nat} {J : List mm_C → Prop} {kx : Nat} {zs : List mm_Zt} (hO : se_Ok ty J kx zs) : se_Met ty se_tt J kx zs sc_w2 := se_sound (C := []) hO.1 hO.2.1 hO.2.2 (fun _ hn => absurd hn List.not_mem_nil) sk_w2 (fun _ hn => absurd hn List.not_mem_nil)
/-- RaftTown.raft -/
def sc_q3 : se_C := ((17, 1), ([(((90, 0, 0), 0, (0, 0, 0), (0, 0, 0)), (0, (0, 0, 0), (0, 0, 0))), (((0, 0, 5), 0, (0, 0, 0), (0, 0, 0)), (0, (0, 1, 0), (0, 0, 0))), (((0, 0, 35), 0, (0, 0, 0), (0, 0, 0)), (0, (0, 2, 0), (0, 0, 0))), (((0, 1, 99), 0, (0, 0, 0), (0, 0, 0)), (0, (0, 3, 0), (0, 0, 0))), (((0, (-2147483648), (-1)), 0, (0, 0, 0), (0, 0, 0)), (0, (0, 4, 0), (0, 0, 0)))], [some (1, 0, 0), some (1, 1, 0), some (1, 2, 0), some (1, 3, 0), some (1, 4, 0)], [], []), [([(((0, (-100001), (-100001)), 0, (0, 0, 0), (0, 0, 0)), (0, (0, 0, 0), (0, 0, 0)))], some (1, 5, 0), [], [])], [(88, 7, 8)])
abbrev sn_q3 : List se_Nd := []
set_option maxRecDepth 100000 in
theorem sk_q3 : se_chk0 se_tt [] se_Z 37 se_zt sc_q3 sn_q3 7 = true := by decide +kernel
theorem sm_q3 {ty : Nat → Option Nat} {J : List mm_C → Prop} {kx : Nat} {zs : List mm_Zt} (hO : se_Ok ty J kx zs) : se_Met ty se_tt J kx zs sc_q3 := se_sound (C := []) hO.1 hO.2.1 hO.2.2 (fun _ hn => absurd hn List.not_mem_nil) sk_q3 (fun _ hn => absurd hn List.not_mem_nil)
/-- RaftTownModel.raft -/
def sc_w3 : se_C := ((222, 1), ([(((91, 0, 0), 0, (0, 0, 0), (0, 0, 0)), (0, (0, 0, 0), (0, 0, 0))), (((0, 0, 5), 0, (0, 0, 0), (0, 0, 0)), (0, (0, 1, 0), (0, 0, 0))), (((0, 0, 35), 0, (0, 0, 0), (0, 0, 0)), (0, (0, 2, 0), (0, 0, 0))), (((0, 1, 99), 0, (0, 0, 0), (0, 0, 0)), (0, (0, 3, 0), (0, 0, 0))), (((0, (-2147483648), (-1)), 0, (0, 0, 0), (0, 0, 0)), (0, (0, 4, 0), (0, 0, 0)))], [some (1, 0, 0), some (1, 1, 0), some (1, 2, 0), some (1, 3, 0), some (1, 4, 0)], [], []), [([(((0, (-100001), (-100001)), 0, (0, 0, 0), (0, 0, 0)), (0, (0, 0, 0), (0, 0, 0)))], some (1, 5, 0), [], [])], [(89, 3, 4)])
abbrev sn_w3 : List se_Nd := []
set_option maxRecDepth 100000 in
theorem sk_w3 : se_chk0 se_tt [] se_Z 37 se_zt sc_w3 sn_w3 6 = true := by decide +kernel
theorem sm_w3 {ty : Nat → Option Nat} {J : List mm_C → Prop} {kx : Nat} {zs : List mm_Zt} (hO : se_Ok ty J kx zs) : se_Met ty se_tt J kx zs sc_w3 := se_sound (C := []) hO.1 hO.2.1 hO.2.2 (fun _ hn => absurd hn List.not_mem_nil) sk_w3 (fun _ hn => absurd hn List.not_mem_nil)
/-- RaftTown.raft -/
def sc_q4 : se_C := ((17, 1), ([(((90, 0, 0), 0, (0, 0, 0), (0, 0, 0)), (0, (0, 0, 0), (0, 0, 0))), (((0, 0, 5), 0, (0, 0, 0), (0, 0, 0)), (0, (0, 1, 0), (0, 0, 0))), (((0, 0, 35), 0, (0, 0, 0), (0, 0, 0)), (0, (0, 2, 0), (0, 0, 0))), (((0, 1, 99), 0, (0, 0, 0), (0, 0, 0)), (0, (0, 3, 0), (0, 0, 0))), (((0, 0, 99), 0, (0, 0, 0), (0, 0, 0)), (0, (0, 4, 0), (0, 0, 0))), (((89, 0, 0), 0, (0, 0, 0), (0, 0, 0)), (1, (1, 0, 0), (0, 0, 0))), (((0, 0, 9), 0, (0, 0, 0), (0, 0, 0)), (1, (1, 5, 0), (0, 0, 2)))], [some (1, 0, 0), some (1, 1, 0), some (1, 2, 0), some (1, 3, 0), some (1, 4, 0)], [((1, 0, 0), (0, 0, 0), (1, 5, 0)), ((1, 5, 0), (0, 0, 2), (1, 6, 0))], []), [([], some (1, 6, 0), [((1, 5, 0), (0, 0, 2), (1, 6, 1))], [])], [(76, 0, 1), (76, 1, 2), (76, 2, 3), (76, 3, 4), (76, 4, 5), (76, 5, 6), (76, 6, 7), (87, 2, 3)])
abbrev sn_q4 : List se_Nd := []
set_option maxRecDepth 100000 in
theorem sk_q4 : se_chk0 se_tt [] se_Z 37 se_zt sc_q4 sn_q4 8 = true := by decide +kernel
theorem sm_q4 {ty : Nat → Option Nat} {J : List mm_C → Prop} {kx : Nat} {zs : List mm_Zt} (hO : se_Ok ty J kx zs) : se_Met ty se_tt J kx zs sc_q4 := se_sound (C := []) hO.1 hO.2.1 hO.2.2 (fun _ hn => absurd hn List.not_mem_nil) sk_q4 (fun _ hn => absurd hn List.not_mem_nil)
/-- RaftTownModel.raft -/
def sc_w4 : se_C := ((222, 1), ([(((91, 0, 0), 0, (0, 0, 0), (0, 0, 0)), (0, (0, 0, 0), (0, 0, 0))), (((0, 0, 5), 0, (0, 0, 0), (0, 0, 0)), (0, (0, 1, 0), (0, 0, 0))), (((0, 0, 35), 0, (0, 0, 0), (0, 0, 0)), (0, (0, 2, 0), (0, 0, 0))), (((0, 1, 99), 0, (0, 0, 0), (0, 0, 0)), (0, (0, 3, 0), (0, 0, 0))), (((0, 0, 99), 0, (0, 0, 0), (0, 0, 0)), (0, (0, 4, 0), (0, 0, 0))), (((58, 0, 0), 0, (0, 0, 0), (0, 0, 0)), (1, (1, 0, 0), (0, 0, 0))), (((0, 0, 9), 0, (0, 0, 0), (0, 0, 0)), (1, (1, 5, 0), (0, 0, 0)))], [some (1, 0, 0), some (1, 1, 0), some (1, 2, 0), some (1, 3, 0), some (1, 4, 0)], [((1, 0, 0), (0, 0, 0), (1, 5, 0)), ((1, 5, 0), (0, 0, 0), (1, 6, 0))], []), [([], some (1, 6, 0), [((1, 5, 0), (0, 0, 0), (1, 6, 1))], [])], [(56, 0, 1), (56, 80, 150)])
abbrev sn_w4 : List se_Nd := []
set_option maxRecDepth 100000 in
theorem sk_w4 : se_chk0 se_tt [] se_Z 37 se_zt sc_w4 sn_w4 8 = true := by decide +kernel
theorem sm_w4 {ty : Nat → Option Nat} {J : List mm_C → Prop} {kx : Nat} {zs : List mm_Zt} (hO : se_Ok ty J kx zs) : se_Met ty se_tt J kx zs sc_w4 := se_sound (C := []) hO.1 hO.2.1 hO.2.2 (fun _ hn => absurd hn List.not_mem_nil) sk_w4 (fun _ hn => absurd hn List.not_mem_nil)
/-- RaftTown.raft -/
def sc_q5 : se_C := ((17, 1), ([(((90, 0, 0), 0, (0, 0, 0), (0, 0, 0)), (0, (0, 0, 0), (0, 0, 0))), (((0, 0, 5), 0, (0, 0, 0), (0, 0, 0)), (0, (0, 1, 0), (0, 0, 0))), (((0, 0, 35), 0, (0, 0, 0), (0, 0, 0)), (0, (0, 2, 0), (0, 0, 0))), (((0, 1, 99), 0, (0, 0, 0), (0, 0, 0)), (0, (0, 3, 0), (0, 0, 0))), (((0, 0, 99), 0, (0, 0, 0), (0, 0, 0)), (0, (0, 4, 0), (0, 0, 0))), (((89, 0, 0), 0, (0, 0, 0), (0, 0, 0)), (1, (1, 0, 0), (0, 0, 0))), (((0, 10, 10), 0, (0, 0, 0), (0, 0, 0)), (1, (1, 5, 0), (0, 0, 2)))], [some (1, 0, 0), some (1, 1, 0), some (1, 2, 0), some (1, 3, 0), some (1, 4, 0)], [((1, 0, 0), (0, 0, 0), (1, 5, 0)), ((1, 5, 0), (0, 0, 2), (1, 6, 0))], []), [([(((0, (-100005), (-100005)), 0, (0, 0, 0), (0, 0, 0)), (0, (0, 0, 0), (0, 0, 0)))], some (1, 7, 0), [], [])], [(88, 7, 8)])
abbrev sn_q5 : List se_Nd := []
set_option maxRecDepth 100000 in
theorem sk_q5 : se_chk0 se_tt [] se_Z 37 se_zt sc_q5 sn_q5 7 = true := by decide +kernel
theorem sm_q5 {ty : Nat → Option Nat} {J : List mm_C → Prop} {kx : Nat} {zs : List mm_Zt} (hO : se_Ok ty J kx zs) : se_Met ty se_tt J kx zs sc_q5 := se_sound (C := []) hO.1 hO.2.1 hO.2.2 (fun _ hn => absurd hn List.not_mem_nil) sk_q5 (fun _ hn => absurd hn List.not_mem_nil)
/-- RaftTownModel.raft -/
def sc_w5 : se_C := ((222, 1), ([(((91, 0, 0), 0, (0, 0, 0), (0, 0, 0)), (0, (0, 0, 0), (0, 0, 0))), (((0, 0, 5), 0, (0, 0, 0), (0, 0, 0)), (0, (0, 1, 0), (0, 0, 0))), (((0, 0, 35), 0, (0, 0, 0), (0, 0, 0)), (0, (0, 2, 0), (0, 0, 0))), (((0, 1, 99), 0, (0, 0, 0), (0, 0, 0)), (0, (0, 3, 0), (0, 0, 0))), (((0, 0, 99), 0, (0, 0, 0), (0, 0, 0)), (0, (0, 4, 0), (0, 0, 0))), (((58, 0, 0), 0, (0, 0, 0), (0, 0, 0)), (1, (1, 0, 0), (0, 0, 0))), (((0, 10, 10), 0, (0, 0, 0), (0, 0, 0)), (1, (1, 5, 0), (0, 0, 0)))], [some (1, 0, 0), some (1, 1, 0), some (1, 2, 0), some (1, 3, 0), some (1, 4, 0)], [((1, 0, 0), (0, 0, 0), (1, 5, 0)), ((1, 5, 0), (0, 0, 0), (1, 6, 0))], []), [([(((0, (-100005), (-100005)), 0, (0, 0, 0), (0, 0, 0)), (0, (0, 0, 0), (0, 0, 0)))], some (1, 7, 0), [], [])], [(89, 3, 4)])
abbrev sn_w5 : List se_Nd := []
set_option maxRecDepth 100000 in
theorem sk_w5 : se_chk0 se_tt [] se_Z 37 se_zt sc_w5 sn_w5 7 = true := by decide +kernel
theorem sm_w5 {ty : Nat → Option Nat} {J : List mm_C → Prop} {kx : Nat} {zs : List mm_Zt} (hO : se_Ok ty J kx zs) : se_Met ty se_tt J kx zs sc_w5 := se_sound (C := []) hO.1 hO.2.1 hO.2.2 (fun _ hn => absurd hn List.not_mem_nil) sk_w5 (fun _ hn => absurd hn List.not_mem_nil)
/-- RaftTown.raft -/
def sc_q6 : se_C := ((17, 1), ([(((90, 0, 0), 0, (0, 0, 0), (0, 0, 0)), (0, (0, 0, 0), (0, 0, 0))), (((0, 0, 5), 0, (0, 0, 0), (0, 0, 0)), (0, (0, 1, 0), (0, 0, 0))), (((0, 0, 35), 0, (0, 0, 0), (0, 0, 0)), (0, (0, 2, 0), (0, 0, 0))), (((0, 1, 99), 0, (0, 0, 0), (0, 0, 0)), (0, (0, 3, 0), (0, 0, 0))), (((0, 100, 2147483647), 0, (0, 0, 0), (0, 0, 0)), (0, (0, 4, 0), (0, 0, 0)))], [some (1, 0, 0), some (1, 1, 0), some (1, 2, 0), some (1, 3, 0), some (1, 4, 0)], [], []), [([(((0, (-100001), (-100001)), 0, (0, 0, 0), (0, 0, 0)), (0, (0, 0, 0), (0, 0, 0)))], some (1, 5, 0), [], [])], [(88, 7, 8)])
abbrev sn_q6 : List se_Nd := []
set_option maxRecDepth 100000 in
theorem sk_q6 : se_chk0 se_tt [] se_Z 37 se_zt sc_q6 sn_q6 7 = true := by decide +kernel
theorem sm_q6 {ty : Nat → Option Nat} {J : List mm_C → Prop} {kx : Nat} {zs : List mm_Zt} (hO : se_Ok ty J kx zs) : se_Met ty se_tt J kx zs sc_q6 := se_sound (C := []) hO.1 hO.2.1 hO.2.2 (fun _ hn => absurd hn List.not_mem_nil) sk_q6 (fun _ hn => absurd hn List.not_mem_nil)
/-- RaftTownModel.raft -/
def sc_w6 : se_C := ((222, 1), ([(((91, 0, 0), 0, (0, 0, 0), (0, 0, 0)), (0, (0, 0, 0), (0, 0, 0))), (((0, 0, 5), 0, (0, 0, 0), (0, 0, 0)), (0, (0, 1, 0), (0, 0, 0))), (((0, 0, 35), 0, (0, 0, 0), (0, 0, 0)), (0, (0, 2, 0), (0, 0, 0))), (((0, 1, 99), 0, (0, 0, 0), (0, 0, 0)), (0, (0, 3, 0), (0, 0, 0))), (((0, 100, 2147483647), 0, (0, 0, 0), (0, 0, 0)), (0, (0, 4, 0), (0, 0, 0)))], [some (1, 0, 0), some (1, 1, 0), some (1, 2, 0), some (1, 3, 0), some (1, 4, 0)], [], []), [([(((0, (-100001), (-100001)), 0, (0, 0, 0), (0, 0, 0)), (0, (0, 0, 0), (0, 0, 0)))], some (1, 5, 0), [], [])], [(89, 3, 4)])
abbrev sn_w6 : List se_Nd := []
set_option maxRecDepth 100000 in
theorem sk_w6 : se_chk0 se_tt [] se_Z 37 se_zt sc_w6 sn_w6 7 = true := by decide +kernel
theorem sm_w6 {ty : Nat → Option Nat} {J : List mm_C → Prop} {kx : Nat} {zs : List mm_Zt} (hO : se_Ok ty J kx zs) : se_Met ty se_tt J kx zs sc_w6 := se_sound (C := []) hO.1 hO.2.1 hO.2.2 (fun _ hn => absurd hn List.not_mem_nil) sk_w6 (fun _ hn => absurd hn List.not_mem_nil)
/-- RaftTown.raft -/
def sc_q7 : se_C := ((17, 1), ([(((90, 0, 0), 0, (0, 0, 0), (0, 0, 0)), (0, (0, 0, 0), (0, 0, 0))), (((0, 0, 5), 0, (0, 0, 0), (0, 0, 0)), (0, (0, 1, 0), (0, 0, 0))), (((0, 0, 35), 0, (0, 0, 0), (0, 0, 0)), (0, (0, 2, 0), (0, 0, 0))), (((0, 100, 2147483647), 0, (0, 0, 0), (0, 0, 0)), (0, (0, 3, 0), (0, 0, 0))), (((0, (-2147483648), 2147483647), 0, (0, 0, 0), (0, 0, 0)), (0, (0, 4, 0), (0, 0, 0)))], [some (1, 0, 0), some (1, 1, 0), some (1, 2, 0), some (1, 3, 0), some (1, 4, 0)], [], []), [([(((0, (-100001), (-100001)), 0, (0, 0, 0), (0, 0, 0)), (0, (0, 0, 0), (0, 0, 0)))], some (1, 5, 0), [], [])], [(88, 7, 8)])
abbrev sn_q7 : List se_Nd := []
set_option maxRecDepth 100000 in
theorem sk_q7 : se_chk0 se_tt [] se_Z 37 se_zt sc_q7 sn_q7 6 = true := by decide +kernel
theorem sm_q7 {ty : Nat → Option Nat} {J : List mm_C → Prop} {kx : Nat} {zs : List mm_Zt} (hO : se_Ok ty J kx zs) : se_Met ty se_tt J kx zs sc_q7 := se_sound (C := []) hO.1 hO.2.1 hO.2.2 (fun _ hn => absurd hn List.not_mem_nil) sk_q7 (fun _ hn => absurd hn List.not_mem_nil)
/-- RaftTownModel.raft -/
def sc_w7 : se_C := ((222, 1), ([(((91, 0, 0), 0, (0, 0, 0), (0, 0, 0)), (0, (0, 0, 0), (0, 0, 0))), (((0, 0, 5), 0, (0, 0, 0), (0, 0, 0)), (0, (0, 1, 0), (0, 0, 0))), (((0, 0, 35), 0, (0, 0, 0), (0, 0, 0)), (0, (0, 2, 0), (0, 0, 0))), (((0, 100, 2147483647), 0, (0, 0, 0), (0, 0, 0)), (0, (0, 3, 0), (0, 0, 0))), (((0, (-2147483648), 2147483647), 0, (0, 0, 0), (0, 0, 0)), (0, (0, 4, 0), (0, 0, 0)))], [some (1, 0, 0), some (1, 1, 0), some (1, 2, 0), some (1, 3, 0), some (1, 4, 0)], [], []), [([(((0, (-100001), (-100001)), 0, (0, 0, 0), (0, 0, 0)), (0, (0, 0, 0), (0, 0, 0)))], some (1, 5, 0), [], [])], [(89, 3, 4)])
abbrev sn_w7 : List se_Nd := []
set_option maxRecDepth 100000 in
theorem sk_w7 : se_chk0 se_tt [] se_Z 37 se_zt sc_w7 sn_w7 6 = true := by decide +kernel
theorem sm_w7 {ty : Nat → Option Nat} {J : List mm_C → Prop} {kx : Nat} {zs : List mm_Zt} (hO : se_Ok ty J kx zs) : se_Met ty se_tt J kx zs sc_w7 := se_sound (C := []) hO.1 hO.2.1 hO.2.2 (fun _ hn => absurd hn List.not_mem_nil) sk_w7 (fun _ hn => absurd hn List.not_mem_nil)
/-- RaftTown.raft -/
def sc_q8 : se_C := ((17, 1), ([(((90, 0, 0), 0, (0, 0, 0), (0, 0, 0)), (0, (0, 0, 0), (0, 0, 0))), (((0, 0, 5), 0, (0, 0, 0), (0, 0, 0)), (0, (0, 1, 0), (0, 0, 0))), (((0, 36, 2147483647), 0, (0, 0, 0), (0, 0, 0)), (0, (0, 2, 0), (0, 0, 0))), (((0, (-2147483648), 2147483647), 0, (0, 0, 0), (0, 0, 0)), (0, (0, 3, 0), (0, 0, 0))), (((0, (-2147483648), 2147483647), 0, (0, 0, 0), (0, 0, 0)), (0, (0, 4, 0), (0, 0, 0)))], [some (1, 0, 0), some (1, 1, 0), some (1, 2, 0), some (1, 3, 0), some (1, 4, 0)], [], []), [([(((0, (-100001), (-100001)), 0, (0, 0, 0), (0, 0, 0)), (0, (0, 0, 0), (0, 0, 0)))], some (1, 5, 0), [], [])], [(88, 7, 8)])
abbrev sn_q8 : List se_Nd := []
set_option maxRecDepth 100000 in
theorem sk_q8 : se_chk0 se_tt [] se_Z 37 se_zt sc_q8 sn_q8 6 = true := by decide +kernel
theorem sm_q8 {ty : Nat → Option Nat} {J : List mm_C → Prop} {kx : Nat} {zs : List mm_Zt} (hO : se_Ok ty J kx zs) : se_Met ty se_tt J kx zs sc_q8 := se_sound (C := []) hO.1 hO.2.1 hO.2.2 (fun _ hn => absurd hn List.not_mem_nil) sk_q8 (fun _ hn => absurd hn List.not_mem_nil)
/-- RaftTownModel.raft -/
def sc_w8 : se_C := ((222, 1), ([(((91, 0, 0), 0, (0, 0, 0), (0, 0, 0)), (0, (0, 0, 0), (0, 0, 0))), (((0, 0, 5), 0, (0, 0, 0), (0, 0, 0)), (0, (0, 1, 0), (0, 0, 0))), (((0, 36, 2147483647), 0, (0, 0, 0), (0, 0, 0)), (0, (0, 2, 0), (0, 0, 0))), (((0, (-2147483648), 2147483647), 0, (0, 0, 0), (0, 0, 0)), (0, (0, 3, 0), (0, 0, 0))), (((0, (-2147483648), 2147483647), 0, (0, 0, 0), (0, 0, 0)), (0, (0, 4, 0), (0, 0, 0)))], [some (1, 0, 0), some (1, 1, 0), some (1, 2, 0), some (1, 3, 0), some (1, 4, 0)], [], []), [([(((0, (-100001), (-100001)), 0, (0, 0, 0), (0, 0, 0)), (0, (0, 0, 0), (0, 0, 0)))], some (1, 5, 0), [], [])], [(89, 3, 4)])
abbrev sn_w8 : List se_Nd := []
set_option maxRecDepth 100000 in
theorem sk_w8 : se_chk0 se_tt [] se_Z 37 se_zt sc_w8 sn_w8 6 = true := by decide +kernel
theorem sm_w8 {ty : Nat → Option Nat} {J : List mm_C → Prop} {kx : Nat} {zs : List mm_Zt} (hO : se_Ok ty J kx zs) : se_Met ty se_tt J kx zs sc_w8 := se_sound (C := []) hO.1 hO.2.1 hO.2.2 (fun _ hn => absurd hn List.not_mem_nil) sk_w8 (fun _ hn => absurd hn List.not_mem_nil)
/-- RaftTown.raft -/
def sc_q9 : se_C := ((17, 1), ([(((90, 0, 0), 0, (0, 0, 0), (0, 0, 0)), (0, (0, 0, 0), (0, 0, 0))), (((0, 6, 2147483647), 0, (0, 0, 0), (0, 0, 0)), (0, (0, 1, 0), (0, 0, 0))), (((0, (-2147483648), 2147483647), 0, (0, 0, 0), (0, 0, 0)), (0, (0, 2, 0), (0, 0, 0))), (((0, (-2147483648), 2147483647), 0, (0, 0, 0), (0, 0, 0)), (0, (0, 3, 0), (0, 0, 0))), (((0, (-2147483648), 2147483647), 0, (0, 0, 0), (0, 0, 0)), (0, (0, 4, 0), (0, 0, 0)))], [some (1, 0, 0), some (1, 1, 0), some (1, 2, 0), some (1, 3, 0), some (1, 4, 0)], [], []), [([(((0, (-100001), (-100001)), 0, (0, 0, 0), (0, 0, 0)), (0, (0, 0, 0), (0, 0, 0)))], some (1, 5, 0), [], [])], [(88, 7, 8)])
abbrev sn_q9 : List se_Nd := []
set_option maxRecDepth 100000 in
theorem sk_q9 : se_chk0 se_tt [] se_Z 37 se_zt sc_q9 sn_q9 5 = true := by decide +kernel
theorem sm_q9 {ty : Nat → Option Nat} {J : List mm_C → Prop} {kx : Nat} {zs : List mm_Zt} (hO : se_Ok ty J kx zs) : se_Met ty se_tt J kx zs sc_q9 := se_sound (C := []) hO.1 hO.2.1 hO.2.2 (fun _ hn => absurd hn List.not_mem_nil) sk_q9 (fun _ hn => absurd hn List.not_mem_nil)
/-- RaftTownModel.raft -/
def sc_w9 : se_C := ((222, 1), ([(((91, 0, 0), 0, (0, 0, 0), (0, 0, 0)), (0, (0, 0, 0), (0, 0, 0))), (((0, 6, 2147483647), 0, (0, 0, 0), (0, 0, 0)), (0, (0, 1, 0), (0, 0, 0))), (((0, (-2147483648), 2147483647), 0, (0, 0, 0), (0, 0, 0)), (0, (0, 2, 0), (0, 0, 0))), (((0, (-2147483648), 2147483647), 0, (0, 0, 0), (0, 0, 0)), (0, (0, 3, 0), (0, 0, 0))), (((0, (-2147483648), 2147483647), 0, (0, 0, 0), (0, 0, 0)), (0, (0, 4, 0), (0, 0, 0)))], [some (1, 0, 0), some (1, 1, 0), some (1, 2, 0), some (1, 3, 0), some (1, 4, 0)], [], []), [([(((0, (-100001), (-100001)), 0, (0, 0, 0), (0, 0, 0)), (0, (0, 0, 0), (0, 0, 0)))], some (1, 5, 0), [], [])], [(89, 3, 4)])
abbrev sn_w9 : List se_Nd := []
set_option maxRecDepth 100000 in
theorem sk_w9 : se_chk0 se_tt [] se_Z 37 se_zt sc_w9 sn_w9 5 = true := by decide +kernel
theorem sm_w9 {ty : Nat → Option Nat} {J : List mm_C → Prop} {kx : Nat} {zs : List mm_Zt} (hO : se_Ok ty J kx zs) : se_Met ty se_tt J kx zs sc_w9 := se_sound (C := []) hO.1 hO.2.1 hO.2.2 (fun _ hn => absurd hn List.not_mem_nil) sk_w9 (fun _ hn => absurd hn List.not_mem_nil)
/-- RaftTown.image -/
def sc_q10 : se_C := ((205, 3), ([(((90, 0, 0), 0, (0, 0, 0), (0, 0, 0)), (0, (0, 0, 0), (0, 0, 0))), (((89, 0, 0), 0, (0, 0, 0), (0, 0, 0)), (1, (1, 0, 0), (0, 0, 0))), (((117, 0, 0), 0, (0, 0, 0), (0, 0, 0)), (1, (1, 0, 0), (0, 0, 1))), (((0, (-2147483648), 2147483647), 0, (0, 0, 0), (0, 0, 0)), (1, (1, 1, 0), (0, 0, 2)))], [some (1, 0, 0)], [((1, 0, 0), (0, 0, 0), (1, 1, 0)), ((1, 0, 0), (0, 0, 1), (1, 2, 0)), ((1, 1, 0), (0, 0, 2), (1, 3, 0))], []), [([(((0, (-2147483648), 2147483647), 0, (0, 0, 0), (0, 0, 0)), (0, (0, 0, 0), (0, 0, 0)))], some (1, 4, 0), [((1, 2, 0), (0, 0, 2), (1, 3, 0)), ((1, 0, 0), (0, 0, 2), (0, 0, 1))], [])], [(88, 2, 3), (90, 0, 40), (91, 0, 40), (92, 0, 40), (93, 0, 40), (94, 0, 12), (95, 0, 12), (96, 0, 36), (97, 0, 36), (99, 0, 160), (100, 0, 3), (104, 4, 5), (104, 5, 6), (104, 8, 9), (106, 0, 1), (106, 1, 2), (106, 2, 3), (106, 3, 4), (106, 4, 5), (106, 5, 6), (106, 6, 7), (107, 0, 1), (107, 1, 2), (107, 2, 3), (107, 3, 4), (107, 4, 5), (107, 5, 6), (107, 6, 7), (108, 0, 1), (108, 1, 2), (108, 2, 3), (108, 3, 4), (108, 4, 5), (108, 5, 6), (108, 6, 7), (108, 7, 8), (109, 0, 1), (109, 3, 4), (115, 2, 3), (115, 4, 5), (115, 6, 7), (115, 9, 10), (115, 10, 11), (115, 11, 12)])
abbrev sn_q10 : List se_Nd := []
set_option maxRecDepth 100000 in
theorem sk_q10 : se_chk0 se_tt [sc_tk] se_Z 37 se_zt sc_q10 sn_q10 4 = true := by decide +kernel
theorem sm_q10 {ty : Nat → Option Nat} {J : List mm_C → Prop} {kx : Nat} {zs : List mm_Zt} (hO : se_Ok ty J kx zs) (htk : se_Met ty se_tt J kx zs sc_tk) : se_Met ty se_tt J kx zs sc_q10 := se_sound (C := [sc_tk]) hO.1 hO.2.1 hO.2.2 (fun n hn => by
  rcases List.mem_cons.mp hn with rfl | hn
  · exact htk
  exact absurd hn List.not_mem_nil) sk_q10 (fun _ hn => absurd hn List.not_mem_nil)
/-- RaftTown.restore -/
def sc_q11 : se_C := ((212, 1), ([(((90, 0, 0), 0, (0, 0, 0), (0, 0, 0)), (0, (0, 0, 0), (0, 0, 0))), (((0, 0, 0), 0, (0, 0, 0), (0, 0, 0)), (1, (1, 0, 0), (0, 0, 2)))], [some (1, 0, 0)], [((1, 0, 0), (0, 0, 2), (1, 1, 0))], []), [([(((0, (-100006), (-100006)), 0, (0, 0, 0), (0, 0, 0)), (0, (0, 0, 0), (0, 0, 0)))], some (1, 2, 0), [], [])], [(88, 7, 8)])
abbrev sn_q11 : List se_Nd := []
set_option maxRecDepth 100000 in
theorem sk_q11 : se_chk0 se_tt [] se_Z 37 se_zt sc_q11 sn_q11 5 = true := by decide +kernel
theorem sm_q11 {ty : Nat → Option Nat} {J : List mm_C → Prop} {kx : Nat} {zs : List mm_Zt} (hO : se_Ok ty J kx zs) : se_Met ty se_tt J kx zs sc_q11 := se_sound (C := []) hO.1 hO.2.1 hO.2.2 (fun _ hn => absurd hn List.not_mem_nil) sk_q11 (fun _ hn => absurd hn List.not_mem_nil)
/-- RaftTownModel.restore -/
def sc_w11 : se_C := ((328, 1), ([(((91, 0, 0), 0, (0, 0, 0), (0, 0, 0)), (0, (0, 0, 0), (0, 0, 0))), (((0, 0, 0), 0, (0, 0, 0), (0, 0, 0)), (1, (1, 0, 0), (0, 0, 2)))], [some (1, 0, 0)], [((1, 0, 0), (0, 0, 2), (1, 1, 0))], []), [([(((0, (-100006), (-100006)), 0, (0, 0, 0), (0, 0, 0)), (0, (0, 0, 0), (0, 0, 0)))], some (1, 2, 0), [], [])], [(89, 3, 4)])
abbrev sn_w11 : List se_Nd := []
set_option maxRecDepth 100000 in
theorem sk_w11 : se_chk0 se_tt [] se_Z 37 se_zt sc_w11 sn_w11 4 = true := by decide +kernel
theorem sm_w11 {ty : Nat → Option Nat} {J : List mm_C → Prop} {kx : Nat} {zs : List mm_Zt} (hO : se_Ok ty J kx zs) : se_Met ty se_tt J kx zs sc_w11 := se_sound (C := []) hO.1 hO.2.1 hO.2.2 (fun _ hn => absurd hn List.not_mem_nil) sk_w11 (fun _ hn => absurd hn List.not_mem_nil)
/-- RaftTown.restore -/
def sc_q12 : se_C := ((212, 3), ([(((90, 0, 0), 0, (0, 0, 0), (0, 0, 0)), (0, (0, 0, 0), (0, 0, 0))), (((0, 1, 1), 0, (0, 0, 0), (0, 0, 0)), (1, (1, 0, 0), (0, 0, 2))), (((89, 0, 0), 0, (0, 0, 0), (0, 0, 0)), (1, (1, 0, 0), (0, 0, 0))), (((117, 0, 0), 0, (0, 0, 0), (0, 0, 0)), (1, (1, 0, 0), (0, 0, 1))), (((0, (-2147483648), 2147483647), 0, (0, 0, 0), (0, 0, 0)), (1, (1, 3, 0), (0, 0, 2)))], [some (1, 0, 0)], [((1, 0, 0), (0, 0, 2), (1, 1, 0)), ((1, 0, 0), (0, 0, 0), (1, 2, 0)), ((1, 0, 0), (0, 0, 1), (1, 3, 0)), ((1, 3, 0), (0, 0, 2), (1, 4, 0))], []), [([(((0, (-2147483648), 2147483647), 0, (0, 0, 0), (0, 0, 0)), (0, (0, 0, 0), (0, 0, 0)))], some (1, 5, 0), [((1, 2, 0), (0, 0, 2), (1, 4, 0))], [])], [(39, 0, 40), (40, 0, 40), (41, 0, 40), (42, 0, 40), (43, 0, 12), (44, 0, 12), (49, 0, 36), (50, 0, 36), (54, 0, 160), (55, 0, 3), (73, 4, 5), (73, 5, 6), (73, 8, 9), (75, 0, 1), (75, 1, 2), (75, 2, 3), (75, 3, 4), (75, 4, 5), (75, 5, 6), (75, 6, 7), (76, 0, 1), (76, 1, 2), (76, 2, 3), (76, 3, 4), (76, 4, 5), (76, 5, 6), (76, 6, 7), (77, 0, 1), (77, 1, 2), (77, 2, 3), (77, 3, 4), (77, 4, 5), (77, 5, 6), (77, 6, 7), (77, 7, 8), (81, 0, 1), (81, 3, 4), (87, 2, 3), (87, 4, 5), (87, 6, 7), (87, 9, 10), (87, 10, 11), (87, 11, 12)])
abbrev sn_q12 : List se_Nd := []
set_option maxRecDepth 100000 in
theorem sk_q12 : se_chk0 se_tt [sc_tl] se_Z 37 se_zt sc_q12 sn_q12 4 = true := by decide +kernel
theorem sm_q12 {ty : Nat → Option Nat} {J : List mm_C → Prop} {kx : Nat} {zs : List mm_Zt} (hO : se_Ok ty J kx zs) (htl : se_Met ty se_tt J kx zs sc_tl) : se_Met ty se_tt J kx zs sc_q12 := se_sound (C := [sc_tl]) hO.1 hO.2.1 hO.2.2 (fun n hn => by
  rcases List.mem_cons.mp hn with rfl | hn
  · exact htl
  exact absurd hn List.not_mem_nil) sk_q12 (fun _ hn => absurd hn List.not_mem_nil)
def la_C : List se_C := [sc_q0, sc_w0, sc_q1, sc_w1, sc_q2, sc_w2, sc_q3, sc_w3, sc_q4, sc_w4, sc_q5, sc_w5, sc_q6, sc_w6, sc_q7, sc_w7, sc_q8, sc_w8, sc_q9, sc_w9, sc_q10, sc_i3, sc_q11, sc_w11, sc_q12, sc_r3, sc_0, sc_3, sc_7, sc_8, sc_9, sc_10, sc_11, sc_12, sc_14, sc_19, sc_36, sc_37, sc_38, sc_39, sc_40, sc_44, sc_55, sc_56, sc_58, sc_60, sc_121, sc_122, sc_123, sc_124, sc_125, sc_126, sc_128, sc_129, sc_136, sc_139, sc_144, sc_148, sc_150, sc_155, sc_156, sc_157, sc_176, sc_177, sc_179, sc_184, sc_185, sc_186, sc_187, sc_188, sc_189, sc_191, sc_193, sc_194, sc_198, sc_202, sc_204, sc_206, sc_207, sc_208, sc_219, sc_220, sc_223, sc_224, sc_h2, sc_229, sc_231, sc_235, sc_236, sc_237, sc_238, sc_240, sc_242, sc_243, sc_246, sc_247, sc_248, sc_249, sc_250, sc_251]
theorem la_all {ty : Nat → Option Nat} {kx : Nat} {zs : List mm_Zt} (hO : se_Ok ty (rw_J ty) kx zs) (hz : ∃ tz, zs.find? (fun t => decide (t.1 = "jdk/internal/util/Preconditions" ∧ t.2.1 = "SIOOBE_FORMATTER" ∧ t.2.2.1 = "Ljava/util/function/BiFunction;")) = some tz ∧ tz.2.2.2.category = 1) : ∀ c ∈ la_C, se_Met ty se_tt (rw_J ty) kx zs c ∧ c.1.2 ≤ 40 := by
  have h0h : se_Met ty se_tt (rw_J ty) kx zs sc_h0 := sm_h0 hz
  have h1h : se_Met ty se_tt (rw_J ty) kx zs sc_h1 := sm_h1
  have h2h : se_Met ty se_tt (rw_J ty) kx zs sc_h2 := sm_h2 hO
  have h4h : se_Met ty se_tt (rw_J ty) kx zs sc_h4 := sm_h4 hO
  have h5h : se_Met ty se_tt (rw_J ty) kx zs sc_h5 := sm_h5 hO
  have h6h : se_Met ty se_tt (rw_J ty) kx zs sc_h6 := sm_h6 hO
  have c0 : se_Met ty se_tt (rw_J ty) kx zs sc_0 := sm_0 hO
  have c2 : se_Met ty se_tt (rw_J ty) kx zs sc_2 := sm_2 hO
  have c3 : se_Met ty se_tt (rw_J ty) kx zs sc_3 := sm_3 hO c2
  have c4 : se_Met ty se_tt (rw_J ty) kx zs sc_4 := sm_4 hO
  have c5 : se_Met ty se_tt (rw_J ty) kx zs sc_5 := sm_5 hO
  have c6 : se_Met ty se_tt (rw_J ty) kx zs sc_6 := sm_6 hO
  have c7 : se_Met ty se_tt (rw_J ty) kx zs sc_7 := sm_7 hO c4 c5 c6
  have c8 : se_Met ty se_tt (rw_J ty) kx zs sc_8 := sm_8 hO
  have c9 : se_Met ty se_tt (rw_J ty) kx zs sc_9 := sm_9 hO c4 c5
  have c10 : se_Met ty se_tt (rw_J ty) kx zs sc_10 := sm_10 hO
  have c11 : se_Met ty se_tt (rw_J ty) kx zs sc_11 := sm_11 hO
  have c12 : se_Met ty se_tt (rw_J ty) kx zs sc_12 := sm_12 hO c4 c5
  have c13 : se_Met ty se_tt (rw_J ty) kx zs sc_13 := sm_13 hO
  have c14 : se_Met ty se_tt (rw_J ty) kx zs sc_14 := sm_14 hO c13
  have c15 : se_Met ty se_tt (rw_J ty) kx zs sc_15 := sm_15 hO
  have c16 : se_Met ty se_tt (rw_J ty) kx zs sc_16 := sm_16 hO
  have c17 : se_Met ty se_tt (rw_J ty) kx zs sc_17 := sm_17 hO
  have c18 : se_Met ty se_tt (rw_J ty) kx zs sc_18 := sm_18 hO
  have c19 : se_Met ty se_tt (rw_J ty) kx zs sc_19 := sm_19 hO c4 c5 c15 c16 c17 c18
  have c20 : se_Met ty se_tt (rw_J ty) kx zs sc_20 := sm_20 hO
  have c21 : se_Met ty se_tt (rw_J ty) kx zs sc_21 := sm_21 hO
  have c22 : se_Met ty se_tt (rw_J ty) kx zs sc_22 := sm_22 hO
  have c23 : se_Met ty se_tt (rw_J ty) kx zs sc_23 := sm_23 hO c5 c22
  have c24 : se_Met ty se_tt (rw_J ty) kx zs sc_24 := sm_24 hO
  have c25 : se_Met ty se_tt (rw_J ty) kx zs sc_25 := sm_25 hO
  have c26 : se_Met ty se_tt (rw_J ty) kx zs sc_26 := sm_26 hO c13 c24 c25
  have c27 : se_Met ty se_tt (rw_J ty) kx zs sc_27 := sm_27 hO
  have c28 : se_Met ty se_tt (rw_J ty) kx zs sc_28 := sm_28 hO c5 c21 c23 c24 c25 c26 c27
  have c29 : se_Met ty se_tt (rw_J ty) kx zs sc_29 := sm_29 hO
  have c31 : se_Met ty se_tt (rw_J ty) kx zs sc_31 := sm_31 hO
  have c33 : se_Met ty se_tt (rw_J ty) kx zs sc_33 := sm_33 hO
  have c34 : se_Met ty se_tt (rw_J ty) kx zs sc_34 := sm_34 hO c29 c31 c33
  have c35 : se_Met ty se_tt (rw_J ty) kx zs sc_35 := sm_35 hO c5
  have c36 : se_Met ty se_tt (rw_J ty) kx zs sc_36 := sm_36 hO c4 c5 c17 c20 c28 c34 c35
  have c37 : se_Met ty se_tt (rw_J ty) kx zs sc_37 := sm_37 hO c4 c23
  have c38 : se_Met ty se_tt (rw_J ty) kx zs sc_38 := sm_38 hO c4 c23
  have c39 : se_Met ty se_tt (rw_J ty) kx zs sc_39 := sm_39 hO c4 c35
  have c40 : se_Met ty se_tt (rw_J ty) kx zs sc_40 := sm_40 hO c4 c5
  have c41 : se_Met ty se_tt (rw_J ty) kx zs sc_41 := sm_41 hO c23
  have c42 : se_Met ty se_tt (rw_J ty) kx zs sc_42 := sm_42 hO c41
  have c43 : se_Met ty se_tt (rw_J ty) kx zs sc_43 := sm_43 hO c41
  have c44 : se_Met ty se_tt (rw_J ty) kx zs sc_44 := sm_44 hO c4 c42 c43
  have c45 : se_Met ty se_tt (rw_J ty) kx zs sc_45 := sm_45 hO c5 c17 c41
  have c46 : se_Met ty se_tt (rw_J ty) kx zs sc_46 := sm_46 hO
  have c47 : se_Met ty se_tt (rw_J ty) kx zs sc_47 := sm_47 hO
  have c48 : se_Met ty se_tt (rw_J ty) kx zs sc_48 := sm_48 hO c6
  have c49 : se_Met ty se_tt (rw_J ty) kx zs sc_49 := sm_49 hO c17 c48
  have c50 : se_Met ty se_tt (rw_J ty) kx zs sc_50 := sm_50 hO c5 c49
  have c51 : se_Met ty se_tt (rw_J ty) kx zs sc_51 := sm_51 hO
  have c52 : se_Met ty se_tt (rw_J ty) kx zs sc_52 := sm_52 hO c4 c5 c6 c17
  have c53 : se_Met ty se_tt (rw_J ty) kx zs sc_53 := sm_53 hO c52
  have c54 : se_Met ty se_tt (rw_J ty) kx zs sc_54 := sm_54 hO
  have c55 : se_Met ty se_tt (rw_J ty) kx zs sc_55 := sm_55 hO c4 c45 c46 c47 c50 c51 c53 c54
  have c56 : se_Met ty se_tt (rw_J ty) kx zs sc_56 := sm_56 hO c4 c45 c46 c47 c50 c51 c53 c54
  have c57 : se_Met ty se_tt (rw_J ty) kx zs sc_57 := sm_57 hO
  have c58 : se_Met ty se_tt (rw_J ty) kx zs sc_58 := sm_58 hO c4 c5 c24 c25 c27 c57
  have c59 : se_Met ty se_tt (rw_J ty) kx zs sc_59 := sm_59 hO
  have c60 : se_Met ty se_tt (rw_J ty) kx zs sc_60 := sm_60 hO c59
  have c62 : se_Met ty se_tt (rw_J ty) kx zs sc_62 := sm_62 hO
  have c63 : se_Met ty se_tt (rw_J ty) kx zs sc_63 := sm_63 hO h0h
  have c64 : se_Met ty se_tt (rw_J ty) kx zs sc_64 := sm_64 hO h0h
  have c65 : se_Met ty se_tt (rw_J ty) kx zs sc_65 := sm_65 hO h0h
  have c66 : se_Met ty se_tt (rw_J ty) kx zs sc_66 := sm_66 hO h0h
  have c67 : se_Met ty se_tt (rw_J ty) kx zs sc_67 := sm_67 hO h0h
  have c68 : se_Met ty se_tt (rw_J ty) kx zs sc_68 := sm_68 hO h0h
  have c69 : se_Met ty se_tt (rw_J ty) kx zs sc_69 := sm_69 hO h0h
  have c70 : se_Met ty se_tt (rw_J ty) kx zs sc_70 := sm_70 hO h0h
  have c71 : se_Met ty se_tt (rw_J ty) kx zs sc_71 := sm_71 hO h0h
  have c72 : se_Met ty se_tt (rw_J ty) kx zs sc_72 := sm_72 hO h0h
  have c73 : se_Met ty se_tt (rw_J ty) kx zs sc_73 := sm_73 hO h0h
  have c74 : se_Met ty se_tt (rw_J ty) kx zs sc_74 := sm_74 hO h0h
  have c75 : se_Met ty se_tt (rw_J ty) kx zs sc_75 := sm_75 hO h0h
  have c76 : se_Met ty se_tt (rw_J ty) kx zs sc_76 := sm_76 hO h0h
  have c77 : se_Met ty se_tt (rw_J ty) kx zs sc_77 := sm_77 hO h0h
  have c78 : se_Met ty se_tt (rw_J ty) kx zs sc_78 := sm_78 hO c63 c64 c65 c66 c67 c68 c69 c70 c71 c72 c73 c74 c75 c76 c77
  have c79 : se_Met ty se_tt (rw_J ty) kx zs sc_79 := sm_79 hO
  have c80 : se_Met ty se_tt (rw_J ty) kx zs sc_80 := sm_80 hO c78 c79
  have c82 : se_Met ty se_tt (rw_J ty) kx zs sc_82 := sm_82 hO
  have c84 : se_Met ty se_tt (rw_J ty) kx zs sc_84 := sm_84 hO c82
  have c85 : se_Met ty se_tt (rw_J ty) kx zs sc_85 := sm_85 hO c80 c82 c84
  have c86 : se_Met ty se_tt (rw_J ty) kx zs sc_86 := sm_86 hO c80 c84 c85
  have c87 : se_Met ty se_tt (rw_J ty) kx zs sc_87 := sm_87 hO c80 c84 c86
  have c88 : se_Met ty se_tt (rw_J ty) kx zs sc_88 := sm_88 hO c87
  have c89 : se_Met ty se_tt (rw_J ty) kx zs sc_89 := sm_89 hO c80 c84 c88
  have c90 : se_Met ty se_tt (rw_J ty) kx zs sc_90 := sm_90 hO c80 c84 c89
  have c91 : se_Met ty se_tt (rw_J ty) kx zs sc_91 := sm_91 hO c80 c82 c84 c90
  have c92 : se_Met ty se_tt (rw_J ty) kx zs sc_92 := sm_92 hO c80 c84 c91
  have c93 : se_Met ty se_tt (rw_J ty) kx zs sc_93 := sm_93 hO c80 c84 c92
  have c94 : se_Met ty se_tt (rw_J ty) kx zs sc_94 := sm_94 hO c80 c84 c88 c93
  have c95 : se_Met ty se_tt (rw_J ty) kx zs sc_95 := sm_95 hO c80 c84 c94
  have c96 : se_Met ty se_tt (rw_J ty) kx zs sc_96 := sm_96 hO c80 c84 c95
  have c97 : se_Met ty se_tt (rw_J ty) kx zs sc_97 := sm_97 hO c80 c82 c84 c96
  have c98 : se_Met ty se_tt (rw_J ty) kx zs sc_98 := sm_98 hO c80 c84 c97
  have c99 : se_Met ty se_tt (rw_J ty) kx zs sc_99 := sm_99 hO c80 c84 c98
  have c100 : se_Met ty se_tt (rw_J ty) kx zs sc_100 := sm_100 hO c80 c84 c94 c99
  have c101 : se_Met ty se_tt (rw_J ty) kx zs sc_101 := sm_101 hO c80 c84 c100
  have c102 : se_Met ty se_tt (rw_J ty) kx zs sc_102 := sm_102 hO c80 c84 c101
  have c103 : se_Met ty se_tt (rw_J ty) kx zs sc_103 := sm_103 hO c80 c82 c84 c102
  have c104 : se_Met ty se_tt (rw_J ty) kx zs sc_104 := sm_104 hO c80 c84 c103
  have c105 : se_Met ty se_tt (rw_J ty) kx zs sc_105 := sm_105 hO c80 c84 c104
  have c106 : se_Met ty se_tt (rw_J ty) kx zs sc_106 := sm_106 hO c80 c84 c100 c105
  have c107 : se_Met ty se_tt (rw_J ty) kx zs sc_107 := sm_107 hO c80 c84 c106
  have c108 : se_Met ty se_tt (rw_J ty) kx zs sc_108 := sm_108 hO c80 c84 c107
  have c109 : se_Met ty se_tt (rw_J ty) kx zs sc_109 := sm_109 hO c80 c82 c84 c108
  have c110 : se_Met ty se_tt (rw_J ty) kx zs sc_110 := sm_110 hO c80 c84 c109
  have c111 : se_Met ty se_tt (rw_J ty) kx zs sc_111 := sm_111 hO c80 c84 c110
  have c112 : se_Met ty se_tt (rw_J ty) kx zs sc_112 := sm_112 hO c80 c84 c106 c111
  have c113 : se_Met ty se_tt (rw_J ty) kx zs sc_113 := sm_113 hO c80 c84 c112
  have c114 : se_Met ty se_tt (rw_J ty) kx zs sc_114 := sm_114 hO c80 c84 c113
  have c116 : se_Met ty se_tt (rw_J ty) kx zs sc_116 := sm_116 hO
  have c117 : se_Met ty se_tt (rw_J ty) kx zs sc_117 := sm_117 hO c62 c80 c114 c116
  have c118 : se_Met ty se_tt (rw_J ty) kx zs sc_118 := sm_118 hO
  have c119 : se_Met ty se_tt (rw_J ty) kx zs sc_119 := sm_119 hO
  have c120 : se_Met ty se_tt (rw_J ty) kx zs sc_120 := sm_120 hO
  have c121 : se_Met ty se_tt (rw_J ty) kx zs sc_121 := sm_121 hO c117 c118
  have c122 : se_Met ty se_tt (rw_J ty) kx zs sc_122 := sm_122 hO c4 c5 c17
  have c123 : se_Met ty se_tt (rw_J ty) kx zs sc_123 := sm_123 hO c4 c5 c20
  have c124 : se_Met ty se_tt (rw_J ty) kx zs sc_124 := sm_124 hO c4 c5 c20 c28 c34
  have c125 : se_Met ty se_tt (rw_J ty) kx zs sc_125 := sm_125 hO c4 c5 c20 c21 c24 c25 c26 c27 c34
  have c126 : se_Met ty se_tt (rw_J ty) kx zs sc_126 := sm_126 hO c4 c5 c13 c20 c21 c24 c25 c27 c34
  have c127 : se_Met ty se_tt (rw_J ty) kx zs sc_127 := sm_127 hO
  have c128 : se_Met ty se_tt (rw_J ty) kx zs sc_128 := sm_128 hO c127
  have c129 : se_Met ty se_tt (rw_J ty) kx zs sc_129 := sm_129 hO
  have c130 : se_Met ty se_tt (rw_J ty) kx zs sc_130 := sm_130 hO
  have c131 : se_Met ty se_tt (rw_J ty) kx zs sc_131 := sm_131 hO c5
  have c132 : se_Met ty se_tt (rw_J ty) kx zs sc_132 := sm_132 hO c131
  have c133 : se_Met ty se_tt (rw_J ty) kx zs sc_133 := sm_133 hO c5
  have c134 : se_Met ty se_tt (rw_J ty) kx zs sc_134 := sm_134 hO c23
  have c135 : se_Met ty se_tt (rw_J ty) kx zs sc_135 := sm_135 hO c5 c25 c130 c132 c133 c134
  have c136 : se_Met ty se_tt (rw_J ty) kx zs sc_136 := sm_136 hO c4 c135
  have c137 : se_Met ty se_tt (rw_J ty) kx zs sc_137 := sm_137 hO c25 c134
  have c138 : se_Met ty se_tt (rw_J ty) kx zs sc_138 := sm_138 hO c25 c42 c132 c137
  have c139 : se_Met ty se_tt (rw_J ty) kx zs sc_139 := sm_139 hO c4 c25 c42 c138
  have c140 : se_Met ty se_tt (rw_J ty) kx zs sc_140 := sm_140 hO c23
  have c141 : se_Met ty se_tt (rw_J ty) kx zs sc_141 := sm_141 hO c23
  have c142 : se_Met ty se_tt (rw_J ty) kx zs sc_142 := sm_142 hO c23
  have c143 : se_Met ty se_tt (rw_J ty) kx zs sc_143 := sm_143 hO c23
  have c144 : se_Met ty se_tt (rw_J ty) kx zs sc_144 := sm_144 hO c4 c25 c140 c141 c142 c143
  have c145 : se_Met ty se_tt (rw_J ty) kx zs sc_145 := sm_145 hO
  have c146 : se_Met ty se_tt (rw_J ty) kx zs sc_146 := sm_146 hO
  have c147 : se_Met ty se_tt (rw_J ty) kx zs sc_147 := sm_147 hO c145 c146
  have c148 : se_Met ty se_tt (rw_J ty) kx zs sc_148 := sm_148 hO c4 c5 c57 c147
  have c149 : se_Met ty se_tt (rw_J ty) kx zs sc_149 := sm_149 hO c145
  have c150 : se_Met ty se_tt (rw_J ty) kx zs sc_150 := sm_150 hO c4 c5 c57 c149
  have c151 : se_Met ty se_tt (rw_J ty) kx zs sc_151 := sm_151 hO
  have c152 : se_Met ty se_tt (rw_J ty) kx zs sc_152 := sm_152 hO
  have c153 : se_Met ty se_tt (rw_J ty) kx zs sc_153 := sm_153 hO
  have c154 : se_Met ty se_tt (rw_J ty) kx zs sc_154 := sm_154 hO
  have c155 : se_Met ty se_tt (rw_J ty) kx zs sc_155 := sm_155 hO c151 c152 c153 c154
  have c156 : se_Met ty se_tt (rw_J ty) kx zs sc_156 := sm_156 hO
  have c157 : se_Met ty se_tt (rw_J ty) kx zs sc_157 := sm_157 hO
  have c158 : se_Met ty se_tt (rw_J ty) kx zs sc_158 := sm_158 hO
  have c159 : se_Met ty se_tt (rw_J ty) kx zs sc_159 := sm_159 hO
  have c160 : se_Met ty se_tt (rw_J ty) kx zs sc_160 := sm_160 hO
  have c161 : se_Met ty se_tt (rw_J ty) kx zs sc_161 := sm_161 hO
  have c162 : se_Met ty se_tt (rw_J ty) kx zs sc_162 := sm_162 hO
  have c163 : se_Met ty se_tt (rw_J ty) kx zs sc_163 := sm_163 hO
  have c164 : se_Met ty se_tt (rw_J ty) kx zs sc_164 := sm_164 hO
  have c165 : se_Met ty se_tt (rw_J ty) kx zs sc_165 := sm_165 hO
  have c166 : se_Met ty se_tt (rw_J ty) kx zs sc_166 := sm_166 hO
  have c167 : se_Met ty se_tt (rw_J ty) kx zs sc_167 := sm_167 hO
  have c172 : se_Met ty se_tt (rw_J ty) kx zs sc_172 := sm_172 hO
  have c173 : se_Met ty se_tt (rw_J ty) kx zs sc_173 := sm_173 hO
  have c174 : se_Met ty se_tt (rw_J ty) kx zs sc_174 := sm_174 hO
  have c175 : se_Met ty se_tt (rw_J ty) kx zs sc_175 := sm_175 hO
  have c176 : se_Met ty se_tt (rw_J ty) kx zs sc_176 := sm_176 hO c172 c173 c174 c175
  have c177 : se_Met ty se_tt (rw_J ty) kx zs sc_177 := sm_177 hO
  have c179 : se_Met ty se_tt (rw_J ty) kx zs sc_179 := sm_179 hO
  have c180 : se_Met ty se_tt (rw_J ty) kx zs sc_180 := sm_180 hO
  have c181 : se_Met ty se_tt (rw_J ty) kx zs sc_181 := sm_181 hO c180
  have c182 : se_Met ty se_tt (rw_J ty) kx zs sc_182 := sm_182 hO
  have c183 : se_Met ty se_tt (rw_J ty) kx zs sc_183 := sm_183 hO
  have c184 : se_Met ty se_tt (rw_J ty) kx zs sc_184 := sm_184 hO h1h c180 c181 c182 c183
  have c185 : se_Met ty se_tt (rw_J ty) kx zs sc_185 := sm_185 hO
  have c186 : se_Met ty se_tt (rw_J ty) kx zs sc_186 := sm_186 hO c182 c183
  have c187 : se_Met ty se_tt (rw_J ty) kx zs sc_187 := sm_187 hO
  have c188 : se_Met ty se_tt (rw_J ty) kx zs sc_188 := sm_188 hO
  have c189 : se_Met ty se_tt (rw_J ty) kx zs sc_189 := sm_189 hO c182 c183
  have c190 : se_Met ty se_tt (rw_J ty) kx zs sc_190 := sm_190 hO
  have c191 : se_Met ty se_tt (rw_J ty) kx zs sc_191 := sm_191 hO c190
  have c192 : se_Met ty se_tt (rw_J ty) kx zs sc_192 := sm_192 hO h1h c182 c183
  have c193 : se_Met ty se_tt (rw_J ty) kx zs sc_193 := sm_193 hO c192
  have c194 : se_Met ty se_tt (rw_J ty) kx zs sc_194 := sm_194 hO c182 c183
  have c195 : se_Met ty se_tt (rw_J ty) kx zs sc_195 := sm_195 hO
  have c196 : se_Met ty se_tt (rw_J ty) kx zs sc_196 := sm_196 hO
  have c197 : se_Met ty se_tt (rw_J ty) kx zs sc_197 := sm_197 hO
  have c198 : se_Met ty se_tt (rw_J ty) kx zs sc_198 := sm_198 hO c182 c183 c195 c196 c197
  have c199 : se_Met ty se_tt (rw_J ty) kx zs sc_199 := sm_199 hO c181
  have c200 : se_Met ty se_tt (rw_J ty) kx zs sc_200 := sm_200 hO
  have c201 : se_Met ty se_tt (rw_J ty) kx zs sc_201 := sm_201 hO c183 c200
  have c202 : se_Met ty se_tt (rw_J ty) kx zs sc_202 := sm_202 hO c182 c199 c201
  have c203 : se_Met ty se_tt (rw_J ty) kx zs sc_203 := sm_203 hO c201
  have c204 : se_Met ty se_tt (rw_J ty) kx zs sc_204 := sm_204 hO c182 c199 c203
  have c205 : se_Met ty se_tt (rw_J ty) kx zs sc_205 := sm_205 hO c203
  have c206 : se_Met ty se_tt (rw_J ty) kx zs sc_206 := sm_206 hO c182 c199 c205
  have c207 : se_Met ty se_tt (rw_J ty) kx zs sc_207 := sm_207 hO
  have c208 : se_Met ty se_tt (rw_J ty) kx zs sc_208 := sm_208 hO
  have c209 : se_Met ty se_tt (rw_J ty) kx zs sc_209 := sm_209 hO c182 c183 c197 c199 c205
  have c210 : se_Met ty se_tt (rw_J ty) kx zs sc_210 := sm_210 hO
  have c211 : se_Met ty se_tt (rw_J ty) kx zs sc_211 := sm_211 hO c180 c210
  have c212 : se_Met ty se_tt (rw_J ty) kx zs sc_212 := sm_212 hO c197
  have c213 : se_Met ty se_tt (rw_J ty) kx zs sc_213 := sm_213 hO c182 c183 c210 c212
  have c214 : se_Met ty se_tt (rw_J ty) kx zs sc_214 := sm_214 hO
  have c215 : se_Met ty se_tt (rw_J ty) kx zs sc_215 := sm_215 hO h1h c182 c183 c197 c212
  have c216 : se_Met ty se_tt (rw_J ty) kx zs sc_216 := sm_216 hO c215
  have c217 : se_Met ty se_tt (rw_J ty) kx zs sc_217 := sm_217 hO
  have c218 : se_Met ty se_tt (rw_J ty) kx zs sc_218 := sm_218 hO c217
  have c219 : se_Met ty se_tt (rw_J ty) kx zs sc_219 := sm_219 hO c209 c211 c213 c214 c216 c218
  have c220 : se_Met ty se_tt (rw_J ty) kx zs sc_220 := sm_220 hO c209 c211 c213 c214 c216 c218
  have c221 : se_Met ty se_tt (rw_J ty) kx zs sc_221 := sm_221 hO
  have c222 : se_Met ty se_tt (rw_J ty) kx zs sc_222 := sm_222 hO
  have c223 : se_Met ty se_tt (rw_J ty) kx zs sc_223 := sm_223 hO c182 c183 c221 c222
  have c224 : se_Met ty se_tt (rw_J ty) kx zs sc_224 := sm_224 hO
  have c229 : se_Met ty se_tt (rw_J ty) kx zs sc_229 := sm_229 hO c182 c183 c197
  have c230 : se_Met ty se_tt (rw_J ty) kx zs sc_230 := sm_230 hO
  have c231 : se_Met ty se_tt (rw_J ty) kx zs sc_231 := sm_231 hO c182 c183 c230
  have c232 : se_Met ty se_tt (rw_J ty) kx zs sc_232 := sm_232 hO c221 c222
  have c233 : se_Met ty se_tt (rw_J ty) kx zs sc_233 := sm_233 hO c190
  have c234 : se_Met ty se_tt (rw_J ty) kx zs sc_234 := sm_234 hO h4h c182 c199 c203 c232 c233
  have c235 : se_Met ty se_tt (rw_J ty) kx zs sc_235 := sm_235 hO c182 c183 c192 c197 c230 c234
  have c236 : se_Met ty se_tt (rw_J ty) kx zs sc_236 := sm_236 hO c182 c183 c230 c234
  have c237 : se_Met ty se_tt (rw_J ty) kx zs sc_237 := sm_237 hO h4h c182 c183 c230 c232 c233
  have c238 : se_Met ty se_tt (rw_J ty) kx zs sc_238 := sm_238 hO h4h c182 c183 c190 c230 c232
  have c239 : se_Met ty se_tt (rw_J ty) kx zs sc_239 := sm_239 hO
  have c240 : se_Met ty se_tt (rw_J ty) kx zs sc_240 := sm_240 hO c182 c183 c199 c205 c239
  have c241 : se_Met ty se_tt (rw_J ty) kx zs sc_241 := sm_241 hO c205
  have c242 : se_Met ty se_tt (rw_J ty) kx zs sc_242 := sm_242 hO c182 c199 c239 c241
  have c243 : se_Met ty se_tt (rw_J ty) kx zs sc_243 := sm_243 hO c182 c199 c203 c239
  have c244 : se_Met ty se_tt (rw_J ty) kx zs sc_244 := sm_244 hO
  have c245 : se_Met ty se_tt (rw_J ty) kx zs sc_245 := sm_245 hO
  have c246 : se_Met ty se_tt (rw_J ty) kx zs sc_246 := sm_246 hO c182 c183 c217 c244 c245
  have c247 : se_Met ty se_tt (rw_J ty) kx zs sc_247 := sm_247 hO c182 c183 c217 c244 c245
  have c248 : se_Met ty se_tt (rw_J ty) kx zs sc_248 := sm_248 hO
  have c249 : se_Met ty se_tt (rw_J ty) kx zs sc_249 := sm_249 hO
  have c250 : se_Met ty se_tt (rw_J ty) kx zs sc_250 := sm_250 hO
  have c251 : se_Met ty se_tt (rw_J ty) kx zs sc_251 := sm_251 hO c182 c239
  have tk : se_Met ty se_tt (rw_J ty) kx zs sc_tk := sm_tk hO c119 c158 c160 c162 c164 c166
  have tl : se_Met ty se_tt (rw_J ty) kx zs sc_tl := sm_tl hO c120 c159 c161 c163 c165 c167
  have q0 : se_Met ty se_tt (rw_J ty) kx zs sc_q0 := sm_q0 hO
  have w0 : se_Met ty se_tt (rw_J ty) kx zs sc_w0 := sm_w0 hO
  have q1 : se_Met ty se_tt (rw_J ty) kx zs sc_q1 := sm_q1 hO
  have w1 : se_Met ty se_tt (rw_J ty) kx zs sc_w1 := sm_w1 hO
  have q2 : se_Met ty se_tt (rw_J ty) kx zs sc_q2 := sm_q2 hO
  have w2 : se_Met ty se_tt (rw_J ty) kx zs sc_w2 := sm_w2 hO
  have q3 : se_Met ty se_tt (rw_J ty) kx zs sc_q3 := sm_q3 hO
  have w3 : se_Met ty se_tt (rw_J ty) kx zs sc_w3 := sm_w3 hO
  have q4 : se_Met ty se_tt (rw_J ty) kx zs sc_q4 := sm_q4 hO
  have w4 : se_Met ty se_tt (rw_J ty) kx zs sc_w4 := sm_w4 hO
  have q5 : se_Met ty se_tt (rw_J ty) kx zs sc_q5 := sm_q5 hO
  have w5 : se_Met ty se_tt (rw_J ty) kx zs sc_w5 := sm_w5 hO
  have q6 : se_Met ty se_tt (rw_J ty) kx zs sc_q6 := sm_q6 hO
  have w6 : se_Met ty se_tt (rw_J ty) kx zs sc_w6 := sm_w6 hO
  have q7 : se_Met ty se_tt (rw_J ty) kx zs sc_q7 := sm_q7 hO
  have w7 : se_Met ty se_tt (rw_J ty) kx zs sc_w7 := sm_w7 hO
  have q8 : se_Met ty se_tt (rw_J ty) kx zs sc_q8 := sm_q8 hO
  have w8 : se_Met ty se_tt (rw_J ty) kx zs sc_w8 := sm_w8 hO
  have q9 : se_Met ty se_tt (rw_J ty) kx zs sc_q9 := sm_q9 hO
  have w9 : se_Met ty se_tt (rw_J ty) kx zs sc_w9 := sm_w9 hO
  have q10 : se_Met ty se_tt (rw_J ty) kx zs sc_q10 := sm_q10 hO tk
  have i3 : se_Met ty se_tt (rw_J ty) kx zs sc_i3 := sm_i3 hO
  have q11 : se_Met ty se_tt (rw_J ty) kx zs sc_q11 := sm_q11 hO
  have w11 : se_Met ty se_tt (rw_J ty) kx zs sc_w11 := sm_w11 hO
  have q12 : se_Met ty se_tt (rw_J ty) kx zs sc_q12 := sm_q12 hO tl
  have r3 : se_Met ty se_tt (rw_J ty) kx zs sc_r3 := sm_r3 hO
  intro c hc
  unfold la_C at hc
  rcases List.mem_cons.mp hc with rfl | hc
  · exact ⟨q0, by decide⟩
  rcases List.mem_cons.mp hc with rfl | hc
  · exact ⟨w0, by decide⟩
  rcases List.mem_cons.mp hc with rfl | hc
  · exact ⟨q1, by decide⟩
  rcases List.mem_cons.mp hc with rfl | hc
  · exact ⟨w1, by decide⟩
  rcases List.mem_cons.mp hc with rfl | hc
  · exact ⟨q2, by decide⟩
  rcases List.mem_cons.mp hc with rfl | hc
  · exact ⟨w2, by decide⟩
  rcases List.mem_cons.mp hc with rfl | hc
  · exact ⟨q3, by decide⟩
  rcases List.mem_cons.mp hc with rfl | hc
  · exact ⟨w3, by decide⟩
  rcases List.mem_cons.mp hc with rfl | hc
  · exact ⟨q4, by decide⟩
  rcases List.mem_cons.mp hc with rfl | hc
  · exact ⟨w4, by decide⟩
  rcases List.mem_cons.mp hc with rfl | hc
  · exact ⟨q5, by decide⟩
  rcases List.mem_cons.mp hc with rfl | hc
  · exact ⟨w5, by decide⟩
  rcases List.mem_cons.mp hc with rfl | hc
  · exact ⟨q6, by decide⟩
  rcases List.mem_cons.mp hc with rfl | hc
  · exact ⟨w6, by decide⟩
  rcases List.mem_cons.mp hc with rfl | hc
  · exact ⟨q7, by decide⟩
  rcases List.mem_cons.mp hc with rfl | hc
  · exact ⟨w7, by decide⟩
  rcases List.mem_cons.mp hc with rfl | hc
  · exact ⟨q8, by decide⟩
  rcases List.mem_cons.mp hc with rfl | hc
  · exact ⟨w8, by decide⟩
  rcases List.mem_cons.mp hc with rfl | hc
  · exact ⟨q9, by decide⟩
  rcases List.mem_cons.mp hc with rfl | hc
  · exact ⟨w9, by decide⟩
  rcases List.mem_cons.mp hc with rfl | hc
  · exact ⟨q10, by decide⟩
  rcases List.mem_cons.mp hc with rfl | hc
  · exact ⟨i3, by decide⟩
  rcases List.mem_cons.mp hc with rfl | hc
  · exact ⟨q11, by decide⟩
  rcases List.mem_cons.mp hc with rfl | hc
  · exact ⟨w11, by decide⟩
  rcases List.mem_cons.mp hc with rfl | hc
  · exact ⟨q12, by decide⟩
  rcases List.mem_cons.mp hc with rfl | hc
  · exact ⟨r3, by decide⟩
  rcases List.mem_cons.mp hc with rfl | hc
  · exact ⟨c0, by decide⟩
  rcases List.mem_cons.mp hc with rfl | hc
  · exact ⟨c3, by decide⟩
  rcases List.mem_cons.mp hc with rfl | hc
  · exact ⟨c7, by decide⟩
  rcases List.mem_cons.mp hc with rfl | hc
  · exact ⟨c8, by decide⟩
  rcases List.mem_cons.mp hc with rfl | hc
  · exact ⟨c9, by decide⟩
  rcases List.mem_cons.mp hc with rfl | hc
  · exact ⟨c10, by decide⟩
  rcases List.mem_cons.mp hc with rfl | hc
  · exact ⟨c11, by decide⟩
  rcases List.mem_cons.mp hc with rfl | hc
  · exact ⟨c12, by decide⟩
  rcases List.mem_cons.mp hc with rfl | hc
  · exact ⟨c14, by decide⟩
  rcases List.mem_cons.mp hc with rfl | hc
  · exact ⟨c19, by decide⟩
  rcases List.mem_cons.mp hc with rfl | hc
  · exact ⟨c36, by decide⟩
  rcases List.mem_cons.mp hc with rfl | hc
  · exact ⟨c37, by decide⟩
  rcases List.mem_cons.mp hc with rfl | hc
  · exact ⟨c38, by decide⟩
  rcases List.mem_cons.mp hc with rfl | hc
  · exact ⟨c39, by decide⟩
  rcases List.mem_cons.mp hc with rfl | hc
  · exact ⟨c40, by decide⟩
  rcases List.mem_cons.mp hc with rfl | hc
  · exact ⟨c44, by decide⟩
  rcases List.mem_cons.mp hc with rfl | hc
  · exact ⟨c55, by decide⟩
  rcases List.mem_cons.mp hc with rfl | hc
  · exact ⟨c56, by decide⟩
  rcases List.mem_cons.mp hc with rfl | hc
  · exact ⟨c58, by decide⟩
  rcases List.mem_cons.mp hc with rfl | hc
  · exact ⟨c60, by decide⟩
  rcases List.mem_cons.mp hc with rfl | hc
  · exact ⟨c121, by decide⟩
  rcases List.mem_cons.mp hc with rfl | hc
  · exact ⟨c122, by decide⟩
  rcases List.mem_cons.mp hc with rfl | hc
  · exact ⟨c123, by decide⟩
  rcases List.mem_cons.mp hc with rfl | hc
  · exact ⟨c124, by decide⟩
  rcases List.mem_cons.mp hc with rfl | hc
  · exact ⟨c125, by decide⟩
  rcases List.mem_cons.mp hc with rfl | hc
  · exact ⟨c126, by decide⟩
  rcases List.mem_cons.mp hc with rfl | hc
  · exact ⟨c128, by decide⟩
  rcases List.mem_cons.mp hc with rfl | hc
  · exact ⟨c129, by decide⟩
  rcases List.mem_cons.mp hc with rfl | hc
  · exact ⟨c136, by decide⟩
  rcases List.mem_cons.mp hc with rfl | hc
  · exact ⟨c139, by decide⟩
  rcases List.mem_cons.mp hc with rfl | hc
  · exact ⟨c144, by decide⟩
  rcases List.mem_cons.mp hc with rfl | hc
  · exact ⟨c148, by decide⟩
  rcases List.mem_cons.mp hc with rfl | hc
  · exact ⟨c150, by decide⟩
  rcases List.mem_cons.mp hc with rfl | hc
  · exact ⟨c155, by decide⟩
  rcases List.mem_cons.mp hc with rfl | hc
  · exact ⟨c156, by decide⟩
  rcases List.mem_cons.mp hc with rfl | hc
  · exact ⟨c157, by decide⟩
  rcases List.mem_cons.mp hc with rfl | hc
  · exact ⟨c176, by decide⟩
  rcases List.mem_cons.mp hc with rfl | hc
  · exact ⟨c177, by decide⟩
  rcases List.mem_cons.mp hc with rfl | hc
  · exact ⟨c179, by decide⟩
  rcases List.mem_cons.mp hc with rfl | hc
  · exact ⟨c184, by decide⟩
  rcases List.mem_cons.mp hc with rfl | hc
  · exact ⟨c185, by decide⟩
  rcases List.mem_cons.mp hc with rfl | hc
  · exact ⟨c186, by decide⟩
  rcases List.mem_cons.mp hc with rfl | hc
  · exact ⟨c187, by decide⟩
  rcases List.mem_cons.mp hc with rfl | hc
  · exact ⟨c188, by decide⟩
  rcases List.mem_cons.mp hc with rfl | hc
  · exact ⟨c189, by decide⟩
  rcases List.mem_cons.mp hc with rfl | hc
  · exact ⟨c191, by decide⟩
  rcases List.mem_cons.mp hc with rfl | hc
  · exact ⟨c193, by decide⟩
  rcases List.mem_cons.mp hc with rfl | hc
  · exact ⟨c194, by decide⟩
  rcases List.mem_cons.mp hc with rfl | hc
  · exact ⟨c198, by decide⟩
  rcases List.mem_cons.mp hc with rfl | hc
  · exact ⟨c202, by decide⟩
  rcases List.mem_cons.mp hc with rfl | hc
  · exact ⟨c204, by decide⟩
  rcases List.mem_cons.mp hc with rfl | hc
  · exact ⟨c206, by decide⟩
  rcases List.mem_cons.mp hc with rfl | hc
  · exact ⟨c207, by decide⟩
  rcases List.mem_cons.mp hc with rfl | hc
  · exact ⟨c208, by decide⟩
  rcases List.mem_cons.mp hc with rfl | hc
  · exact ⟨c219, by decide⟩
  rcases List.mem_cons.mp hc with rfl | hc
  · exact ⟨c220, by decide⟩
  rcases List.mem_cons.mp hc with rfl | hc
  · exact ⟨c223, by decide⟩
  rcases List.mem_cons.mp hc with rfl | hc
  · exact ⟨c224, by decide⟩
  rcases List.mem_cons.mp hc with rfl | hc
  · exact ⟨h2h, by decide⟩
  rcases List.mem_cons.mp hc with rfl | hc
  · exact ⟨c229, by decide⟩
  rcases List.mem_cons.mp hc with rfl | hc
  · exact ⟨c231, by decide⟩
  rcases List.mem_cons.mp hc with rfl | hc
  · exact ⟨c235, by decide⟩
  rcases List.mem_cons.mp hc with rfl | hc
  · exact ⟨c236, by decide⟩
  rcases List.mem_cons.mp hc with rfl | hc
  · exact ⟨c237, by decide⟩
  rcases List.mem_cons.mp hc with rfl | hc
  · exact ⟨c238, by decide⟩
  rcases List.mem_cons.mp hc with rfl | hc
  · exact ⟨c240, by decide⟩
  rcases List.mem_cons.mp hc with rfl | hc
  · exact ⟨c242, by decide⟩
  rcases List.mem_cons.mp hc with rfl | hc
  · exact ⟨c243, by decide⟩
  rcases List.mem_cons.mp hc with rfl | hc
  · exact ⟨c246, by decide⟩
  rcases List.mem_cons.mp hc with rfl | hc
  · exact ⟨c247, by decide⟩
  rcases List.mem_cons.mp hc with rfl | hc
  · exact ⟨c248, by decide⟩
  rcases List.mem_cons.mp hc with rfl | hc
  · exact ⟨c249, by decide⟩
  rcases List.mem_cons.mp hc with rfl | hc
  · exact ⟨c250, by decide⟩
  rcases List.mem_cons.mp hc with rfl | hc
  · exact ⟨c251, by decide⟩
  exact absurd hc List.not_mem_nil
def la_pk : List se_K := [(90, 0, 0), (91, 0, 0), (89, 0, 0), (117, 0, 0), (58, 0, 0), (105, 0, 0)]
def la_R0 : la_R := ([((1, 0, 0), (0, 0, 0), (1, 2, 0)), ((1, 0, 0), (0, 0, 1), (1, 3, 0)), ((1, 1, 0), (0, 0, 0), (1, 4, 0)), ((1, 1, 0), (0, 0, 1), (1, 5, 0))], [((0, 0, 10), ((1, 2, 0), (0, 0, 2)), ((1, 4, 0), (0, 0, 0))), ((0, 0, 10), ((1, 3, 0), (0, 0, 2)), ((1, 5, 0), (0, 0, 0))), ((0, 0, 1), ((1, 0, 0), (0, 0, 2)), ((1, 1, 0), (0, 0, 2)))])
/-- a context: kinds of the relation's values, of the script's ints; facts between them -/
abbrev la_cx : Type := List se_K × List se_K × List (Jvm.ClassFile.Cond × Nat × Nat)
def la_cxs_any : List la_cx := [([(0, 0, 10), (0, 0, 10), (0, 0, 1)], [(0, (-2147483648), 2147483647), (0, (-2147483648), 2147483647), (0, (-2147483648), 2147483647), (0, (-2147483648), 2147483647), (0, (-2147483648), 2147483647)], [])]
def la_cxs_raft : List la_cx := [([(0, 0, 10), (0, 0, 10), (0, 0, 1)], [(0, (-2147483648), (-1)), (0, (-2147483648), 2147483647), (0, (-2147483648), 2147483647), (0, (-2147483648), 2147483647), (0, (-2147483648), 2147483647)], []), ([(0, 0, 10), (0, 0, 10), (0, 0, 1)], [(0, 0, 5), (0, (-2147483648), (-1)), (0, (-2147483648), 2147483647), (0, (-2147483648), 2147483647), (0, (-2147483648), 2147483647)], []), ([(0, 0, 10), (0, 0, 10), (0, 0, 1)], [(0, 0, 5), (0, 0, 35), (0, (-2147483648), 0), (0, (-2147483648), 2147483647), (0, (-2147483648), 2147483647)], []), ([(0, 0, 10), (0, 0, 10), (0, 0, 1)], [(0, 0, 5), (0, 0, 35), (0, 1, 99), (0, (-2147483648), (-1)), (0, (-2147483648), 2147483647)], []), ([(0, 0, 9), (0, 0, 10), (0, 0, 1)], [(0, 0, 5), (0, 0, 35), (0, 1, 99), (0, 0, 99), (0, (-2147483648), 2147483647)], []), ([(0, 10, 10), (0, 0, 10), (0, 0, 1)], [(0, 0, 5), (0, 0, 35), (0, 1, 99), (0, 0, 99), (0, (-2147483648), 2147483647)], []), ([(0, 0, 10), (0, 0, 10), (0, 0, 1)], [(0, 0, 5), (0, 0, 35), (0, 1, 99), (0, 100, 2147483647), (0, (-2147483648), 2147483647)], []), ([(0, 0, 10), (0, 0, 10), (0, 0, 1)], [(0, 0, 5), (0, 0, 35), (0, 100, 2147483647), (0, (-2147483648), 2147483647), (0, (-2147483648), 2147483647)], []), ([(0, 0, 10), (0, 0, 10), (0, 0, 1)], [(0, 0, 5), (0, 36, 2147483647), (0, (-2147483648), 2147483647), (0, (-2147483648), 2147483647), (0, (-2147483648), 2147483647)], []), ([(0, 0, 10), (0, 0, 10), (0, 0, 1)], [(0, 6, 2147483647), (0, (-2147483648), 2147483647), (0, (-2147483648), 2147483647), (0, (-2147483648), 2147483647), (0, (-2147483648), 2147483647)], [])]
def la_cxs_image : List la_cx := [([(0, 0, 10), (0, 0, 10), (0, 0, 1)], [(0, (-2147483648), 2147483647), (0, (-2147483648), 2147483647), (0, (-2147483648), 2147483647), (0, (-2147483648), 2147483647), (0, (-2147483648), 2147483647)], [])]
def la_cxs_restore : List la_cx := [([(0, 0, 10), (0, 0, 10), (0, 0, 0)], [(0, (-2147483648), 2147483647), (0, (-2147483648), 2147483647), (0, (-2147483648), 2147483647), (0, (-2147483648), 2147483647), (0, (-2147483648), 2147483647)], []), ([(0, 0, 10), (0, 0, 10), (0, 1, 1)], [(0, (-2147483648), 2147483647), (0, (-2147483648), 2147483647), (0, (-2147483648), 2147483647), (0, (-2147483648), 2147483647), (0, (-2147483648), 2147483647)], [])]
def la_cxl (n : Nat) : List la_cx := match n with
  | 0 => la_cxs_any
  | 1 => la_cxs_raft
  | 2 => la_cxs_image
  | 3 => la_cxs_restore
  | _ => []
def la_ar : List (Nat × Nat) := [(208, 0), (251, 1), (304, 0), (337, 0), (370, 0), (429, 0), (498, 0), (551, 0), (584, 0), (617, 0), (650, 0), (713, 0), (736, 0), (769, 0), (802, 0), (815, 0), (838, 0), (871, 0), (904, 0), (937, 0), (960, 0), (1023, 0), (1046, 0), (1079, 0), (1102, 0), (1135, 0), (1168, 0), (1191, 0), (1214, 0), (1247, 0), (1280, 0), (1329, 0), (1372, 0), (1405, 0), (1438, 0), (1481, 0), (1524, 0), (1587, 2), (1600, 3), (1613, 0)]
def la_arms : List (Nat × List la_cx) := la_ar.map (fun a => (a.1, la_cxl a.2))
def la_cds (c : la_cx) : List se_D := (la_pk ++ (c.1 ++ c.2.1)).map la_dk
def la_cP (c : la_cx) : se_P := c.2.2.map (fun e => (e.1, (1, 9 + e.2.1, 0), (1, 6 + e.2.2, 0)))
def la_np : Nat := 6
def la_nR : Nat := 3
def la_g : Nat := 9
def la_some (r : se_R) : Bool := match r with
  | some _ => true
  | none => false
set_option maxRecDepth 100000 in
theorem la_armc : la_arms.all (fun p => p.2.all (fun c => (Nat.beq c.1.length 3 && Nat.beq c.2.1.length 5) && la_some (la_go la_C la_R0 9 200 (sx_c330.dropWhile (fun e => !(Nat.beq e.1 p.1))) (la_cds c) (la_M0 6 la_R0) (la_cP c) []))) = true := by decide +kernel
theorem la_wf0 : la_wf 6 la_R0 = true := by decide +kernel
def la_in (k : se_K) (x : Int32) : Prop := k.1 = 0 ∧ k.2.1 ≤ x.toInt ∧ x.toInt ≤ k.2.2
def la_al : List se_K → (Nat → Int32) → Prop
  | [], _ => True
  | k :: t, x => la_in k (x 0) ∧ la_al t (fun j => x (j + 1))
def la_pfx : List (Jvm.ClassFile.Cond × Nat × Nat) → (Nat → Int32) → (Nat → Int32) → Prop
  | [], _, _ => True
  | e :: t, x, v => mm_P2 e.1 (x e.2.1) (v e.2.2) = true ∧ la_pfx t x v
theorem la_p_lt {a b : Int32} (h : a.toInt < b.toInt) : mm_P2 .lt a b = true := decide_eq_true (Int32.lt_iff_toInt_lt.mpr h)
theorem la_p_ge {a b : Int32} (h : ¬ a.toInt < b.toInt) : mm_P2 .ge a b = true := decide_eq_true (Int32.le_iff_toInt_le.mpr (by omega))
def la_vk : List se_K := [(0, 0, 10), (0, 0, 10), (0, 0, 1)]
theorem la_cov_raft (x v : Nat → Int32) (hv : la_al la_vk v) : ∃ c ∈ la_cxs_raft, la_al c.1 v ∧ la_al c.2.1 x ∧ la_pfx c.2.2 x v := by
  have a0 := se_i32 (x 0)
  have a1 := se_i32 (x 1)
  have a2 := se_i32 (x 2)
  have a3 := se_i32 (x 3)
  have a4 := se_i32 (x 4)
  unfold se_lo se_hi at a0 a1 a2 a3 a4
  obtain ⟨⟨-, b0, c0⟩, ⟨-, b1, c1⟩, ⟨-, b2, c2⟩, -⟩ := hv
  have b0 : (0 : Int) ≤ (v 0).toInt := b0
  have c0 : (v 0).toInt ≤ (10 : Int) := c0
  have b1 : (0 : Int) ≤ (v 1).toInt := b1
  have c1 : (v 1).toInt ≤ (10 : Int) := c1
  have b2 : (0 : Int) ≤ (v 2).toInt := b2
  have c2 : (v 2).toInt ≤ (1 : Int) := c2
  by_cases h2 : (x 0).toInt ≤ 5
  · skip
    by_cases h4 : (x 0).toInt ≤ -1
    · skip
      exact ⟨_, List.mem_of_getElem? (i := 0) rfl, ⟨⟨rfl, by show (0 : Int) ≤ (v 0).toInt; omega, by show (v 0).toInt ≤ (10 : Int); omega⟩, ⟨rfl, by show (0 : Int) ≤ (v 1).toInt; omega, by show (v 1).toInt ≤ (10 : Int); omega⟩, ⟨rfl, by show (0 : Int) ≤ (v 2).toInt; omega, by show (v 2).toInt ≤ (1 : Int); omega⟩, trivial⟩, ⟨⟨rfl, by show (-2147483648 : Int) ≤ (x 0).toInt; omega, by show (x 0).toInt ≤ (-1 : Int); omega⟩, ⟨rfl, by show (-2147483648 : Int) ≤ (x 1).toInt; omega, by show (x 1).toInt ≤ (2147483647 : Int); omega⟩, ⟨rfl, by show (-2147483648 : Int) ≤ (x 2).toInt; omega, by show (x 2).toInt ≤ (2147483647 : Int); omega⟩, ⟨rfl, by show (-2147483648 : Int) ≤ (x 3).toInt; omega, by show (x 3).toInt ≤ (2147483647 : Int); omega⟩, ⟨rfl, by show (-2147483648 : Int) ≤ (x 4).toInt; omega, by show (x 4).toInt ≤ (2147483647 : Int); omega⟩, trivial⟩, trivial⟩
    · skip
      by_cases h6 : (x 1).toInt ≤ 35
      · skip
        by_cases h8 : (x 1).toInt ≤ -1
        · skip
          exact ⟨_, List.mem_of_getElem? (i := 1) rfl, ⟨⟨rfl, by show (0 : Int) ≤ (v 0).toInt; omega, by show (v 0).toInt ≤ (10 : Int); omega⟩, ⟨rfl, by show (0 : Int) ≤ (v 1).toInt; omega, by show (v 1).toInt ≤ (10 : Int); omega⟩, ⟨rfl, by show (0 : Int) ≤ (v 2).toInt; omega, by show (v 2).toInt ≤ (1 : Int); omega⟩, trivial⟩, ⟨⟨rfl, by show (0 : Int) ≤ (x 0).toInt; omega, by show (x 0).toInt ≤ (5 : Int); omega⟩, ⟨rfl, by show (-2147483648 : Int) ≤ (x 1).toInt; omega, by show (x 1).toInt ≤ (-1 : Int); omega⟩, ⟨rfl, by show (-2147483648 : Int) ≤ (x 2).toInt; omega, by show (x 2).toInt ≤ (2147483647 : Int); omega⟩, ⟨rfl, by show (-2147483648 : Int) ≤ (x 3).toInt; omega, by show (x 3).toInt ≤ (2147483647 : Int); omega⟩, ⟨rfl, by show (-2147483648 : Int) ≤ (x 4).toInt; omega, by show (x 4).toInt ≤ (2147483647 : Int); omega⟩, trivial⟩, trivial⟩
        · skip
          by_cases h10 : (x 2).toInt ≤ 99
          · skip
            by_cases h12 : (x 2).toInt ≤ 0
            · skip
              exact ⟨_, List.mem_of_getElem? (i := 2) rfl, ⟨⟨rfl, by show (0 : Int) ≤ (v 0).toInt; omega, by show (v 0).toInt ≤ (10 : Int); omega⟩, ⟨rfl, by show (0 : Int) ≤ (v 1).toInt; omega, by show (v 1).toInt ≤ (10 : Int); omega⟩, ⟨rfl, by show (0 : Int) ≤ (v 2).toInt; omega, by show (v 2).toInt ≤ (1 : Int); omega⟩, trivial⟩, ⟨⟨rfl, by show (0 : Int) ≤ (x 0).toInt; omega, by show (x 0).toInt ≤ (5 : Int); omega⟩, ⟨rfl, by show (0 : Int) ≤ (x 1).toInt; omega, by show (x 1).toInt ≤ (35 : Int); omega⟩, ⟨rfl, by show (-2147483648 : Int) ≤ (x 2).toInt; omega, by show (x 2).toInt ≤ (0 : Int); omega⟩, ⟨rfl, by show (-2147483648 : Int) ≤ (x 3).toInt; omega, by show (x 3).toInt ≤ (2147483647 : Int); omega⟩, ⟨rfl, by show (-2147483648 : Int) ≤ (x 4).toInt; omega, by show (x 4).toInt ≤ (2147483647 : Int); omega⟩, trivial⟩, trivial⟩
            · skip
              by_cases h14 : (x 3).toInt ≤ 99
              · skip
                by_cases h16 : (x 3).toInt ≤ -1
                · skip
                  exact ⟨_, List.mem_of_getElem? (i := 3) rfl, ⟨⟨rfl, by show (0 : Int) ≤ (v 0).toInt; omega, by show (v 0).toInt ≤ (10 : Int); omega⟩, ⟨rfl, by show (0 : Int) ≤ (v 1).toInt; omega, by show (v 1).toInt ≤ (10 : Int); omega⟩, ⟨rfl, by show (0 : Int) ≤ (v 2).toInt; omega, by show (v 2).toInt ≤ (1 : Int); omega⟩, trivial⟩, ⟨⟨rfl, by show (0 : Int) ≤ (x 0).toInt; omega, by show (x 0).toInt ≤ (5 : Int); omega⟩, ⟨rfl, by show (0 : Int) ≤ (x 1).toInt; omega, by show (x 1).toInt ≤ (35 : Int); omega⟩, ⟨rfl, by show (1 : Int) ≤ (x 2).toInt; omega, by show (x 2).toInt ≤ (99 : Int); omega⟩, ⟨rfl, by show (-2147483648 : Int) ≤ (x 3).toInt; omega, by show (x 3).toInt ≤ (-1 : Int); omega⟩, ⟨rfl, by show (-2147483648 : Int) ≤ (x 4).toInt; omega, by show (x 4).toInt ≤ (2147483647 : Int); omega⟩, trivial⟩, trivial⟩
                · skip
                  by_cases h18 : (v 0).toInt ≤ 9
                  · skip
                    exact ⟨_, List.mem_of_getElem? (i := 4) rfl, ⟨⟨rfl, by show (0 : Int) ≤ (v 0).toInt; omega, by show (v 0).toInt ≤ (9 : Int); omega⟩, ⟨rfl, by show (0 : Int) ≤ (v 1).toInt; omega, by show (v 1).toInt ≤ (10 : Int); omega⟩, ⟨rfl, by show (0 : Int) ≤ (v 2).toInt; omega, by show (v 2).toInt ≤ (1 : Int); omega⟩, trivial⟩, ⟨⟨rfl, by show (0 : Int) ≤ (x 0).toInt; omega, by show (x 0).toInt ≤ (5 : Int); omega⟩, ⟨rfl, by show (0 : Int) ≤ (x 1).toInt; omega, by show (x 1).toInt ≤ (35 : Int); omega⟩, ⟨rfl, by show (1 : Int) ≤ (x 2).toInt; omega, by show (x 2).toInt ≤ (99 : Int); omega⟩, ⟨rfl, by show (0 : Int) ≤ (x 3).toInt; omega, by show (x 3).toInt ≤ (99 : Int); omega⟩, ⟨rfl, by show (-2147483648 : Int) ≤ (x 4).toInt; omega, by show (x 4).toInt ≤ (2147483647 : Int); omega⟩, trivial⟩, trivial⟩
                  · skip
                    exact ⟨_, List.mem_of_getElem? (i := 5) rfl, ⟨⟨rfl, by show (10 : Int) ≤ (v 0).toInt; omega, by show (v 0).toInt ≤ (10 : Int); omega⟩, ⟨rfl, by show (0 : Int) ≤ (v 1).toInt; omega, by show (v 1).toInt ≤ (10 : Int); omega⟩, ⟨rfl, by show (0 : Int) ≤ (v 2).toInt; omega, by show (v 2).toInt ≤ (1 : Int); omega⟩, trivial⟩, ⟨⟨rfl, by show (0 : Int) ≤ (x 0).toInt; omega, by show (x 0).toInt ≤ (5 : Int); omega⟩, ⟨rfl, by show (0 : Int) ≤ (x 1).toInt; omega, by show (x 1).toInt ≤ (35 : Int); omega⟩, ⟨rfl, by show (1 : Int) ≤ (x 2).toInt; omega, by show (x 2).toInt ≤ (99 : Int); omega⟩, ⟨rfl, by show (0 : Int) ≤ (x 3).toInt; omega, by show (x 3).toInt ≤ (99 : Int); omega⟩, ⟨rfl, by show (-2147483648 : Int) ≤ (x 4).toInt; omega, by show (x 4).toInt ≤ (2147483647 : Int); omega⟩, trivial⟩, trivial⟩
              · skip
                exact ⟨_, List.mem_of_getElem? (i := 6) rfl, ⟨⟨rfl, by show (0 : Int) ≤ (v 0).toInt; omega, by show (v 0).toInt ≤ (10 : Int); omega⟩, ⟨rfl, by show (0 : Int) ≤ (v 1).toInt; omega, by show (v 1).toInt ≤ (10 : Int); omega⟩, ⟨rfl, by show (0 : Int) ≤ (v 2).toInt; omega, by show (v 2).toInt ≤ (1 : Int); omega⟩, trivial⟩, ⟨⟨rfl, by show (0 : Int) ≤ (x 0).toInt; omega, by show (x 0).toInt ≤ (5 : Int); omega⟩, ⟨rfl, by show (0 : Int) ≤ (x 1).toInt; omega, by show (x 1).toInt ≤ (35 : Int); omega⟩, ⟨rfl, by show (1 : Int) ≤ (x 2).toInt; omega, by show (x 2).toInt ≤ (99 : Int); omega⟩, ⟨rfl, by show (100 : Int) ≤ (x 3).toInt; omega, by show (x 3).toInt ≤ (2147483647 : Int); omega⟩, ⟨rfl, by show (-2147483648 : Int) ≤ (x 4).toInt; omega, by show (x 4).toInt ≤ (2147483647 : Int); omega⟩, trivial⟩, trivial⟩
          · skip
            exact ⟨_, List.mem_of_getElem? (i := 7) rfl, ⟨⟨rfl, by show (0 : Int) ≤ (v 0).toInt; omega, by show (v 0).toInt ≤ (10 : Int); omega⟩, ⟨rfl, by show (0 : Int) ≤ (v 1).toInt; omega, by show (v 1).toInt ≤ (10 : Int); omega⟩, ⟨rfl, by show (0 : Int) ≤ (v 2).toInt; omega, by show (v 2).toInt ≤ (1 : Int); omega⟩, trivial⟩, ⟨⟨rfl, by show (0 : Int) ≤ (x 0).toInt; omega, by show (x 0).toInt ≤ (5 : Int); omega⟩, ⟨rfl, by show (0 : Int) ≤ (x 1).toInt; omega, by show (x 1).toInt ≤ (35 : Int); omega⟩, ⟨rfl, by show (100 : Int) ≤ (x 2).toInt; omega, by show (x 2).toInt ≤ (2147483647 : Int); omega⟩, ⟨rfl, by show (-2147483648 : Int) ≤ (x 3).toInt; omega, by show (x 3).toInt ≤ (2147483647 : Int); omega⟩, ⟨rfl, by show (-2147483648 : Int) ≤ (x 4).toInt; omega, by show (x 4).toInt ≤ (2147483647 : Int); omega⟩, trivial⟩, trivial⟩
      · skip
        exact ⟨_, List.mem_of_getElem? (i := 8) rfl, ⟨⟨rfl, by show (0 : Int) ≤ (v 0).toInt; omega, by show (v 0).toInt ≤ (10 : Int); omega⟩, ⟨rfl, by show (0 : Int) ≤ (v 1).toInt; omega, by show (v 1).toInt ≤ (10 : Int); omega⟩, ⟨rfl, by show (0 : Int) ≤ (v 2).toInt; omega, by show (v 2).toInt ≤ (1 : Int); omega⟩, trivial⟩, ⟨⟨rfl, by show (0 : Int) ≤ (x 0).toInt; omega, by show (x 0).toInt ≤ (5 : Int); omega⟩, ⟨rfl, by show (36 : Int) ≤ (x 1).toInt; omega, by show (x 1).toInt ≤ (2147483647 : Int); omega⟩, ⟨rfl, by show (-2147483648 : Int) ≤ (x 2).toInt; omega, by show (x 2).toInt ≤ (2147483647 : Int); omega⟩, ⟨rfl, by show (-2147483648 : Int) ≤ (x 3).toInt; omega, by show (x 3).toInt ≤ (2147483647 : Int); omega⟩, ⟨rfl, by show (-2147483648 : Int) ≤ (x 4).toInt; omega, by show (x 4).toInt ≤ (2147483647 : Int); omega⟩, trivial⟩, trivial⟩
  · skip
    exact ⟨_, List.mem_of_getElem? (i := 9) rfl, ⟨⟨rfl, by show (0 : Int) ≤ (v 0).toInt; omega, by show (v 0).toInt ≤ (10 : Int); omega⟩, ⟨rfl, by show (0 : Int) ≤ (v 1).toInt; omega, by show (v 1).toInt ≤ (10 : Int); omega⟩, ⟨rfl, by show (0 : Int) ≤ (v 2).toInt; omega, by show (v 2).toInt ≤ (1 : Int); omega⟩, trivial⟩, ⟨⟨rfl, by show (6 : Int) ≤ (x 0).toInt; omega, by show (x 0).toInt ≤ (2147483647 : Int); omega⟩, ⟨rfl, by show (-2147483648 : Int) ≤ (x 1).toInt; omega, by show (x 1).toInt ≤ (2147483647 : Int); omega⟩, ⟨rfl, by show (-2147483648 : Int) ≤ (x 2).toInt; omega, by show (x 2).toInt ≤ (2147483647 : Int); omega⟩, ⟨rfl, by show (-2147483648 : Int) ≤ (x 3).toInt; omega, by show (x 3).toInt ≤ (2147483647 : Int); omega⟩, ⟨rfl, by show (-2147483648 : Int) ≤ (x 4).toInt; omega, by show (x 4).toInt ≤ (2147483647 : Int); omega⟩, trivial⟩, trivial⟩
theorem la_cov_image (x v : Nat → Int32) (hv : la_al la_vk v) : ∃ c ∈ la_cxs_image, la_al c.1 v ∧ la_al c.2.1 x ∧ la_pfx c.2.2 x v := by
  have a0 := se_i32 (x 0)
  have a1 := se_i32 (x 1)
  have a2 := se_i32 (x 2)
  have a3 := se_i32 (x 3)
  have a4 := se_i32 (x 4)
  unfold se_lo se_hi at a0 a1 a2 a3 a4
  obtain ⟨⟨-, b0, c0⟩, ⟨-, b1, c1⟩, ⟨-, b2, c2⟩, -⟩ := hv
  have b0 : (0 : Int) ≤ (v 0).toInt := b0
  have c0 : (v 0).toInt ≤ (10 : Int) := c0
  have b1 : (0 : Int) ≤ (v 1).toInt := b1
  have c1 : (v 1).toInt ≤ (10 : Int) := c1
  have b2 : (0 : Int) ≤ (v 2).toInt := b2
  have c2 : (v 2).toInt ≤ (1 : Int) := c2
  exact ⟨_, List.mem_of_getElem? (i := 0) rfl, ⟨⟨rfl, by show (0 : Int) ≤ (v 0).toInt; omega, by show (v 0).toInt ≤ (10 : Int); omega⟩, ⟨rfl, by show (0 : Int) ≤ (v 1).toInt; omega, by show (v 1).toInt ≤ (10 : Int); omega⟩, ⟨rfl, by show (0 : Int) ≤ (v 2).toInt; omega, by show (v 2).toInt ≤ (1 : Int); omega⟩, trivial⟩, ⟨⟨rfl, by show (-2147483648 : Int) ≤ (x 0).toInt; omega, by show (x 0).toInt ≤ (2147483647 : Int); omega⟩, ⟨rfl, by show (-2147483648 : Int) ≤ (x 1).toInt; omega, by show (x 1).toInt ≤ (2147483647 : Int); omega⟩, ⟨rfl, by show (-2147483648 : Int) ≤ (x 2).toInt; omega, by show (x 2).toInt ≤ (2147483647 : Int); omega⟩, ⟨rfl, by show (-2147483648 : Int) ≤ (x 3).toInt; omega, by show (x 3).toInt ≤ (2147483647 : Int); omega⟩, ⟨rfl, by show (-2147483648 : Int) ≤ (x 4).toInt; omega, by show (x 4).toInt ≤ (2147483647 : Int); omega⟩, trivial⟩, trivial⟩
theorem la_cov_restore (x v : Nat → Int32) (hv : la_al la_vk v) : ∃ c ∈ la_cxs_restore, la_al c.1 v ∧ la_al c.2.1 x ∧ la_pfx c.2.2 x v := by
  have a0 := se_i32 (x 0)
  have a1 := se_i32 (x 1)
  have a2 := se_i32 (x 2)
  have a3 := se_i32 (x 3)
  have a4 := se_i32 (x 4)
  unfold se_lo se_hi at a0 a1 a2 a3 a4
  obtain ⟨⟨-, b0, c0⟩, ⟨-, b1, c1⟩, ⟨-, b2, c2⟩, -⟩ := hv
  have b0 : (0 : Int) ≤ (v 0).toInt := b0
  have c0 : (v 0).toInt ≤ (10 : Int) := c0
  have b1 : (0 : Int) ≤ (v 1).toInt := b1
  have c1 : (v 1).toInt ≤ (10 : Int) := c1
  have b2 : (0 : Int) ≤ (v 2).toInt := b2
  have c2 : (v 2).toInt ≤ (1 : Int) := c2
  by_cases h2 : (v 2).toInt ≤ 0
  · skip
    exact ⟨_, List.mem_of_getElem? (i := 0) rfl, ⟨⟨rfl, by show (0 : Int) ≤ (v 0).toInt; omega, by show (v 0).toInt ≤ (10 : Int); omega⟩, ⟨rfl, by show (0 : Int) ≤ (v 1).toInt; omega, by show (v 1).toInt ≤ (10 : Int); omega⟩, ⟨rfl, by show (0 : Int) ≤ (v 2).toInt; omega, by show (v 2).toInt ≤ (0 : Int); omega⟩, trivial⟩, ⟨⟨rfl, by show (-2147483648 : Int) ≤ (x 0).toInt; omega, by show (x 0).toInt ≤ (2147483647 : Int); omega⟩, ⟨rfl, by show (-2147483648 : Int) ≤ (x 1).toInt; omega, by show (x 1).toInt ≤ (2147483647 : Int); omega⟩, ⟨rfl, by show (-2147483648 : Int) ≤ (x 2).toInt; omega, by show (x 2).toInt ≤ (2147483647 : Int); omega⟩, ⟨rfl, by show (-2147483648 : Int) ≤ (x 3).toInt; omega, by show (x 3).toInt ≤ (2147483647 : Int); omega⟩, ⟨rfl, by show (-2147483648 : Int) ≤ (x 4).toInt; omega, by show (x 4).toInt ≤ (2147483647 : Int); omega⟩, trivial⟩, trivial⟩
  · skip
    exact ⟨_, List.mem_of_getElem? (i := 1) rfl, ⟨⟨rfl, by show (0 : Int) ≤ (v 0).toInt; omega, by show (v 0).toInt ≤ (10 : Int); omega⟩, ⟨rfl, by show (0 : Int) ≤ (v 1).toInt; omega, by show (v 1).toInt ≤ (10 : Int); omega⟩, ⟨rfl, by show (1 : Int) ≤ (v 2).toInt; omega, by show (v 2).toInt ≤ (1 : Int); omega⟩, trivial⟩, ⟨⟨rfl, by show (-2147483648 : Int) ≤ (x 0).toInt; omega, by show (x 0).toInt ≤ (2147483647 : Int); omega⟩, ⟨rfl, by show (-2147483648 : Int) ≤ (x 1).toInt; omega, by show (x 1).toInt ≤ (2147483647 : Int); omega⟩, ⟨rfl, by show (-2147483648 : Int) ≤ (x 2).toInt; omega, by show (x 2).toInt ≤ (2147483647 : Int); omega⟩, ⟨rfl, by show (-2147483648 : Int) ≤ (x 3).toInt; omega, by show (x 3).toInt ≤ (2147483647 : Int); omega⟩, ⟨rfl, by show (-2147483648 : Int) ≤ (x 4).toInt; omega, by show (x 4).toInt ≤ (2147483647 : Int); omega⟩, trivial⟩, trivial⟩
theorem la_cov_any (x v : Nat → Int32) (hv : la_al la_vk v) : ∃ c ∈ la_cxs_any, la_al c.1 v ∧ la_al c.2.1 x ∧ la_pfx c.2.2 x v := by
  have a0 := se_i32 (x 0)
  have a1 := se_i32 (x 1)
  have a2 := se_i32 (x 2)
  have a3 := se_i32 (x 3)
  have a4 := se_i32 (x 4)
  unfold se_lo se_hi at a0 a1 a2 a3 a4
  obtain ⟨⟨-, b0, c0⟩, ⟨-, b1, c1⟩, ⟨-, b2, c2⟩, -⟩ := hv
  have b0 : (0 : Int) ≤ (v 0).toInt := b0
  have c0 : (v 0).toInt ≤ (10 : Int) := c0
  have b1 : (0 : Int) ≤ (v 1).toInt := b1
  have c1 : (v 1).toInt ≤ (10 : Int) := c1
  have b2 : (0 : Int) ≤ (v 2).toInt := b2
  have c2 : (v 2).toInt ≤ (1 : Int) := c2
  exact ⟨_, List.mem_of_getElem? (i := 0) rfl, ⟨⟨rfl, by show (0 : Int) ≤ (v 0).toInt; omega, by show (v 0).toInt ≤ (10 : Int); omega⟩, ⟨rfl, by show (0 : Int) ≤ (v 1).toInt; omega, by show (v 1).toInt ≤ (10 : Int); omega⟩, ⟨rfl, by show (0 : Int) ≤ (v 2).toInt; omega, by show (v 2).toInt ≤ (1 : Int); omega⟩, trivial⟩, ⟨⟨rfl, by show (-2147483648 : Int) ≤ (x 0).toInt; omega, by show (x 0).toInt ≤ (2147483647 : Int); omega⟩, ⟨rfl, by show (-2147483648 : Int) ≤ (x 1).toInt; omega, by show (x 1).toInt ≤ (2147483647 : Int); omega⟩, ⟨rfl, by show (-2147483648 : Int) ≤ (x 2).toInt; omega, by show (x 2).toInt ≤ (2147483647 : Int); omega⟩, ⟨rfl, by show (-2147483648 : Int) ≤ (x 3).toInt; omega, by show (x 3).toInt ≤ (2147483647 : Int); omega⟩, ⟨rfl, by show (-2147483648 : Int) ≤ (x 4).toInt; omega, by show (x 4).toInt ≤ (2147483647 : Int); omega⟩, trivial⟩, trivial⟩
theorem la_cov {p : Nat} {L : List la_cx} (h : (p, L) ∈ la_arms) (x v : Nat → Int32) (hv : la_al la_vk v) : ∃ c ∈ L, la_al c.1 v ∧ la_al c.2.1 x ∧ la_pfx c.2.2 x v := by
  obtain ⟨a, ha, e⟩ := List.mem_map.mp h
  cases e
  have h2 := Nat.blt_eq.mp (List.all_eq_true.mp (show la_ar.all (fun a => Nat.blt a.2 4) = true by decide +kernel) _ ha)
  generalize a.2 = k at h2
  match k, h2 with
  | 0, _ => exact la_cov_any x v hv
  | 1, _ => exact la_cov_raft x v hv
  | 2, _ => exact la_cov_image x v hv
  | 3, _ => exact la_cov_restore x v hv
  | k + 4, h2 => omega
def la_off : Array Int := #[175, 218, 271, 304, 337, 396, 465, 518, 551, 584, 617, 680, 703, 736, 769, 782, 805, 838, 871, 904, 927, 990, 1013, 1046, 1069, 1102, 1135, 1158, 1181, 1214, 1247, 1296, 1339, 1372, 1405, 1448, 1491, 1554, 1567, 1580]
def la_bad : Nat := 302
set_option maxRecDepth 100000 in
theorem hd_330_0 : decode (sx_fi 330).2.1 0 = .ok (.new 7, 3) := (sx_dec (y := 330) (full := sx_c330) rfl (e := (0, .new 7, 3, 4, 11, 1023, 1001)) (List.mem_of_getElem? (i := 0) rfl)).1
set_option maxRecDepth 100000 in
theorem hd_330_3 : decode (sx_fi 330).2.1 3 = .ok (.dup, 1) := (sx_dec (y := 330) (full := sx_c330) rfl (e := (3, .dup, 1, 0, 0, 0, 0)) (List.mem_of_getElem? (i := 1) rfl)).1
set_option maxRecDepth 100000 in
theorem hd_330_4 : decode (sx_fi 330).2.1 4 = .ok (.invokespecial 9, 3) := (sx_dec (y := 330) (full := sx_c330) rfl (e := (4, .invokespecial 9, 3, 2, 0, 0, 0)) (List.mem_of_getElem? (i := 2) rfl)).1
set_option maxRecDepth 100000 in
theorem hd_330_7 : decode (sx_fi 330).2.1 7 = .ok (.astore_n 1, 1) := (sx_dec (y := 330) (full := sx_c330) rfl (e := (7, .astore_n 1, 1, 0, 0, 0, 0)) (List.mem_of_getElem? (i := 3) rfl)).1
set_option maxRecDepth 100000 in
theorem hd_330_8 : decode (sx_fi 330).2.1 8 = .ok (.new 10, 3) := (sx_dec (y := 330) (full := sx_c330) rfl (e := (8, .new 10, 3, 4, 12, 6138, 1013)) (List.mem_of_getElem? (i := 4) rfl)).1
set_option maxRecDepth 100000 in
theorem hd_330_11 : decode (sx_fi 330).2.1 11 = .ok (.dup, 1) := (sx_dec (y := 330) (full := sx_c330) rfl (e := (11, .dup, 1, 0, 0, 0, 0)) (List.mem_of_getElem? (i := 5) rfl)).1
set_option maxRecDepth 100000 in
theorem hd_330_12 : decode (sx_fi 330).2.1 12 = .ok (.invokespecial 12, 3) := (sx_dec (y := 330) (full := sx_c330) rfl (e := (12, .invokespecial 12, 3, 2, 218, 0, 0)) (List.mem_of_getElem? (i := 6) rfl)).1
set_option maxRecDepth 100000 in
theorem hd_330_15 : decode (sx_fi 330).2.1 15 = .ok (.astore_n 2, 1) := (sx_dec (y := 330) (full := sx_c330) rfl (e := (15, .astore_n 2, 1, 0, 0, 0, 0)) (List.mem_of_getElem? (i := 7) rfl)).1
set_option maxRecDepth 100000 in
theorem hd_330_16 : decode (sx_fi 330).2.1 16 = .ok (.iconst 0, 1) := (sx_dec (y := 330) (full := sx_c330) rfl (e := (16, .iconst 0, 1, 0, 0, 0, 0)) (List.mem_of_getElem? (i := 8) rfl)).1
set_option maxRecDepth 100000 in
theorem hd_330_17 : decode (sx_fi 330).2.1 17 = .ok (.istore_n 3, 1) := (sx_dec (y := 330) (full := sx_c330) rfl (e := (17, .istore_n 3, 1, 0, 0, 0, 0)) (List.mem_of_getElem? (i := 9) rfl)).1
set_option maxRecDepth 100000 in
theorem hd_330_18 : decode (sx_fi 330).2.1 18 = .ok (.iload_n 3, 1) := (sx_dec (y := 330) (full := sx_c330) rfl (e := (18, .iload_n 3, 1, 0, 0, 0, 0)) (List.mem_of_getElem? (i := 10) rfl)).1
set_option maxRecDepth 100000 in
theorem hd_330_19 : decode (sx_fi 330).2.1 19 = .ok (.aload_n 0, 1) := (sx_dec (y := 330) (full := sx_c330) rfl (e := (19, .aload_n 0, 1, 0, 0, 0, 0)) (List.mem_of_getElem? (i := 11) rfl)).1
set_option maxRecDepth 100000 in
theorem hd_330_20 : decode (sx_fi 330).2.1 20 = .ok (.arraylength, 1) := (sx_dec (y := 330) (full := sx_c330) rfl (e := (20, .arraylength, 1, 0, 0, 0, 0)) (List.mem_of_getElem? (i := 12) rfl)).1
set_option maxRecDepth 100000 in
theorem hd_330_21 : decode (sx_fi 330).2.1 21 = .ok (.bipush 6, 2) := (sx_dec (y := 330) (full := sx_c330) rfl (e := (21, .bipush 6, 2, 0, 0, 0, 0)) (List.mem_of_getElem? (i := 13) rfl)).1
set_option maxRecDepth 100000 in
theorem hd_330_23 : decode (sx_fi 330).2.1 23 = .ok (.isub, 1) := (sx_dec (y := 330) (full := sx_c330) rfl (e := (23, .isub, 1, 0, 0, 0, 0)) (List.mem_of_getElem? (i := 14) rfl)).1
set_option maxRecDepth 100000 in
theorem hd_330_24 : decode (sx_fi 330).2.1 24 = .ok (.if_icmp .gt 1618, 3) := (sx_dec (y := 330) (full := sx_c330) rfl (e := (24, .if_icmp .gt 1618, 3, 0, 0, 0, 0)) (List.mem_of_getElem? (i := 15) rfl)).1
set_option maxRecDepth 100000 in
theorem hd_330_27 : decode (sx_fi 330).2.1 27 = .ok (.aload_n 0, 1) := (sx_dec (y := 330) (full := sx_c330) rfl (e := (27, .aload_n 0, 1, 0, 0, 0, 0)) (List.mem_of_getElem? (i := 16) rfl)).1
set_option maxRecDepth 100000 in
theorem hd_330_28 : decode (sx_fi 330).2.1 28 = .ok (.iload_n 3, 1) := (sx_dec (y := 330) (full := sx_c330) rfl (e := (28, .iload_n 3, 1, 0, 0, 0, 0)) (List.mem_of_getElem? (i := 17) rfl)).1
set_option maxRecDepth 100000 in
theorem hd_330_29 : decode (sx_fi 330).2.1 29 = .ok (.iaload, 1) := (sx_dec (y := 330) (full := sx_c330) rfl (e := (29, .iaload, 1, 0, 0, 0, 0)) (List.mem_of_getElem? (i := 18) rfl)).1
set_option maxRecDepth 100000 in
theorem hd_330_30 : decode (sx_fi 330).2.1 30 = .ok (.bipush 63, 2) := (sx_dec (y := 330) (full := sx_c330) rfl (e := (30, .bipush 63, 2, 0, 0, 0, 0)) (List.mem_of_getElem? (i := 19) rfl)).1
set_option maxRecDepth 100000 in
theorem hd_330_32 : decode (sx_fi 330).2.1 32 = .ok (.iand, 1) := (sx_dec (y := 330) (full := sx_c330) rfl (e := (32, .iand, 1, 0, 0, 0, 0)) (List.mem_of_getElem? (i := 20) rfl)).1
set_option maxRecDepth 100000 in
theorem hd_330_33 : decode (sx_fi 330).2.1 33 = .ok (.tableswitch 1603 0 39 #[175, 218, 271, 304, 337, 396, 465, 518, 551, 584, 617, 680, 703, 736, 769, 782, 805, 838, 871, 904, 927, 990, 1013, 1046, 1069, 1102, 1135, 1158, 1181, 1214, 1247, 1296, 1339, 1372, 1405, 1448, 1491, 1554, 1567, 1580], 175) := (sx_dec (y := 330) (full := sx_c330) rfl (e := (33, .tableswitch 1603 0 39 #[175, 218, 271, 304, 337, 396, 465, 518, 551, 584, 617, 680, 703, 736, 769, 782, 805, 838, 871, 904, 927, 990, 1013, 1046, 1069, 1102, 1135, 1158, 1181, 1214, 1247, 1296, 1339, 1372, 1405, 1448, 1491, 1554, 1567, 1580], 175, 0, 0, 0, 0)) (List.mem_of_getElem? (i := 21) rfl)).1
set_option maxRecDepth 100000 in
theorem hd_330_302 : decode (sx_fi 330).2.1 302 = .ok (.iconst 0, 1) := (sx_dec (y := 330) (full := sx_c330) rfl (e := (302, .iconst 0, 1, 0, 0, 0, 0)) (List.mem_of_getElem? (i := 104) rfl)).1
set_option maxRecDepth 100000 in
theorem hd_330_303 : decode (sx_fi 330).2.1 303 = .ok (.ireturn, 1) := (sx_dec (y := 330) (full := sx_c330) rfl (e := (303, .ireturn, 1, 0, 0, 0, 0)) (List.mem_of_getElem? (i := 105) rfl)).1
set_option maxRecDepth 100000 in
theorem hd_330_1636 : decode (sx_fi 330).2.1 1636 = .ok (.iinc 3 6, 3) := (sx_dec (y := 330) (full := sx_c330) rfl (e := (1636, .iinc 3 6, 3, 0, 0, 0, 0)) (List.mem_of_getElem? (i := 1180) rfl)).1
set_option maxRecDepth 100000 in
theorem hd_330_1639 : decode (sx_fi 330).2.1 1639 = .ok (.goto (-1621), 3) := (sx_dec (y := 330) (full := sx_c330) rfl (e := (1639, .goto (-1621), 3, 0, 0, 0, 0)) (List.mem_of_getElem? (i := 1181) rfl)).1
set_option maxRecDepth 100000 in
theorem hd_330_1642 : decode (sx_fi 330).2.1 1642 = .ok (.iconst 1, 1) := (sx_dec (y := 330) (full := sx_c330) rfl (e := (1642, .iconst 1, 1, 0, 0, 0, 0)) (List.mem_of_getElem? (i := 1182) rfl)).1
set_option maxRecDepth 100000 in
theorem hd_330_1643 : decode (sx_fi 330).2.1 1643 = .ok (.ireturn, 1) := (sx_dec (y := 330) (full := sx_c330) rfl (e := (1643, .ireturn, 1, 0, 0, 0, 0)) (List.mem_of_getElem? (i := 1183) rfl)).1
def la_tau0 : List Value := [.ref 38, .ref 195, .ref 39, .ref 106, .ref 196, .ref 197, .int 0, .int 0, .int 0]
