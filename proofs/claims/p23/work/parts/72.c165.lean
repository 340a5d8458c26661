/-! ===== printed by wip/p2/gen_tab.py: contracts and their checks ===== -/
/-- RaftTown$Rope.take -/
def sc_165 : se_C := ((210, 1), ([(((79, 0, 0), 0, (0, 0, 0), (0, 0, 0)), (0, (0, 0, 0), (0, 0, 0))), (((110, 0, 0), 0, (0, 0, 0), (0, 0, 0)), (0, (0, 1, 0), (0, 0, 0)))], [some (1, 0, 0), some (1, 1, 0)], [], []), [([], none, [], [])], [(77, 0, 1), (77, 1, 2), (77, 2, 3), (77, 3, 4), (77, 4, 5), (77, 5, 6), (77, 6, 7), (77, 7, 8)])
abbrev sn_165 : List se_Nd := []
set_option maxRecDepth 100000 in
theorem sk_165 : se_chk0 se_tt [] se_Z 37 se_zt sc_165 sn_165 6 = true := by decide +kernel
theorem sm_165 {ty : Nat → Option Nat} {J : List mm_C → Prop} {kx : Nat} {zs : List mm_Zt} (hO : se_Ok ty J kx zs) : se_Met ty se_tt J kx zs sc_165 := se_sound (C := []) hO.1 hO.2.1 hO.2.2 (fun _ hn => absurd hn List.not_mem_nil) sk_165 (fun _ hn => absurd hn List.not_mem_nil)
/-- RaftTown$Log.take -/
def sc_166 : se_C := ((211, 1), ([(((106, 0, 0), 0, (0, 0, 0), (0, 0, 0)), (0, (0, 0, 0), (0, 0, 0))), (((75, 0, 0), 0, (0, 0, 0), (0, 0, 0)), (0, (0, 1, 0), (0, 0, 0)))], [some (1, 0, 0), some (1, 1, 0)], [], []), [([], none, [], [])], [(90, 0, 40), (91, 0, 40), (92, 0, 40), (93, 0, 40), (94, 0, 12), (95, 0, 12), (104, 4, 5), (104, 5, 6), (104, 8, 9)])
abbrev sn_166 : List se_Nd := []
set_option maxRecDepth 100000 in
theorem sk_166 : se_chk0 se_tt [] se_Z 37 se_zt sc_166 sn_166 6 = true := by decide +kernel
theorem sm_166 {ty : Nat → Option Nat} {J : List mm_C → Prop} {kx : Nat} {zs : List mm_Zt} (hO : se_Ok ty J kx zs) : se_Met ty se_tt J kx zs sc_166 := se_sound (C := []) hO.1 hO.2.1 hO.2.2 (fun _ hn => absurd hn List.not_mem_nil) sk_166 (fun _ hn => absurd hn List.not_mem_nil)
/-- RaftTown$Log.take -/
def sc_167 : se_C := ((211, 1), ([(((75, 0, 0), 0, (0, 0, 0), (0, 0, 0)), (0, (0, 0, 0), (0, 0, 0))), (((106, 0, 0), 0, (0, 0, 0), (0, 0, 0)), (0, (0, 1, 0), (0, 0, 0)))], [some (1, 0, 0), some (1, 1, 0)], [], []), [([], none, [], [])], [(39, 0, 40), (40, 0, 40), (41, 0, 40), (42, 0, 40), (43, 0, 12), (44, 0, 12), (73, 4, 5), (73, 5, 6), (73, 8, 9)])
abbrev sn_167 : List se_Nd := []
set_option maxRecDepth 100000 in
theorem sk_167 : se_chk0 se_tt [] se_Z 37 se_zt sc_167 sn_167 6 = true := by decide +kernel
theorem sm_167 {ty : Nat → Option Nat} {J : List mm_C → Prop} {kx : Nat} {zs : List mm_Zt} (hO : se_Ok ty J kx zs) : se_Met ty se_tt J kx zs sc_167 := se_sound (C := []) hO.1 hO.2.1 hO.2.2 (fun _ hn => absurd hn List.not_mem_nil) sk_167 (fun _ hn => absurd hn List.not_mem_nil)
/-- RaftTown$Town.take -/
def sc_168 : se_C := ((206, 2), ([(((117, 0, 0), 0, (0, 0, 0), (0, 0, 0)), (0, (0, 0, 0), (0, 0, 0))), (((89, 0, 0), 0, (0, 0, 0), (0, 0, 0)), (0, (0, 1, 0), (0, 0, 0)))], [some (1, 0, 0), some (1, 1, 0)], [], []), [([], none, [], [])], [(90, 0, 40), (91, 0, 40), (92, 0, 40), (93, 0, 40), (94, 0, 12), (95, 0, 12), (96, 0, 36), (97, 0, 36), (99, 0, 160), (100, 0, 3), (104, 4, 5), (104, 5, 6), (104, 8, 9), (106, 0, 1), (106, 1, 2), (106, 2, 3), (106, 3, 4), (106, 4, 5), (106, 5, 6), (106, 6, 7), (107, 0, 1), (107, 1, 2), (107, 2, 3), (107, 3, 4), (107, 4, 5), (107, 5, 6), (107, 6, 7), (108, 0, 1), (108, 1, 2), (108, 2, 3), (108, 3, 4), (108, 4, 5), (108, 5, 6), (108, 6, 7), (108, 7, 8), (109, 0, 1), (109, 3, 4), (115, 2, 3), (115, 4, 5), (115, 6, 7), (115, 9, 10), (115, 10, 11), (115, 11, 12)])
def sn_168_0 : se_Nd := (13, ([(((117, 0, 0), 0, (0, 0, 0), (0, 0, 0)), (3, (0, 0, 0), (0, 0, 0))), (((89, 0, 0), 0, (0, 0, 0), (0, 0, 0)), (3, (0, 1, 0), (0, 0, 0))), (((0, 0, 10), 0, (0, 0, 0), (0, 0, 0)), (0, (0, 2, 0), (0, 0, 0)))], [some (1, 0, 0), some (1, 1, 0), some (1, 2, 0)], [], []), [(0, 0, 3), ((-1), 2, 0), (0, 0, 0)])
def sn_168_1 : se_Nd := (50, ([(((117, 0, 0), 0, (0, 0, 0), (0, 0, 0)), (3, (0, 0, 0), (0, 0, 0))), (((89, 0, 0), 0, (0, 0, 0), (0, 0, 0)), (3, (0, 1, 0), (0, 0, 0))), (((0, 0, 14), 0, (0, 0, 0), (0, 0, 0)), (0, (0, 2, 0), (0, 0, 0)))], [some (1, 0, 0), some (1, 1, 0), some (1, 2, 0)], [], []), [(0, 0, 2), ((-1), 2, 0), (0, 0, 0)])
def sn_168_2 : se_Nd := (87, ([(((117, 0, 0), 0, (0, 0, 0), (0, 0, 0)), (3, (0, 0, 0), (0, 0, 0))), (((89, 0, 0), 0, (0, 0, 0), (0, 0, 0)), (3, (0, 1, 0), (0, 0, 0))), (((0, 0, 12), 0, (0, 0, 0), (0, 0, 0)), (0, (0, 2, 0), (0, 0, 0)))], [some (1, 0, 0), some (1, 1, 0), some (1, 2, 0)], [], []), [(0, 0, 1), ((-1), 2, 0), (0, 0, 0)])
def sn_168_3 : se_Nd := (135, ([(((117, 0, 0), 0, (0, 0, 0), (0, 0, 0)), (3, (0, 0, 0), (0, 0, 0))), (((89, 0, 0), 0, (0, 0, 0), (0, 0, 0)), (3, (0, 1, 0), (0, 0, 0))), (((0, 0, 5), 0, (0, 0, 0), (0, 0, 0)), (0, (0, 2, 0), (0, 0, 0)))], [some (1, 0, 0), some (1, 1, 0), some (1, 2, 0)], [], []), [(0, 0, 0), ((-1), 2, 0), (0, 0, 0)])
abbrev sn_168 : List se_Nd := [sn_168_0, sn_168_1, sn_168_2, sn_168_3]
set_option maxRecDepth 100000 in
theorem sk_168 : se_chk0 se_tt [sc_119, sc_158, sc_160, sc_162, sc_164, sc_166] se_Z 37 se_zt sc_168 sn_168 4 = true := by decide +kernel
set_option maxRecDepth 100000 in
theorem sk_168_0 : se_chkn se_tt [sc_119, sc_158, sc_160, sc_162, sc_164, sc_166] se_Z 37 se_zt sc_168 sn_168 4 sn_168_0 = true := by decide +kernel
set_option maxRecDepth 100000 in
theorem sk_168_1 : se_chkn se_tt [sc_119, sc_158, sc_160, sc_162, sc_164, sc_166] se_Z 37 se_zt sc_168 sn_168 4 sn_168_1 = true := by decide +kernel
set_option maxRecDepth 100000 in
theorem sk_168_2 : se_chkn se_tt [sc_119, sc_158, sc_160, sc_162, sc_164, sc_166] se_Z 37 se_zt sc_168 sn_168 4 sn_168_2 = true := by decide +kernel
set_option maxRecDepth 100000 in
theorem sk_168_3 : se_chkn se_tt [sc_119, sc_158, sc_160, sc_162, sc_164, sc_166] se_Z 37 se_zt sc_168 sn_168 4 sn_168_3 = true := by decide +kernel
theorem sm_168 {ty : Nat → Option Nat} {J : List mm_C → Prop} {kx : Nat} {zs : List mm_Zt} (hO : se_Ok ty J kx zs) (h119 : se_Met ty se_tt J kx zs sc_119) (h158 : se_Met ty se_tt J kx zs sc_158) (h160 : se_Met ty se_tt J kx zs sc_160) (h162 : se_Met ty se_tt J kx zs sc_162) (h164 : se_Met ty se_tt J kx zs sc_164) (h166 : se_Met ty se_tt J kx zs sc_166) : se_Met ty se_tt J kx zs sc_168 := se_sound (C := [sc_119, sc_158, sc_160, sc_162, sc_164, sc_166]) hO.1 hO.2.1 hO.2.2 (fun n hn => by
  rcases List.mem_cons.mp hn with rfl | hn
  · exact h119
  rcases List.mem_cons.mp hn with rfl | hn
  · exact h158
  rcases List.mem_cons.mp hn with rfl | hn
  · exact h160
  rcases List.mem_cons.mp hn with rfl | hn
  · exact h162
  rcases List.mem_cons.mp hn with rfl | hn
  · exact h164
  rcases List.mem_cons.mp hn with rfl | hn
  · exact h166
  exact absurd hn List.not_mem_nil) sk_168 (fun n hn => by
  rcases List.mem_cons.mp hn with rfl | hn
  · exact sk_168_0
  rcases List.mem_cons.mp hn with rfl | hn
  · exact sk_168_1
  rcases List.mem_cons.mp hn with rfl | hn
  · exact sk_168_2
  rcases List.mem_cons.mp hn with rfl | hn
  · exact sk_168_3
  exact absurd hn List.not_mem_nil)
/-- RaftTown$Town.take -/
def sc_169 : se_C := ((206, 2), ([(((89, 0, 0), 0, (0, 0, 0), (0, 0, 0)), (0, (0, 0, 0), (0, 0, 0))), (((117, 0, 0), 0, (0, 0, 0), (0, 0, 0)), (0, (0, 1, 0), (0, 0, 0)))], [some (1, 0, 0), some (1, 1, 0)], [], []), [([], none, [], [])], [(39, 0, 40), (40, 0, 40), (41, 0, 40), (42, 0, 40), (43, 0, 12), (44, 0, 12), (49, 0, 36), (50, 0, 36), (54, 0, 160), (55, 0, 3), (73, 4, 5), (73, 5, 6), (73, 8, 9), (75, 0, 1), (75, 1, 2), (75, 2, 3), (75, 3, 4), (75, 4, 5), (75, 5, 6), (75, 6, 7), (76, 0, 1), (76, 1, 2), (76, 2, 3), (76, 3, 4), (76, 4, 5), (76, 5, 6), (76, 6, 7), (77, 0, 1), (77, 1, 2), (77, 2, 3), (77, 3, 4), (77, 4, 5), (77, 5, 6), (77, 6, 7), (77, 7, 8), (81, 0, 1), (81, 3, 4), (87, 2, 3), (87, 4, 5), (87, 6, 7), (87, 9, 10), (87, 10, 11), (87, 11, 12)])
def sn_169_0 : se_Nd := (13, ([(((89, 0, 0), 0, (0, 0, 0), (0, 0, 0)), (3, (0, 0, 0), (0, 0, 0))), (((117, 0, 0), 0, (0, 0, 0), (0, 0, 0)), (3, (0, 1, 0), (0, 0, 0))), (((0, 0, 10), 0, (0, 0, 0), (0, 0, 0)), (0, (0, 2, 0), (0, 0, 0)))], [some (1, 0, 0), some (1, 1, 0), some (1, 2, 0)], [], []), [(0, 0, 3), ((-1), 2, 0), (0, 0, 0)])
def sn_169_1 : se_Nd := (50, ([(((89, 0, 0), 0, (0, 0, 0), (0, 0, 0)), (3, (0, 0, 0), (0, 0, 0))), (((117, 0, 0), 0, (0, 0, 0), (0, 0, 0)), (3, (0, 1, 0), (0, 0, 0))), (((0, 0, 14), 0, (0, 0, 0), (0, 0, 0)), (0, (0, 2, 0), (0, 0, 0)))], [some (1, 0, 0), some (1, 1, 0), some (1, 2, 0)], [], []), [(0, 0, 2), ((-1), 2, 0), (0, 0, 0)])
def sn_169_2 : se_Nd := (87, ([(((89, 0, 0), 0, (0, 0, 0), (0, 0, 0)), (3, (0, 0, 0), (0, 0, 0))), (((117, 0, 0), 0, (0, 0, 0), (0, 0, 0)), (3, (0, 1, 0), (0, 0, 0))), (((0, 0, 12), 0, (0, 0, 0), (0, 0, 0)), (0, (0, 2, 0), (0, 0, 0)))], [some (1, 0, 0), some (1, 1, 0), some (1, 2, 0)], [], []), [(0, 0, 1), ((-1), 2, 0), (0, 0, 0)])
def sn_169_3 : se_Nd := (135, ([(((89, 0, 0), 0, (0, 0, 0), (0, 0, 0)), (3, (0, 0, 0), (0, 0, 0))), (((117, 0, 0), 0, (0, 0, 0), (0, 0, 0)), (3, (0, 1, 0), (0, 0, 0))), (((0, 0, 5), 0, (0, 0, 0), (0, 0, 0)), (0, (0, 2, 0), (0, 0, 0)))], [some (1, 0, 0), some (1, 1, 0), some (1, 2, 0)], [], []), [(0, 0, 0), ((-1), 2, 0), (0, 0, 0)])
abbrev sn_169 : List se_Nd := [sn_169_0, sn_169_1, sn_169_2, sn_169_3]
set_option maxRecDepth 100000 in
theorem sk_169 : se_chk0 se_tt [sc_120, sc_159, sc_161, sc_163, sc_165, sc_167] se_Z 37 se_zt sc_169 sn_169 4 = true := by decide +kernel
set_option maxRecDepth 100000 in
theorem sk_169_0 : se_chkn se_tt [sc_120, sc_159, sc_161, sc_163, sc_165, sc_167] se_Z 37 se_zt sc_169 sn_169 4 sn_169_0 = true := by decide +kernel
set_option maxRecDepth 100000 in
theorem sk_169_1 : se_chkn se_tt [sc_120, sc_159, sc_161, sc_163, sc_165, sc_167] se_Z 37 se_zt sc_169 sn_169 4 sn_169_1 = true := by decide +kernel
set_option maxRecDepth 100000 in
theorem sk_169_2 : se_chkn se_tt [sc_120, sc_159, sc_161, sc_163, sc_165, sc_167] se_Z 37 se_zt sc_169 sn_169 4 sn_169_2 = true := by decide +kernel
set_option maxRecDepth 100000 in
theorem sk_169_3 : se_chkn se_tt [sc_120, sc_159, sc_161, sc_163, sc_165, sc_167] se_Z 37 se_zt sc_169 sn_169 4 sn_169_3 = true := by decide +kernel
theorem sm_169 {ty : Nat → Option Nat} {J : List mm_C → Prop} {kx : Nat} {zs : List mm_Zt} (hO : se_Ok ty J kx zs) (h120 : se_Met ty se_tt J kx zs sc_120) (h159 : se_Met ty se_tt J kx zs sc_159) (h161 : se_Met ty se_tt J kx zs sc_161) (h163 : se_Met ty se_tt J kx zs sc_163) (h165 : se_Met ty se_tt J kx zs sc_165) (h167 : se_Met ty se_tt J kx zs sc_167) : se_Met ty se_tt J kx zs sc_169 := se_sound (C := [sc_120, sc_159, sc_161, sc_163, sc_165, sc_167]) hO.1 hO.2.1 hO.2.2 (fun n hn => by
  rcases List.mem_cons.mp hn with rfl | hn
  · exact h120
  rcases List.mem_cons.mp hn with rfl | hn
  · exact h159
  rcases List.mem_cons.mp hn with rfl | hn
  · exact h161
  rcases List.mem_cons.mp hn with rfl | hn
  · exact h163
  rcases List.mem_cons.mp hn with rfl | hn
  · exact h165
  rcases List.mem_cons.mp hn with rfl | hn
  · exact h167
  exact absurd hn List.not_mem_nil) sk_169 (fun n hn => by
  rcases List.mem_cons.mp hn with rfl | hn
  · exact sk_169_0
  rcases List.mem_cons.mp hn with rfl | hn
  · exact sk_169_1
  rcases List.mem_cons.mp hn with rfl | hn
  · exact sk_169_2
  rcases List.mem_cons.mp hn with rfl | hn
  · exact sk_169_3
  exact absurd hn List.not_mem_nil)
/-- RaftTown.image -/
def sc_170 : se_C := ((205, 3), ([(((90, 0, 0), 0, (0, 0, 0), (0, 0, 0)), (0, (0, 0, 0), (0, 0, 0)))], [some (1, 0, 0)], [], []), [([(((0, (-2147483648), 2147483647), 0, (0, 0, 0), (0, 0, 0)), (0, (0, 0, 0), (0, 0, 0)))], some (1, 1, 0), [], [])], [(88, 2, 3), (90, 0, 40), (91, 0, 40), (92, 0, 40), (93, 0, 40), (94, 0, 12), (95, 0, 12), (96, 0, 36), (97, 0, 36), (99, 0, 160), (100, 0, 3), (104, 4, 5), (104, 5, 6), (104, 8, 9), (106, 0, 1), (106, 1, 2), (106, 2, 3), (106, 3, 4), (106, 4, 5), (106, 5, 6), (106, 6, 7), (107, 0, 1), (107, 1, 2), (107, 2, 3), (107, 3, 4), (107, 4, 5), (107, 5, 6), (107, 6, 7), (108, 0, 1), (108, 1, 2), (108, 2, 3), (108, 3, 4), (108, 4, 5), (108, 5, 6), (108, 6, 7), (108, 7, 8), (109, 0, 1), (109, 3, 4), (115, 2, 3), (115, 4, 5), (115, 6, 7), (115, 9, 10), (115, 10, 11), (115, 11, 12)])
abbrev sn_170 : List se_Nd := []
set_option maxRecDepth 100000 in
theorem sk_170 : se_chk0 se_tt [sc_168] se_Z 37 se_zt sc_170 sn_170 4 = true := by decide +kernel
theorem sm_170 {ty : Nat → Option Nat} {J : List mm_C → Prop} {kx : Nat} {zs : List mm_Zt} (hO : se_Ok ty J kx zs) (h168 : se_Met ty se_tt J kx zs sc_168) : se_Met ty se_tt J kx zs sc_170 := se_sound (C := [sc_168]) hO.1 hO.2.1 hO.2.2 (fun n hn => by
  rcases List.mem_cons.mp hn with rfl | hn
  · exact h168
  exact absurd hn List.not_mem_nil) sk_170 (fun _ hn => absurd hn List.not_mem_nil)
/-- RaftTown.restore -/
def sc_171 : se_C := ((212, 3), ([(((90, 0, 0), 0, (0, 0, 0), (0, 0, 0)), (0, (0, 0, 0), (0, 0, 0)))], [some (1, 0, 0)], [], []), [([(((0, (-2147483648), 2147483647), 0, (0, 0, 0), (0, 0, 0)), (0, (0, 0, 0), (0, 0, 0)))], some (1, 1, 0), [], [])], [(39, 0, 40), (40, 0, 40), (41, 0, 40), (42, 0, 40), (43, 0, 12), (44, 0, 12), (49, 0, 36), (50, 0, 36), (54, 0, 160), (55, 0, 3), (73, 4, 5), (73, 5, 6), (73, 8, 9), (75, 0, 1), (75, 1, 2), (75, 2, 3), (75, 3, 4), (75, 4, 5), (75, 5, 6), (75, 6, 7), (76, 0, 1), (76, 1, 2), (76, 2, 3), (76, 3, 4), (76, 4, 5), (76, 5, 6), (76, 6, 7), (77, 0, 1), (77, 1, 2), (77, 2, 3), (77, 3, 4), (77, 4, 5), (77, 5, 6), (77, 6, 7), (77, 7, 8), (81, 0, 1), (81, 3, 4), (87, 2, 3), (87, 4, 5), (87, 6, 7), (87, 9, 10), (87, 10, 11), (87, 11, 12), (88, 7, 8)])
abbrev sn_171 : List se_Nd := []
set_option maxRecDepth 100000 in
theorem sk_171 : se_chk0 se_tt [sc_169] se_Z 37 se_zt sc_171 sn_171 5 = true := by decide +kernel
theorem sm_171 {ty : Nat → Option Nat} {J : List mm_C → Prop} {kx : Nat} {zs : List mm_Zt} (hO : se_Ok ty J kx zs) (h169 : se_Met ty se_tt J kx zs sc_169) : se_Met ty se_tt J kx zs sc_171 := se_sound (C := [sc_169]) hO.1 hO.2.1 hO.2.2 (fun n hn => by
  rcases List.mem_cons.mp hn with rfl | hn
  · exact h169
  exact absurd hn List.not_mem_nil) sk_171 (fun _ hn => absurd hn List.not_mem_nil)
/-- RaftTown$Town.countAfloat -/
def sc_172 : se_C := ((214, 1), ([(((89, 0, 0), 0, (0, 0, 0), (0, 0, 0)), (0, (0, 0, 0), (0, 0, 0)))], [some (1, 0, 0)], [], []), [([(((0, (-2147483648), 2147483647), 0, (0, 0, 0), (0, 0, 0)), (0, (0, 0, 0), (0, 0, 0)))], some (1, 1, 0), [], [])], [])
def sn_172_0 : se_Nd := (4, ([(((89, 0, 0), 0, (0, 0, 0), (0, 0, 0)), (3, (0, 0, 0), (0, 0, 0))), (((0, (-2147483648), 2147483647), 0, (0, 0, 0), (0, 0, 0)), (0, (0, 1, 0), (0, 0, 0))), (((0, 0, 2147483647), 0, (0, 0, 0), (0, 0, 0)), (0, (0, 2, 0), (0, 0, 0)))], [some (1, 0, 0), some (1, 1, 0), some (1, 2, 0)], [], []), [(0, 0, 0), ((-1), 2, 0), (0, 0, 0)])
abbrev sn_172 : List se_Nd := [sn_172_0]
set_option maxRecDepth 100000 in
theorem sk_172 : se_chk0 se_tt [] se_Z 37 se_zt sc_172 sn_172 6 = true := by decide +kernel
set_option maxRecDepth 100000 in
theorem sk_172_0 : se_chkn se_tt [] se_Z 37 se_zt sc_172 sn_172 6 sn_172_0 = true := by decide +kernel
theorem sm_172 {ty : Nat → Option Nat} {J : List mm_C → Prop} {kx : Nat} {zs : List mm_Zt} (hO : se_Ok ty J kx zs) : se_Met ty se_tt J kx zs sc_172 := se_sound (C := []) hO.1 hO.2.1 hO.2.2 (fun _ hn => absurd hn List.not_mem_nil) sk_172 (fun n hn => by
  rcases List.mem_cons.mp hn with rfl | hn
  · exact sk_172_0
  exact absurd hn List.not_mem_nil)
/-- RaftTown$Town.countAlive -/
def sc_173 : se_C := ((215, 1), ([(((89, 0, 0), 0, (0, 0, 0), (0, 0, 0)), (0, (0, 0, 0), (0, 0, 0)))], [some (1, 0, 0)], [], []), [([(((0, (-2147483648), 2147483647), 0, (0, 0, 0), (0, 0, 0)), (0, (0, 0, 0), (0, 0, 0)))], some (1, 1, 0), [], [])], [])
def sn_173_0 : se_Nd := (4, ([(((89, 0, 0), 0, (0, 0, 0), (0, 0, 0)), (3, (0, 0, 0), (0, 0, 0))), (((0, (-2147483648), 2147483647), 0, (0, 0, 0), (0, 0, 0)), (0, (0, 1, 0), (0, 0, 0))), (((0, 0, 14), 0, (0, 0, 0), (0, 0, 0)), (0, (0, 2, 0), (0, 0, 0)))], [some (1, 0, 0), some (1, 1, 0), some (1, 2, 0)], [], []), [(0, 0, 0), ((-1), 2, 0), (0, 0, 0)])
abbrev sn_173 : List se_Nd := [sn_173_0]
set_option maxRecDepth 100000 in
theorem sk_173 : se_chk0 se_tt [] se_Z 37 se_zt sc_173 sn_173 4 = true := by decide +kernel
set_option maxRecDepth 100000 in
theorem sk_173_0 : se_chkn se_tt [] se_Z 37 se_zt sc_173 sn_173 4 sn_173_0 = true := by decide +kernel
theorem sm_173 {ty : Nat → Option Nat} {J : List mm_C → Prop} {kx : Nat} {zs : List mm_Zt} (hO : se_Ok ty J kx zs) : se_Met ty se_tt J kx zs sc_173 := se_sound (C := []) hO.1 hO.2.1 hO.2.2 (fun _ hn => absurd hn List.not_mem_nil) sk_173 (fun n hn => by
  rcases List.mem_cons.mp hn with rfl | hn
  · exact sk_173_0
  exact absurd hn List.not_mem_nil)
/-- RaftTown$Town.countRopes -/
def sc_174 : se_C := ((216, 1), ([(((89, 0, 0), 0, (0, 0, 0), (0, 0, 0)), (0, (0, 0, 0), (0, 0, 0)))], [some (1, 0, 0)], [], []), [([(((0, (-2147483648), 2147483647), 0, (0, 0, 0), (0, 0, 0)), (0, (0, 0, 0), (0, 0, 0)))], some (1, 1, 0), [], [])], [])
def sn_174_0 : se_Nd := (4, ([(((89, 0, 0), 0, (0, 0, 0), (0, 0, 0)), (3, (0, 0, 0), (0, 0, 0))), (((0, (-2147483648), 2147483647), 0, (0, 0, 0), (0, 0, 0)), (0, (0, 1, 0), (0, 0, 0))), (((0, 0, 12), 0, (0, 0, 0), (0, 0, 0)), (0, (0, 2, 0), (0, 0, 0)))], [some (1, 0, 0), some (1, 1, 0), some (1, 2, 0)], [], []), [(0, 0, 0), ((-1), 2, 0), (0, 0, 0)])
abbrev sn_174 : List se_Nd := [sn_174_0]
set_option maxRecDepth 100000 in
theorem sk_174 : se_chk0 se_tt [] se_Z 37 se_zt sc_174 sn_174 4 = true := by decide +kernel
set_option maxRecDepth 100000 in
theorem sk_174_0 : se_chkn se_tt [] se_Z 37 se_zt sc_174 sn_174 4 sn_174_0 = true := by decide +kernel
theorem sm_174 {ty : Nat → Option Nat} {J : List mm_C → Prop} {kx : Nat} {zs : List mm_Zt} (hO : se_Ok ty J kx zs) : se_Met ty se_tt J kx zs sc_174 := se_sound (C := []) hO.1 hO.2.1 hO.2.2 (fun _ hn => absurd hn List.not_mem_nil) sk_174 (fun n hn => by
  rcases List.mem_cons.mp hn with rfl | hn
  · exact sk_174_0
  exact absurd hn List.not_mem_nil)
/-- RaftTown$Town.countCasks -/
def sc_175 : se_C := ((217, 1), ([(((89, 0, 0), 0, (0, 0, 0), (0, 0, 0)), (0, (0, 0, 0), (0, 0, 0)))], [some (1, 0, 0)], [], []), [([(((0, (-2147483648), 2147483647), 0, (0, 0, 0), (0, 0, 0)), (0, (0, 0, 0), (0, 0, 0)))], some (1, 1, 0), [], [])], [])
def sn_175_0 : se_Nd := (4, ([(((89, 0, 0), 0, (0, 0, 0), (0, 0, 0)), (3, (0, 0, 0), (0, 0, 0))), (((0, (-2147483648), 2147483647), 0, (0, 0, 0), (0, 0, 0)), (0, (0, 1, 0), (0, 0, 0))), (((0, 0, 10), 0, (0, 0, 0), (0, 0, 0)), (0, (0, 2, 0), (0, 0, 0)))], [some (1, 0, 0), some (1, 1, 0), some (1, 2, 0)], [], []), [(0, 0, 0), ((-1), 2, 0), (0, 0, 0)])
abbrev sn_175 : List se_Nd := [sn_175_0]
set_option maxRecDepth 100000 in
theorem sk_175 : se_chk0 se_tt [] se_Z 37 se_zt sc_175 sn_175 5 = true := by decide +kernel
set_option maxRecDepth 100000 in
theorem sk_175_0 : se_chkn se_tt [] se_Z 37 se_zt sc_175 sn_175 5 sn_175_0 = true := by decide +kernel
theorem sm_175 {ty : Nat → Option Nat} {J : List mm_C → Prop} {kx : Nat} {zs : List mm_Zt} (hO : se_Ok ty J kx zs) : se_Met ty se_tt J kx zs sc_175 := se_sound (C := []) hO.1 hO.2.1 hO.2.2 (fun _ hn => absurd hn List.not_mem_nil) sk_175 (fun n hn => by
  rcases List.mem_cons.mp hn with rfl | hn
  · exact sk_175_0
  exact absurd hn List.not_mem_nil)
/-- RaftTown.count -/
def sc_176 : se_C := ((213, 2), ([(((90, 0, 0), 0, (0, 0, 0), (0, 0, 0)), (0, (0, 0, 0), (0, 0, 0))), (((0, (-2147483648), 2147483647), 0, (0, 0, 0), (0, 0, 0)), (0, (0, 1, 0), (0, 0, 0)))], [some (1, 0, 0), some (1, 1, 0)], [], []), [([(((0, (-2147483648), 2147483647), 0, (0, 0, 0), (0, 0, 0)), (0, (0, 0, 0), (0, 0, 0)))], some (1, 2, 0), [], [])], [(88, 7, 8)])
abbrev sn_176 : List se_Nd := []
set_option maxRecDepth 100000 in
theorem sk_176 : se_chk0 se_tt [sc_172, sc_173, sc_174, sc_175] se_Z 37 se_zt sc_176 sn_176 5 = true := by decide +kernel
theorem sm_176 {ty : Nat → Option Nat} {J : List mm_C → Prop} {kx : Nat} {zs : List mm_Zt} (hO : se_Ok ty J kx zs) (h172 : se_Met ty se_tt J kx zs sc_172) (h173 : se_Met ty se_tt J kx zs sc_173) (h174 : se_Met ty se_tt J kx zs sc_174) (h175 : se_Met ty se_tt J kx zs sc_175) : se_Met ty se_tt J kx zs sc_176 := se_sound (C := [sc_172, sc_173, sc_174, sc_175]) hO.1 hO.2.1 hO.2.2 (fun n hn => by
  rcases List.mem_cons.mp hn with rfl | hn
  · exact h172
  rcases List.mem_cons.mp hn with rfl | hn
  · exact h173
  rcases List.mem_cons.mp hn with rfl | hn
  · exact h174
  rcases List.mem_cons.mp hn with rfl | hn
  · exact h175
  exact absurd hn List.not_mem_nil) sk_176 (fun _ hn => absurd hn List.not_mem_nil)
/-- RaftTownModel.stream -/
def sc_177 : se_C := ((219, 1), ([(((91, 0, 0), 0, (0, 0, 0), (0, 0, 0)), (0, (0, 0, 0), (0, 0, 0))), (((0, (-2147483648), 2147483647), 0, (0, 0, 0), (0, 0, 0)), (0, (0, 1, 0), (0, 0, 0))), (((0, (-2147483648), 2147483647), 0, (0, 0, 0), (0, 0, 0)), (0, (0, 2, 0), (0, 0, 0))), (((0, (-2147483648), 2147483647), 0, (0, 0, 0), (0, 0, 0)), (0, (0, 3, 0), (0, 0, 0)))], [some (1, 0, 0), some (1, 1, 0), some (1, 2, 0), some (1, 3, 0)], [], []), [([(((0, (-100001), 1), 0, (0, 0, 0), (0, 0, 0)), (0, (0, 0, 0), (0, 0, 0)))], some (1, 4, 0), [], [])], [(56, 8, 80), (89, 3, 4)])
abbrev sn_177 : List se_Nd := []
set_option maxRecDepth 100000 in
theorem sk_177 : se_chk0 se_tt [] se_Z 37 se_zt sc_177 sn_177 6 = true := by decide +kernel
theorem sm_177 {ty : Nat → Option Nat} {J : List mm_C → Prop} {kx : Nat} {zs : List mm_Zt} (hO : se_Ok ty J kx zs) : se_Met ty se_tt J kx zs sc_177 := se_sound (C := []) hO.1 hO.2.1 hO.2.2 (fun _ hn => absurd hn List.not_mem_nil) sk_177 (fun _ hn => absurd hn List.not_mem_nil)
/-- RaftTownModel.raft -/
def sc_178 : se_C := ((222, 1), ([(((91, 0, 0), 0, (0, 0, 0), (0, 0, 0)), (0, (0, 0, 0), (0, 0, 0))), (((0, (-2147483648), 2147483647), 0, (0, 0, 0), (0, 0, 0)), (0, (0, 1, 0), (0, 0, 0))), (((0, (-2147483648), 2147483647), 0, (0, 0, 0), (0, 0, 0)), (0, (0, 2, 0), (0, 0, 0))), (((0, (-2147483648), 2147483647), 0, (0, 0, 0), (0, 0, 0)), (0, (0, 3, 0), (0, 0, 0))), (((0, (-2147483648), 2147483647), 0, (0, 0, 0), (0, 0, 0)), (0, (0, 4, 0), (0, 0, 0)))], [some (1, 0, 0), some (1, 1, 0), some (1, 2, 0), some (1, 3, 0), some (1, 4, 0)], [], []), [([(((0, (-100005), 9), 0, (0, 0, 0), (0, 0, 0)), (0, (0, 0, 0), (0, 0, 0)))], some (1, 5, 0), [], [])], [(56, 0, 1), (56, 80, 150), (89, 3, 4)])
abbrev sn_178 : List se_Nd := []
set_option maxRecDepth 100000 in
theorem sk_178 : se_chk0 se_tt [] se_Z 37 se_zt sc_178 sn_178 8 = true := by decide +kernel
theorem sm_178 {ty : Nat → Option Nat} {J : List mm_C → Prop} {kx : Nat} {zs : List mm_Zt} (hO : se_Ok ty J kx zs) : se_Met ty se_tt J kx zs sc_178 := se_sound (C := []) hO.1 hO.2.1 hO.2.2 (fun _ hn => absurd hn List.not_mem_nil) sk_178 (fun _ hn => absurd hn List.not_mem_nil)
/-- RaftTownModel.as -/
def sc_179 : se_C := ((224, 1), ([(((91, 0, 0), 0, (0, 0, 0), (0, 0, 0)), (0, (0, 0, 0), (0, 0, 0))), (((0, (-2147483648), 2147483647), 0, (0, 0, 0), (0, 0, 0)), (0, (0, 1, 0), (0, 0, 0))), (((0, (-2147483648), 2147483647), 0, (0, 0, 0), (0, 0, 0)), (0, (0, 2, 0), (0, 0, 0)))], [some (1, 0, 0), some (1, 1, 0), some (1, 2, 0)], [], []), [([(((0, (-100004), 9), 0, (0, 0, 0), (0, 0, 0)), (0, (0, 0, 0), (0, 0, 0)))], some (1, 3, 0), [], [])], [(89, 3, 4)])
abbrev sn_179 : List se_Nd := []
set_option maxRecDepth 100000 in
theorem sk_179 : se_chk0 se_tt [] se_Z 37 se_zt sc_179 sn_179 7 = true := by decide +kernel
theorem sm_179 {ty : Nat → Option Nat} {J : List mm_C → Prop} {kx : Nat} {zs : List mm_Zt} (hO : se_Ok ty J kx zs) : se_Met ty se_tt J kx zs sc_179 := se_sound (C := []) hO.1 hO.2.1 hO.2.2 (fun _ hn => absurd hn List.not_mem_nil) sk_179 (fun _ hn => absurd hn List.not_mem_nil)
