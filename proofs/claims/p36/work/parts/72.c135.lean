/-! ===== printed by wip/p2/gen_tab.py: contracts and their checks ===== -/
/-- RaftTown.put -/
def sc_135 : se_C := ((201, 1), ([(((90, 0, 0), 0, (0, 0, 0), (0, 0, 0)), (0, (0, 0, 0), (0, 0, 0))), (((0, (-2147483648), 2147483647), 0, (0, 0, 0), (0, 0, 0)), (0, (0, 1, 0), (0, 0, 0))), (((0, (-2147483648), 2147483647), 0, (0, 0, 0), (0, 0, 0)), (0, (0, 2, 0), (0, 0, 0))), (((0, (-2147483648), 2147483647), 0, (0, 0, 0), (0, 0, 0)), (0, (0, 3, 0), (0, 0, 0)))], [some (1, 0, 0), some (1, 1, 0), some (1, 2, 0), some (1, 3, 0)], [], []), [([(((0, (-100002), 0), 0, (0, 0, 0), (0, 0, 0)), (0, (0, 0, 0), (0, 0, 0)))], some (1, 4, 0), [], [])], [(52, 0, 20), (88, 7, 8)])
abbrev sn_135 : List se_Nd := []
set_option maxRecDepth 100000 in
theorem sk_135 : se_chk0 se_tt [] se_Z 37 se_zt sc_135 sn_135 7 = true := by decide +kernel
theorem sm_135 {ty : Nat → Option Nat} {J : List mm_C → Prop} {kx : Nat} {zs : List mm_Zt} (hO : se_Ok ty J kx zs) : se_Met ty se_tt J kx zs sc_135 := se_sound (C := []) hO.1 hO.2.1 hO.2.2 (fun _ hn => absurd hn List.not_mem_nil) sk_135 (fun _ hn => absurd hn List.not_mem_nil)
/-- RaftTown.copy -/
def sc_136 : se_C := ((203, 1), ([(((90, 0, 0), 0, (0, 0, 0), (0, 0, 0)), (0, (0, 0, 0), (0, 0, 0))), (((0, (-2147483648), 2147483647), 0, (0, 0, 0), (0, 0, 0)), (0, (0, 1, 0), (0, 0, 0))), (((0, (-2147483648), 2147483647), 0, (0, 0, 0), (0, 0, 0)), (0, (0, 2, 0), (0, 0, 0))), (((0, (-2147483648), 2147483647), 0, (0, 0, 0), (0, 0, 0)), (0, (0, 3, 0), (0, 0, 0))), (((0, (-2147483648), 2147483647), 0, (0, 0, 0), (0, 0, 0)), (0, (0, 4, 0), (0, 0, 0))), (((0, (-2147483648), 2147483647), 0, (0, 0, 0), (0, 0, 0)), (0, (0, 5, 0), (0, 0, 0)))], [some (1, 0, 0), some (1, 1, 0), some (1, 2, 0), some (1, 3, 0), some (1, 4, 0), some (1, 5, 0)], [], []), [([(((0, (-100004), 20), 0, (0, 0, 0), (0, 0, 0)), (0, (0, 0, 0), (0, 0, 0)))], some (1, 6, 0), [], [])], [(52, 0, 20), (88, 7, 8)])
abbrev sn_136 : List se_Nd := []
set_option maxRecDepth 100000 in
theorem sk_136 : se_chk0 se_tt [] se_Z 37 se_zt sc_136 sn_136 7 = true := by decide +kernel
theorem sm_136 {ty : Nat → Option Nat} {J : List mm_C → Prop} {kx : Nat} {zs : List mm_Zt} (hO : se_Ok ty J kx zs) : se_Met ty se_tt J kx zs sc_136 := se_sound (C := []) hO.1 hO.2.1 hO.2.2 (fun _ hn => absurd hn List.not_mem_nil) sk_136 (fun _ hn => absurd hn List.not_mem_nil)
/-- RaftTown$Log.take -/
def sc_137 : se_C := ((211, 1), ([(((75, 0, 0), 0, (0, 0, 0), (0, 0, 0)), (0, (0, 0, 0), (0, 0, 0))), (((75, 0, 0), 0, (0, 0, 0), (0, 0, 0)), (0, (0, 1, 0), (0, 0, 0)))], [some (1, 0, 0), some (1, 1, 0)], [], []), [([], none, [], [])], [(39, 0, 40), (40, 0, 40), (41, 0, 40), (42, 0, 40), (43, 0, 12), (44, 0, 12), (73, 4, 5), (73, 5, 6), (73, 8, 9)])
abbrev sn_137 : List se_Nd := []
set_option maxRecDepth 100000 in
theorem sk_137 : se_chk0 se_tt [] se_Z 37 se_zt sc_137 sn_137 6 = true := by decide +kernel
theorem sm_137 {ty : Nat → Option Nat} {J : List mm_C → Prop} {kx : Nat} {zs : List mm_Zt} (hO : se_Ok ty J kx zs) : se_Met ty se_tt J kx zs sc_137 := se_sound (C := []) hO.1 hO.2.1 hO.2.2 (fun _ hn => absurd hn List.not_mem_nil) sk_137 (fun _ hn => absurd hn List.not_mem_nil)
/-- RaftTown$Town.take -/
def sc_138 : se_C := ((206, 2), ([(((89, 0, 0), 0, (0, 0, 0), (0, 0, 0)), (0, (0, 0, 0), (0, 0, 0))), (((89, 0, 0), 0, (0, 0, 0), (0, 0, 0)), (0, (0, 1, 0), (0, 0, 0)))], [some (1, 0, 0), some (1, 1, 0)], [], []), [([], none, [], [])], [(39, 0, 40), (40, 0, 40), (41, 0, 40), (42, 0, 40), (43, 0, 12), (44, 0, 12), (49, 0, 36), (50, 0, 36), (54, 0, 160), (55, 0, 3), (73, 4, 5), (73, 5, 6), (73, 8, 9), (75, 0, 1), (75, 1, 2), (75, 2, 3), (75, 3, 4), (75, 4, 5), (75, 5, 6), (75, 6, 7), (76, 0, 1), (76, 1, 2), (76, 2, 3), (76, 3, 4), (76, 4, 5), (76, 5, 6), (76, 6, 7), (77, 0, 1), (77, 1, 2), (77, 2, 3), (77, 3, 4), (77, 4, 5), (77, 5, 6), (77, 6, 7), (77, 7, 8), (81, 0, 1), (81, 3, 4), (87, 2, 3), (87, 4, 5), (87, 6, 7), (87, 9, 10), (87, 10, 11), (87, 11, 12)])
def sn_138_0 : se_Nd := (13, ([(((89, 0, 0), 0, (0, 0, 0), (0, 0, 0)), (3, (0, 0, 0), (0, 0, 0))), (((89, 0, 0), 0, (0, 0, 0), (0, 0, 0)), (3, (0, 1, 0), (0, 0, 0))), (((0, 0, 10), 0, (0, 0, 0), (0, 0, 0)), (0, (0, 2, 0), (0, 0, 0)))], [some (1, 0, 0), some (1, 1, 0), some (1, 2, 0)], [], []), [(0, 0, 3), ((-1), 2, 0), (0, 0, 0)])
def sn_138_1 : se_Nd := (50, ([(((89, 0, 0), 0, (0, 0, 0), (0, 0, 0)), (3, (0, 0, 0), (0, 0, 0))), (((89, 0, 0), 0, (0, 0, 0), (0, 0, 0)), (3, (0, 1, 0), (0, 0, 0))), (((0, 0, 14), 0, (0, 0, 0), (0, 0, 0)), (0, (0, 2, 0), (0, 0, 0)))], [some (1, 0, 0), some (1, 1, 0), some (1, 2, 0)], [], []), [(0, 0, 2), ((-1), 2, 0), (0, 0, 0)])
def sn_138_2 : se_Nd := (87, ([(((89, 0, 0), 0, (0, 0, 0), (0, 0, 0)), (3, (0, 0, 0), (0, 0, 0))), (((89, 0, 0), 0, (0, 0, 0), (0, 0, 0)), (3, (0, 1, 0), (0, 0, 0))), (((0, 0, 12), 0, (0, 0, 0), (0, 0, 0)), (0, (0, 2, 0), (0, 0, 0)))], [some (1, 0, 0), some (1, 1, 0), some (1, 2, 0)], [], []), [(0, 0, 1), ((-1), 2, 0), (0, 0, 0)])
def sn_138_3 : se_Nd := (135, ([(((89, 0, 0), 0, (0, 0, 0), (0, 0, 0)), (3, (0, 0, 0), (0, 0, 0))), (((89, 0, 0), 0, (0, 0, 0), (0, 0, 0)), (3, (0, 1, 0), (0, 0, 0))), (((0, 0, 5), 0, (0, 0, 0), (0, 0, 0)), (0, (0, 2, 0), (0, 0, 0)))], [some (1, 0, 0), some (1, 1, 0), some (1, 2, 0)], [], []), [(0, 0, 0), ((-1), 2, 0), (0, 0, 0)])
abbrev sn_138 : List se_Nd := [sn_138_0, sn_138_1, sn_138_2, sn_138_3]
set_option maxRecDepth 100000 in
theorem sk_138 : se_chk0 se_tt [sc_137] se_Z 37 se_zt sc_138 sn_138 7 = true := by decide +kernel
set_option maxRecDepth 100000 in
theorem sk_138_0 : se_chkn se_tt [sc_137] se_Z 37 se_zt sc_138 sn_138 7 sn_138_0 = true := by decide +kernel
set_option maxRecDepth 100000 in
theorem sk_138_1 : se_chkn se_tt [sc_137] se_Z 37 se_zt sc_138 sn_138 7 sn_138_1 = true := by decide +kernel
set_option maxRecDepth 100000 in
theorem sk_138_2 : se_chkn se_tt [sc_137] se_Z 37 se_zt sc_138 sn_138 7 sn_138_2 = true := by decide +kernel
set_option maxRecDepth 100000 in
theorem sk_138_3 : se_chkn se_tt [sc_137] se_Z 37 se_zt sc_138 sn_138 7 sn_138_3 = true := by decide +kernel
theorem sm_138 {ty : Nat → Option Nat} {J : List mm_C → Prop} {kx : Nat} {zs : List mm_Zt} (hO : se_Ok ty J kx zs) (h137 : se_Met ty se_tt J kx zs sc_137) : se_Met ty se_tt J kx zs sc_138 := se_sound (C := [sc_137]) hO.1 hO.2.1 hO.2.2 (fun n hn => by
  rcases List.mem_cons.mp hn with rfl | hn
  · exact h137
  exact absurd hn List.not_mem_nil) sk_138 (fun n hn => by
  rcases List.mem_cons.mp hn with rfl | hn
  · exact sk_138_0
  rcases List.mem_cons.mp hn with rfl | hn
  · exact sk_138_1
  rcases List.mem_cons.mp hn with rfl | hn
  · exact sk_138_2
  rcases List.mem_cons.mp hn with rfl | hn
  · exact sk_138_3
  exact absurd hn List.not_mem_nil)
/-- RaftTown.image -/
def sc_139 : se_C := ((205, 3), ([(((90, 0, 0), 0, (0, 0, 0), (0, 0, 0)), (0, (0, 0, 0), (0, 0, 0)))], [some (1, 0, 0)], [], []), [([(((0, (-2147483648), 2147483647), 0, (0, 0, 0), (0, 0, 0)), (0, (0, 0, 0), (0, 0, 0)))], some (1, 1, 0), [], [])], [(39, 0, 40), (40, 0, 40), (41, 0, 40), (42, 0, 40), (43, 0, 12), (44, 0, 12), (49, 0, 36), (50, 0, 36), (54, 0, 160), (55, 0, 3), (73, 4, 5), (73, 5, 6), (73, 8, 9), (75, 0, 1), (75, 1, 2), (75, 2, 3), (75, 3, 4), (75, 4, 5), (75, 5, 6), (75, 6, 7), (76, 0, 1), (76, 1, 2), (76, 2, 3), (76, 3, 4), (76, 4, 5), (76, 5, 6), (76, 6, 7), (77, 0, 1), (77, 1, 2), (77, 2, 3), (77, 3, 4), (77, 4, 5), (77, 5, 6), (77, 6, 7), (77, 7, 8), (81, 0, 1), (81, 3, 4), (87, 2, 3), (87, 4, 5), (87, 6, 7), (87, 9, 10), (87, 10, 11), (87, 11, 12), (88, 2, 3)])
abbrev sn_139 : List se_Nd := []
set_option maxRecDepth 100000 in
theorem sk_139 : se_chk0 se_tt [sc_138] se_Z 37 se_zt sc_139 sn_139 4 = true := by decide +kernel
theorem sm_139 {ty : Nat → Option Nat} {J : List mm_C → Prop} {kx : Nat} {zs : List mm_Zt} (hO : se_Ok ty J kx zs) (h138 : se_Met ty se_tt J kx zs sc_138) : se_Met ty se_tt J kx zs sc_139 := se_sound (C := [sc_138]) hO.1 hO.2.1 hO.2.2 (fun n hn => by
  rcases List.mem_cons.mp hn with rfl | hn
  · exact h138
  exact absurd hn List.not_mem_nil) sk_139 (fun _ hn => absurd hn List.not_mem_nil)
/-- RaftTown.restore -/
def sc_140 : se_C := ((212, 3), ([(((90, 0, 0), 0, (0, 0, 0), (0, 0, 0)), (0, (0, 0, 0), (0, 0, 0)))], [some (1, 0, 0)], [], []), [([(((0, (-2147483648), 2147483647), 0, (0, 0, 0), (0, 0, 0)), (0, (0, 0, 0), (0, 0, 0)))], some (1, 1, 0), [], [])], [(39, 0, 40), (40, 0, 40), (41, 0, 40), (42, 0, 40), (43, 0, 12), (44, 0, 12), (49, 0, 36), (50, 0, 36), (54, 0, 160), (55, 0, 3), (73, 4, 5), (73, 5, 6), (73, 8, 9), (75, 0, 1), (75, 1, 2), (75, 2, 3), (75, 3, 4), (75, 4, 5), (75, 5, 6), (75, 6, 7), (76, 0, 1), (76, 1, 2), (76, 2, 3), (76, 3, 4), (76, 4, 5), (76, 5, 6), (76, 6, 7), (77, 0, 1), (77, 1, 2), (77, 2, 3), (77, 3, 4), (77, 4, 5), (77, 5, 6), (77, 6, 7), (77, 7, 8), (81, 0, 1), (81, 3, 4), (87, 2, 3), (87, 4, 5), (87, 6, 7), (87, 9, 10), (87, 10, 11), (87, 11, 12), (88, 7, 8)])
abbrev sn_140 : List se_Nd := []
set_option maxRecDepth 100000 in
theorem sk_140 : se_chk0 se_tt [sc_138] se_Z 37 se_zt sc_140 sn_140 5 = true := by decide +kernel
theorem sm_140 {ty : Nat → Option Nat} {J : List mm_C → Prop} {kx : Nat} {zs : List mm_Zt} (hO : se_Ok ty J kx zs) (h138 : se_Met ty se_tt J kx zs sc_138) : se_Met ty se_tt J kx zs sc_140 := se_sound (C := [sc_138]) hO.1 hO.2.1 hO.2.2 (fun n hn => by
  rcases List.mem_cons.mp hn with rfl | hn
  · exact h138
  exact absurd hn List.not_mem_nil) sk_140 (fun _ hn => absurd hn List.not_mem_nil)
/-- RaftTown$Town.countAfloat -/
def sc_141 : se_C := ((214, 1), ([(((89, 0, 0), 0, (0, 0, 0), (0, 0, 0)), (0, (0, 0, 0), (0, 0, 0)))], [some (1, 0, 0)], [], []), [([(((0, (-2147483648), 2147483647), 0, (0, 0, 0), (0, 0, 0)), (0, (0, 0, 0), (0, 0, 0)))], some (1, 1, 0), [], [])], [])
def sn_141_0 : se_Nd := (4, ([(((89, 0, 0), 0, (0, 0, 0), (0, 0, 0)), (3, (0, 0, 0), (0, 0, 0))), (((0, (-2147483648), 2147483647), 0, (0, 0, 0), (0, 0, 0)), (0, (0, 1, 0), (0, 0, 0))), (((0, 0, 2147483647), 0, (0, 0, 0), (0, 0, 0)), (0, (0, 2, 0), (0, 0, 0)))], [some (1, 0, 0), some (1, 1, 0), some (1, 2, 0)], [], []), [(0, 0, 0), ((-1), 2, 0), (0, 0, 0)])
abbrev sn_141 : List se_Nd := [sn_141_0]
set_option maxRecDepth 100000 in
theorem sk_141 : se_chk0 se_tt [] se_Z 37 se_zt sc_141 sn_141 6 = true := by decide +kernel
set_option maxRecDepth 100000 in
theorem sk_141_0 : se_chkn se_tt [] se_Z 37 se_zt sc_141 sn_141 6 sn_141_0 = true := by decide +kernel
theorem sm_141 {ty : Nat → Option Nat} {J : List mm_C → Prop} {kx : Nat} {zs : List mm_Zt} (hO : se_Ok ty J kx zs) : se_Met ty se_tt J kx zs sc_141 := se_sound (C := []) hO.1 hO.2.1 hO.2.2 (fun _ hn => absurd hn List.not_mem_nil) sk_141 (fun n hn => by
  rcases List.mem_cons.mp hn with rfl | hn
  · exact sk_141_0
  exact absurd hn List.not_mem_nil)
/-- RaftTown$Town.countAlive -/
def sc_142 : se_C := ((215, 1), ([(((89, 0, 0), 0, (0, 0, 0), (0, 0, 0)), (0, (0, 0, 0), (0, 0, 0)))], [some (1, 0, 0)], [], []), [([(((0, (-2147483648), 2147483647), 0, (0, 0, 0), (0, 0, 0)), (0, (0, 0, 0), (0, 0, 0)))], some (1, 1, 0), [], [])], [])
def sn_142_0 : se_Nd := (4, ([(((89, 0, 0), 0, (0, 0, 0), (0, 0, 0)), (3, (0, 0, 0), (0, 0, 0))), (((0, (-2147483648), 2147483647), 0, (0, 0, 0), (0, 0, 0)), (0, (0, 1, 0), (0, 0, 0))), (((0, 0, 14), 0, (0, 0, 0), (0, 0, 0)), (0, (0, 2, 0), (0, 0, 0)))], [some (1, 0, 0), some (1, 1, 0), some (1, 2, 0)], [], []), [(0, 0, 0), ((-1), 2, 0), (0, 0, 0)])
abbrev sn_142 : List se_Nd := [sn_142_0]
set_option maxRecDepth 100000 in
theorem sk_142 : se_chk0 se_tt [] se_Z 37 se_zt sc_142 sn_142 4 = true := by decide +kernel
set_option maxRecDepth 100000 in
theorem sk_142_0 : se_chkn se_tt [] se_Z 37 se_zt sc_142 sn_142 4 sn_142_0 = true := by decide +kernel
theorem sm_142 {ty : Nat → Option Nat} {J : List mm_C → Prop} {kx : Nat} {zs : List mm_Zt} (hO : se_Ok ty J kx zs) : se_Met ty se_tt J kx zs sc_142 := se_sound (C := []) hO.1 hO.2.1 hO.2.2 (fun _ hn => absurd hn List.not_mem_nil) sk_142 (fun n hn => by
  rcases List.mem_cons.mp hn with rfl | hn
  · exact sk_142_0
  exact absurd hn List.not_mem_nil)
/-- RaftTown$Town.countRopes -/
def sc_143 : se_C := ((216, 1), ([(((89, 0, 0), 0, (0, 0, 0), (0, 0, 0)), (0, (0, 0, 0), (0, 0, 0)))], [some (1, 0, 0)], [], []), [([(((0, (-2147483648), 2147483647), 0, (0, 0, 0), (0, 0, 0)), (0, (0, 0, 0), (0, 0, 0)))], some (1, 1, 0), [], [])], [])
def sn_143_0 : se_Nd := (4, ([(((89, 0, 0), 0, (0, 0, 0), (0, 0, 0)), (3, (0, 0, 0), (0, 0, 0))), (((0, (-2147483648), 2147483647), 0, (0, 0, 0), (0, 0, 0)), (0, (0, 1, 0), (0, 0, 0))), (((0, 0, 12), 0, (0, 0, 0), (0, 0, 0)), (0, (0, 2, 0), (0, 0, 0)))], [some (1, 0, 0), some (1, 1, 0), some (1, 2, 0)], [], []), [(0, 0, 0), ((-1), 2, 0), (0, 0, 0)])
abbrev sn_143 : List se_Nd := [sn_143_0]
set_option maxRecDepth 100000 in
theorem sk_143 : se_chk0 se_tt [] se_Z 37 se_zt sc_143 sn_143 4 = true := by decide +kernel
set_option maxRecDepth 100000 in
theorem sk_143_0 : se_chkn se_tt [] se_Z 37 se_zt sc_143 sn_143 4 sn_143_0 = true := by decide +kernel
theorem sm_143 {ty : Nat → Option Nat} {J : List mm_C → Prop} {kx : Nat} {zs : List mm_Zt} (hO : se_Ok ty J kx zs) : se_Met ty se_tt J kx zs sc_143 := se_sound (C := []) hO.1 hO.2.1 hO.2.2 (fun _ hn => absurd hn List.not_mem_nil) sk_143 (fun n hn => by
  rcases List.mem_cons.mp hn with rfl | hn
  · exact sk_143_0
  exact absurd hn List.not_mem_nil)
/-- RaftTown$Town.countCasks -/
def sc_144 : se_C := ((217, 1), ([(((89, 0, 0), 0, (0, 0, 0), (0, 0, 0)), (0, (0, 0, 0), (0, 0, 0)))], [some (1, 0, 0)], [], []), [([(((0, (-2147483648), 2147483647), 0, (0, 0, 0), (0, 0, 0)), (0, (0, 0, 0), (0, 0, 0)))], some (1, 1, 0), [], [])], [])
def sn_144_0 : se_Nd := (4, ([(((89, 0, 0), 0, (0, 0, 0), (0, 0, 0)), (3, (0, 0, 0), (0, 0, 0))), (((0, (-2147483648), 2147483647), 0, (0, 0, 0), (0, 0, 0)), (0, (0, 1, 0), (0, 0, 0))), (((0, 0, 10), 0, (0, 0, 0), (0, 0, 0)), (0, (0, 2, 0), (0, 0, 0)))], [some (1, 0, 0), some (1, 1, 0), some (1, 2, 0)], [], []), [(0, 0, 0), ((-1), 2, 0), (0, 0, 0)])
abbrev sn_144 : List se_Nd := [sn_144_0]
set_option maxRecDepth 100000 in
theorem sk_144 : se_chk0 se_tt [] se_Z 37 se_zt sc_144 sn_144 5 = true := by decide +kernel
set_option maxRecDepth 100000 in
theorem sk_144_0 : se_chkn se_tt [] se_Z 37 se_zt sc_144 sn_144 5 sn_144_0 = true := by decide +kernel
theorem sm_144 {ty : Nat → Option Nat} {J : List mm_C → Prop} {kx : Nat} {zs : List mm_Zt} (hO : se_Ok ty J kx zs) : se_Met ty se_tt J kx zs sc_144 := se_sound (C := []) hO.1 hO.2.1 hO.2.2 (fun _ hn => absurd hn List.not_mem_nil) sk_144 (fun n hn => by
  rcases List.mem_cons.mp hn with rfl | hn
  · exact sk_144_0
  exact absurd hn List.not_mem_nil)
/-- RaftTown.count -/
def sc_145 : se_C := ((213, 2), ([(((90, 0, 0), 0, (0, 0, 0), (0, 0, 0)), (0, (0, 0, 0), (0, 0, 0))), (((0, (-2147483648), 2147483647), 0, (0, 0, 0), (0, 0, 0)), (0, (0, 1, 0), (0, 0, 0)))], [some (1, 0, 0), some (1, 1, 0)], [], []), [([(((0, (-2147483648), 2147483647), 0, (0, 0, 0), (0, 0, 0)), (0, (0, 0, 0), (0, 0, 0)))], some (1, 2, 0), [], [])], [(88, 7, 8)])
abbrev sn_145 : List se_Nd := []
set_option maxRecDepth 100000 in
theorem sk_145 : se_chk0 se_tt [sc_141, sc_142, sc_143, sc_144] se_Z 37 se_zt sc_145 sn_145 5 = true := by decide +kernel
theorem sm_145 {ty : Nat → Option Nat} {J : List mm_C → Prop} {kx : Nat} {zs : List mm_Zt} (hO : se_Ok ty J kx zs) (h141 : se_Met ty se_tt J kx zs sc_141) (h142 : se_Met ty se_tt J kx zs sc_142) (h143 : se_Met ty se_tt J kx zs sc_143) (h144 : se_Met ty se_tt J kx zs sc_144) : se_Met ty se_tt J kx zs sc_145 := se_sound (C := [sc_141, sc_142, sc_143, sc_144]) hO.1 hO.2.1 hO.2.2 (fun n hn => by
  rcases List.mem_cons.mp hn with rfl | hn
  · exact h141
  rcases List.mem_cons.mp hn with rfl | hn
  · exact h142
  rcases List.mem_cons.mp hn with rfl | hn
  · exact h143
  rcases List.mem_cons.mp hn with rfl | hn
  · exact h144
  exact absurd hn List.not_mem_nil) sk_145 (fun _ hn => absurd hn List.not_mem_nil)
/-- RaftTownModel.stream -/
def sc_146 : se_C := ((219, 1), ([(((91, 0, 0), 0, (0, 0, 0), (0, 0, 0)), (0, (0, 0, 0), (0, 0, 0))), (((0, (-2147483648), 2147483647), 0, (0, 0, 0), (0, 0, 0)), (0, (0, 1, 0), (0, 0, 0))), (((0, (-2147483648), 2147483647), 0, (0, 0, 0), (0, 0, 0)), (0, (0, 2, 0), (0, 0, 0))), (((0, (-2147483648), 2147483647), 0, (0, 0, 0), (0, 0, 0)), (0, (0, 3, 0), (0, 0, 0)))], [some (1, 0, 0), some (1, 1, 0), some (1, 2, 0), some (1, 3, 0)], [], []), [([(((0, (-100001), 1), 0, (0, 0, 0), (0, 0, 0)), (0, (0, 0, 0), (0, 0, 0)))], some (1, 4, 0), [], [])], [(56, 0, 528), (89, 3, 4)])
abbrev sn_146 : List se_Nd := []
set_option maxRecDepth 100000 in
theorem sk_146 : se_chk0 se_tt [] se_Z 37 se_zt sc_146 sn_146 6 = true := by decide +kernel
theorem sm_146 {ty : Nat → Option Nat} {J : List mm_C → Prop} {kx : Nat} {zs : List mm_Zt} (hO : se_Ok ty J kx zs) : se_Met ty se_tt J kx zs sc_146 := se_sound (C := []) hO.1 hO.2.1 hO.2.2 (fun _ hn => absurd hn List.not_mem_nil) sk_146 (fun _ hn => absurd hn List.not_mem_nil)
/-- RaftTownModel.raft -/
def sc_147 : se_C := ((222, 1), ([(((91, 0, 0), 0, (0, 0, 0), (0, 0, 0)), (0, (0, 0, 0), (0, 0, 0))), (((0, (-2147483648), 2147483647), 0, (0, 0, 0), (0, 0, 0)), (0, (0, 1, 0), (0, 0, 0))), (((0, (-2147483648), 2147483647), 0, (0, 0, 0), (0, 0, 0)), (0, (0, 2, 0), (0, 0, 0))), (((0, (-2147483648), 2147483647), 0, (0, 0, 0), (0, 0, 0)), (0, (0, 3, 0), (0, 0, 0))), (((0, (-2147483648), 2147483647), 0, (0, 0, 0), (0, 0, 0)), (0, (0, 4, 0), (0, 0, 0)))], [some (1, 0, 0), some (1, 1, 0), some (1, 2, 0), some (1, 3, 0), some (1, 4, 0)], [], []), [([(((0, (-100005), 9), 0, (0, 0, 0), (0, 0, 0)), (0, (0, 0, 0), (0, 0, 0)))], some (1, 5, 0), [], [])], [(56, 0, 528), (89, 3, 4)])
abbrev sn_147 : List se_Nd := []
set_option maxRecDepth 100000 in
theorem sk_147 : se_chk0 se_tt [] se_Z 37 se_zt sc_147 sn_147 8 = true := by decide +kernel
theorem sm_147 {ty : Nat → Option Nat} {J : List mm_C → Prop} {kx : Nat} {zs : List mm_Zt} (hO : se_Ok ty J kx zs) : se_Met ty se_tt J kx zs sc_147 := se_sound (C := []) hO.1 hO.2.1 hO.2.2 (fun _ hn => absurd hn List.not_mem_nil) sk_147 (fun _ hn => absurd hn List.not_mem_nil)
/-- RaftTownModel.as -/
def sc_148 : se_C := ((224, 1), ([(((91, 0, 0), 0, (0, 0, 0), (0, 0, 0)), (0, (0, 0, 0), (0, 0, 0))), (((0, (-2147483648), 2147483647), 0, (0, 0, 0), (0, 0, 0)), (0, (0, 1, 0), (0, 0, 0))), (((0, (-2147483648), 2147483647), 0, (0, 0, 0), (0, 0, 0)), (0, (0, 2, 0), (0, 0, 0)))], [some (1, 0, 0), some (1, 1, 0), some (1, 2, 0)], [], []), [([(((0, (-100004), 9), 0, (0, 0, 0), (0, 0, 0)), (0, (0, 0, 0), (0, 0, 0)))], some (1, 3, 0), [], [])], [(89, 3, 4)])
abbrev sn_148 : List se_Nd := []
set_option maxRecDepth 100000 in
theorem sk_148 : se_chk0 se_tt [] se_Z 37 se_zt sc_148 sn_148 7 = true := by decide +kernel
theorem sm_148 {ty : Nat → Option Nat} {J : List mm_C → Prop} {kx : Nat} {zs : List mm_Zt} (hO : se_Ok ty J kx zs) : se_Met ty se_tt J kx zs sc_148 := se_sound (C := []) hO.1 hO.2.1 hO.2.2 (fun _ hn => absurd hn List.not_mem_nil) sk_148 (fun _ hn => absurd hn List.not_mem_nil)
/-- RaftTownModel.areaOf -/
def sc_149 : se_C := ((232, 1), ([(((91, 0, 0), 0, (0, 0, 0), (0, 0, 0)), (0, (0, 0, 0), (0, 0, 0))), (((0, 0, 9), 0, (0, 0, 0), (0, 0, 0)), (0, (0, 1, 0), (0, 0, 0)))], [some (1, 0, 0), some (1, 1, 0)], [], []), [([(((0, 0, 3), 0, (0, 0, 0), (0, 0, 0)), (0, (0, 0, 0), (0, 0, 0)))], some (1, 2, 0), [], [])], [])
abbrev sn_149 : List se_Nd := []
set_option maxRecDepth 100000 in
theorem sk_149 : se_chk0 se_tt [] se_Z 37 se_zt sc_149 sn_149 5 = true := by decide +kernel
theorem sm_149 {ty : Nat → Option Nat} {J : List mm_C → Prop} {kx : Nat} {zs : List mm_Zt} (hO : se_Ok ty J kx zs) : se_Met ty se_tt J kx zs sc_149 := se_sound (C := []) hO.1 hO.2.1 hO.2.2 (fun _ hn => absurd hn List.not_mem_nil) sk_149 (fun _ hn => absurd hn List.not_mem_nil)
