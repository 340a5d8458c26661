/-! ===== printed by wip/p2/gen_tab.py: contracts and their checks ===== -/
/-- RaftTown.copy -/
def sc_120 : se_C := ((203, 1), ([(((90, 0, 0), 0, (0, 0, 0), (0, 0, 0)), (0, (0, 0, 0), (0, 0, 0))), (((0, (-2147483648), 2147483647), 0, (0, 0, 0), (0, 0, 0)), (0, (0, 1, 0), (0, 0, 0))), (((0, (-2147483648), 2147483647), 0, (0, 0, 0), (0, 0, 0)), (0, (0, 2, 0), (0, 0, 0))), (((0, (-2147483648), 2147483647), 0, (0, 0, 0), (0, 0, 0)), (0, (0, 3, 0), (0, 0, 0))), (((0, (-2147483648), 2147483647), 0, (0, 0, 0), (0, 0, 0)), (0, (0, 4, 0), (0, 0, 0))), (((0, (-2147483648), 2147483647), 0, (0, 0, 0), (0, 0, 0)), (0, (0, 5, 0), (0, 0, 0)))], [some (1, 0, 0), some (1, 1, 0), some (1, 2, 0), some (1, 3, 0), some (1, 4, 0), some (1, 5, 0)], [], []), [([(((0, (-100004), 20), 0, (0, 0, 0), (0, 0, 0)), (0, (0, 0, 0), (0, 0, 0)))], some (1, 6, 0), [], [])], [(52, 0, 20), (88, 7, 8)])
abbrev sn_120 : List se_Nd := []
set_option maxRecDepth 100000 in
theorem sk_120 : se_chk0 se_tt [] se_Z 37 se_zt sc_120 sn_120 7 = true := by decide +kernel
theorem sm_120 {ty : Nat → Option Nat} {J : List mm_C → Prop} {kx : Nat} {zs : List mm_Zt} (hO : se_Ok ty J kx zs) : se_Met ty se_tt J kx zs sc_120 := se_sound (C := []) hO.1 hO.2.1 hO.2.2 (fun _ hn => absurd hn List.not_mem_nil) sk_120 (fun _ hn => absurd hn List.not_mem_nil)
/-- RaftTown$Log.take -/
def sc_121 : se_C := ((211, 1), ([(((75, 0, 0), 0, (0, 0, 0), (0, 0, 0)), (0, (0, 0, 0), (0, 0, 0))), (((75, 0, 0), 0, (0, 0, 0), (0, 0, 0)), (0, (0, 1, 0), (0, 0, 0)))], [some (1, 0, 0), some (1, 1, 0)], [], []), [([], none, [], [])], [(39, 0, 40), (40, 0, 40), (41, 0, 40), (42, 0, 40), (43, 0, 12), (44, 0, 12), (73, 4, 5), (73, 5, 6), (73, 8, 9)])
abbrev sn_121 : List se_Nd := []
set_option maxRecDepth 100000 in
theorem sk_121 : se_chk0 se_tt [] se_Z 37 se_zt sc_121 sn_121 6 = true := by decide +kernel
theorem sm_121 {ty : Nat → Option Nat} {J : List mm_C → Prop} {kx : Nat} {zs : List mm_Zt} (hO : se_Ok ty J kx zs) : se_Met ty se_tt J kx zs sc_121 := se_sound (C := []) hO.1 hO.2.1 hO.2.2 (fun _ hn => absurd hn List.not_mem_nil) sk_121 (fun _ hn => absurd hn List.not_mem_nil)
/-- RaftTown$Town.take -/
def sc_122 : se_C := ((206, 2), ([(((89, 0, 0), 0, (0, 0, 0), (0, 0, 0)), (0, (0, 0, 0), (0, 0, 0))), (((89, 0, 0), 0, (0, 0, 0), (0, 0, 0)), (0, (0, 1, 0), (0, 0, 0)))], [some (1, 0, 0), some (1, 1, 0)], [], []), [([], none, [], [])], [(39, 0, 40), (40, 0, 40), (41, 0, 40), (42, 0, 40), (43, 0, 12), (44, 0, 12), (49, 0, 36), (50, 0, 36), (54, 0, 160), (55, 0, 3), (73, 4, 5), (73, 5, 6), (73, 8, 9), (75, 0, 1), (75, 1, 2), (75, 2, 3), (75, 3, 4), (75, 4, 5), (75, 5, 6), (75, 6, 7), (76, 0, 1), (76, 1, 2), (76, 2, 3), (76, 3, 4), (76, 4, 5), (76, 5, 6), (76, 6, 7), (77, 0, 1), (77, 1, 2), (77, 2, 3), (77, 3, 4), (77, 4, 5), (77, 5, 6), (77, 6, 7), (77, 7, 8), (81, 0, 1), (81, 3, 4), (87, 2, 3), (87, 4, 5), (87, 6, 7), (87, 9, 10), (87, 10, 11), (87, 11, 12)])
def sn_122_0 : se_Nd := (13, ([(((89, 0, 0), 0, (0, 0, 0), (0, 0, 0)), (3, (0, 0, 0), (0, 0, 0))), (((89, 0, 0), 0, (0, 0, 0), (0, 0, 0)), (3, (0, 1, 0), (0, 0, 0))), (((0, 0, 10), 0, (0, 0, 0), (0, 0, 0)), (0, (0, 2, 0), (0, 0, 0)))], [some (1, 0, 0), some (1, 1, 0), some (1, 2, 0)], [], []), [(0, 0, 3), ((-1), 2, 0), (0, 0, 0)])
def sn_122_1 : se_Nd := (50, ([(((89, 0, 0), 0, (0, 0, 0), (0, 0, 0)), (3, (0, 0, 0), (0, 0, 0))), (((89, 0, 0), 0, (0, 0, 0), (0, 0, 0)), (3, (0, 1, 0), (0, 0, 0))), (((0, 0, 14), 0, (0, 0, 0), (0, 0, 0)), (0, (0, 2, 0), (0, 0, 0)))], [some (1, 0, 0), some (1, 1, 0), some (1, 2, 0)], [], []), [(0, 0, 2), ((-1), 2, 0), (0, 0, 0)])
def sn_122_2 : se_Nd := (87, ([(((89, 0, 0), 0, (0, 0, 0), (0, 0, 0)), (3, (0, 0, 0), (0, 0, 0))), (((89, 0, 0), 0, (0, 0, 0), (0, 0, 0)), (3, (0, 1, 0), (0, 0, 0))), (((0, 0, 12), 0, (0, 0, 0), (0, 0, 0)), (0, (0, 2, 0), (0, 0, 0)))], [some (1, 0, 0), some (1, 1, 0), some (1, 2, 0)], [], []), [(0, 0, 1), ((-1), 2, 0), (0, 0, 0)])
def sn_122_3 : se_Nd := (135, ([(((89, 0, 0), 0, (0, 0, 0), (0, 0, 0)), (3, (0, 0, 0), (0, 0, 0))), (((89, 0, 0), 0, (0, 0, 0), (0, 0, 0)), (3, (0, 1, 0), (0, 0, 0))), (((0, 0, 5), 0, (0, 0, 0), (0, 0, 0)), (0, (0, 2, 0), (0, 0, 0)))], [some (1, 0, 0), some (1, 1, 0), some (1, 2, 0)], [], []), [(0, 0, 0), ((-1), 2, 0), (0, 0, 0)])
abbrev sn_122 : List se_Nd := [sn_122_0, sn_122_1, sn_122_2, sn_122_3]
set_option maxRecDepth 100000 in
theorem sk_122 : se_chk0 se_tt [sc_121] se_Z 37 se_zt sc_122 sn_122 7 = true := by decide +kernel
set_option maxRecDepth 100000 in
theorem sk_122_0 : se_chkn se_tt [sc_121] se_Z 37 se_zt sc_122 sn_122 7 sn_122_0 = true := by decide +kernel
set_option maxRecDepth 100000 in
theorem sk_122_1 : se_chkn se_tt [sc_121] se_Z 37 se_zt sc_122 sn_122 7 sn_122_1 = true := by decide +kernel
set_option maxRecDepth 100000 in
theorem sk_122_2 : se_chkn se_tt [sc_121] se_Z 37 se_zt sc_122 sn_122 7 sn_122_2 = true := by decide +kernel
set_option maxRecDepth 100000 in
theorem sk_122_3 : se_chkn se_tt [sc_121] se_Z 37 se_zt sc_122 sn_122 7 sn_122_3 = true := by decide +kernel
theorem sm_122 {ty : Nat → Option Nat} {J : List mm_C → Prop} {kx : Nat} {zs : List mm_Zt} (hO : se_Ok ty J kx zs) (h121 : se_Met ty se_tt J kx zs sc_121) : se_Met ty se_tt J kx zs sc_122 := se_sound (C := [sc_121]) hO.1 hO.2.1 hO.2.2 (fun n hn => by
  rcases List.mem_cons.mp hn with rfl | hn
  · exact h121
  exact absurd hn List.not_mem_nil) sk_122 (fun n hn => by
  rcases List.mem_cons.mp hn with rfl | hn
  · exact sk_122_0
  rcases List.mem_cons.mp hn with rfl | hn
  · exact sk_122_1
  rcases List.mem_cons.mp hn with rfl | hn
  · exact sk_122_2
  rcases List.mem_cons.mp hn with rfl | hn
  · exact sk_122_3
  exact absurd hn List.not_mem_nil)
/-- RaftTown.image -/
def sc_123 : se_C := ((205, 3), ([(((90, 0, 0), 0, (0, 0, 0), (0, 0, 0)), (0, (0, 0, 0), (0, 0, 0)))], [some (1, 0, 0)], [], []), [([(((0, (-2147483648), 2147483647), 0, (0, 0, 0), (0, 0, 0)), (0, (0, 0, 0), (0, 0, 0)))], some (1, 1, 0), [], [])], [(39, 0, 40), (40, 0, 40), (41, 0, 40), (42, 0, 40), (43, 0, 12), (44, 0, 12), (49, 0, 36), (50, 0, 36), (54, 0, 160), (55, 0, 3), (73, 4, 5), (73, 5, 6), (73, 8, 9), (75, 0, 1), (75, 1, 2), (75, 2, 3), (75, 3, 4), (75, 4, 5), (75, 5, 6), (75, 6, 7), (76, 0, 1), (76, 1, 2), (76, 2, 3), (76, 3, 4), (76, 4, 5), (76, 5, 6), (76, 6, 7), (77, 0, 1), (77, 1, 2), (77, 2, 3), (77, 3, 4), (77, 4, 5), (77, 5, 6), (77, 6, 7), (77, 7, 8), (81, 0, 1), (81, 3, 4), (87, 2, 3), (87, 4, 5), (87, 6, 7), (87, 9, 10), (87, 10, 11), (87, 11, 12), (88, 2, 3)])
abbrev sn_123 : List se_Nd := []
set_option maxRecDepth 100000 in
theorem sk_123 : se_chk0 se_tt [sc_122] se_Z 37 se_zt sc_123 sn_123 4 = true := by decide +kernel
theorem sm_123 {ty : Nat → Option Nat} {J : List mm_C → Prop} {kx : Nat} {zs : List mm_Zt} (hO : se_Ok ty J kx zs) (h122 : se_Met ty se_tt J kx zs sc_122) : se_Met ty se_tt J kx zs sc_123 := se_sound (C := [sc_122]) hO.1 hO.2.1 hO.2.2 (fun n hn => by
  rcases List.mem_cons.mp hn with rfl | hn
  · exact h122
  exact absurd hn List.not_mem_nil) sk_123 (fun _ hn => absurd hn List.not_mem_nil)
/-- RaftTown.restore -/
def sc_124 : se_C := ((212, 3), ([(((90, 0, 0), 0, (0, 0, 0), (0, 0, 0)), (0, (0, 0, 0), (0, 0, 0)))], [some (1, 0, 0)], [], []), [([(((0, (-2147483648), 2147483647), 0, (0, 0, 0), (0, 0, 0)), (0, (0, 0, 0), (0, 0, 0)))], some (1, 1, 0), [], [])], [(39, 0, 40), (40, 0, 40), (41, 0, 40), (42, 0, 40), (43, 0, 12), (44, 0, 12), (49, 0, 36), (50, 0, 36), (54, 0, 160), (55, 0, 3), (73, 4, 5), (73, 5, 6), (73, 8, 9), (75, 0, 1), (75, 1, 2), (75, 2, 3), (75, 3, 4), (75, 4, 5), (75, 5, 6), (75, 6, 7), (76, 0, 1), (76, 1, 2), (76, 2, 3), (76, 3, 4), (76, 4, 5), (76, 5, 6), (76, 6, 7), (77, 0, 1), (77, 1, 2), (77, 2, 3), (77, 3, 4), (77, 4, 5), (77, 5, 6), (77, 6, 7), (77, 7, 8), (81, 0, 1), (81, 3, 4), (87, 2, 3), (87, 4, 5), (87, 6, 7), (87, 9, 10), (87, 10, 11), (87, 11, 12), (88, 7, 8)])
abbrev sn_124 : List se_Nd := []
set_option maxRecDepth 100000 in
theorem sk_124 : se_chk0 se_tt [sc_122] se_Z 37 se_zt sc_124 sn_124 5 = true := by decide +kernel
theorem sm_124 {ty : Nat → Option Nat} {J : List mm_C → Prop} {kx : Nat} {zs : List mm_Zt} (hO : se_Ok ty J kx zs) (h122 : se_Met ty se_tt J kx zs sc_122) : se_Met ty se_tt J kx zs sc_124 := se_sound (C := [sc_122]) hO.1 hO.2.1 hO.2.2 (fun n hn => by
  rcases List.mem_cons.mp hn with rfl | hn
  · exact h122
  exact absurd hn List.not_mem_nil) sk_124 (fun _ hn => absurd hn List.not_mem_nil)
/-- RaftTown$Town.countAfloat -/
def sc_125 : se_C := ((214, 1), ([(((89, 0, 0), 0, (0, 0, 0), (0, 0, 0)), (0, (0, 0, 0), (0, 0, 0)))], [some (1, 0, 0)], [], []), [([(((0, (-2147483648), 2147483647), 0, (0, 0, 0), (0, 0, 0)), (0, (0, 0, 0), (0, 0, 0)))], some (1, 1, 0), [], [])], [])
def sn_125_0 : se_Nd := (4, ([(((89, 0, 0), 0, (0, 0, 0), (0, 0, 0)), (3, (0, 0, 0), (0, 0, 0))), (((0, (-2147483648), 2147483647), 0, (0, 0, 0), (0, 0, 0)), (0, (0, 1, 0), (0, 0, 0))), (((0, 0, 2147483647), 0, (0, 0, 0), (0, 0, 0)), (0, (0, 2, 0), (0, 0, 0)))], [some (1, 0, 0), some (1, 1, 0), some (1, 2, 0)], [], []), [(0, 0, 0), ((-1), 2, 0), (0, 0, 0)])
abbrev sn_125 : List se_Nd := [sn_125_0]
set_option maxRecDepth 100000 in
theorem sk_125 : se_chk0 se_tt [] se_Z 37 se_zt sc_125 sn_125 6 = true := by decide +kernel
set_option maxRecDepth 100000 in
theorem sk_125_0 : se_chkn se_tt [] se_Z 37 se_zt sc_125 sn_125 6 sn_125_0 = true := by decide +kernel
theorem sm_125 {ty : Nat → Option Nat} {J : List mm_C → Prop} {kx : Nat} {zs : List mm_Zt} (hO : se_Ok ty J kx zs) : se_Met ty se_tt J kx zs sc_125 := se_sound (C := []) hO.1 hO.2.1 hO.2.2 (fun _ hn => absurd hn List.not_mem_nil) sk_125 (fun n hn => by
  rcases List.mem_cons.mp hn with rfl | hn
  · exact sk_125_0
  exact absurd hn List.not_mem_nil)
/-- RaftTown$Town.countAlive -/
def sc_126 : se_C := ((215, 1), ([(((89, 0, 0), 0, (0, 0, 0), (0, 0, 0)), (0, (0, 0, 0), (0, 0, 0)))], [some (1, 0, 0)], [], []), [([(((0, (-2147483648), 2147483647), 0, (0, 0, 0), (0, 0, 0)), (0, (0, 0, 0), (0, 0, 0)))], some (1, 1, 0), [], [])], [])
def sn_126_0 : se_Nd := (4, ([(((89, 0, 0), 0, (0, 0, 0), (0, 0, 0)), (3, (0, 0, 0), (0, 0, 0))), (((0, (-2147483648), 2147483647), 0, (0, 0, 0), (0, 0, 0)), (0, (0, 1, 0), (0, 0, 0))), (((0, 0, 14), 0, (0, 0, 0), (0, 0, 0)), (0, (0, 2, 0), (0, 0, 0)))], [some (1, 0, 0), some (1, 1, 0), some (1, 2, 0)], [], []), [(0, 0, 0), ((-1), 2, 0), (0, 0, 0)])
abbrev sn_126 : List se_Nd := [sn_126_0]
set_option maxRecDepth 100000 in
theorem sk_126 : se_chk0 se_tt [] se_Z 37 se_zt sc_126 sn_126 4 = true := by decide +kernel
set_option maxRecDepth 100000 in
theorem sk_126_0 : se_chkn se_tt [] se_Z 37 se_zt sc_126 sn_126 4 sn_126_0 = true := by decide +kernel
theorem sm_126 {ty : Nat → Option Nat} {J : List mm_C → Prop} {kx : Nat} {zs : List mm_Zt} (hO : se_Ok ty J kx zs) : se_Met ty se_tt J kx zs sc_126 := se_sound (C := []) hO.1 hO.2.1 hO.2.2 (fun _ hn => absurd hn List.not_mem_nil) sk_126 (fun n hn => by
  rcases List.mem_cons.mp hn with rfl | hn
  · exact sk_126_0
  exact absurd hn List.not_mem_nil)
/-- RaftTown$Town.countRopes -/
def sc_127 : se_C := ((216, 1), ([(((89, 0, 0), 0, (0, 0, 0), (0, 0, 0)), (0, (0, 0, 0), (0, 0, 0)))], [some (1, 0, 0)], [], []), [([(((0, (-2147483648), 2147483647), 0, (0, 0, 0), (0, 0, 0)), (0, (0, 0, 0), (0, 0, 0)))], some (1, 1, 0), [], [])], [])
def sn_127_0 : se_Nd := (4, ([(((89, 0, 0), 0, (0, 0, 0), (0, 0, 0)), (3, (0, 0, 0), (0, 0, 0))), (((0, (-2147483648), 2147483647), 0, (0, 0, 0), (0, 0, 0)), (0, (0, 1, 0), (0, 0, 0))), (((0, 0, 12), 0, (0, 0, 0), (0, 0, 0)), (0, (0, 2, 0), (0, 0, 0)))], [some (1, 0, 0), some (1, 1, 0), some (1, 2, 0)], [], []), [(0, 0, 0), ((-1), 2, 0), (0, 0, 0)])
abbrev sn_127 : List se_Nd := [sn_127_0]
set_option maxRecDepth 100000 in
theorem sk_127 : se_chk0 se_tt [] se_Z 37 se_zt sc_127 sn_127 4 = true := by decide +kernel
set_option maxRecDepth 100000 in
theorem sk_127_0 : se_chkn se_tt [] se_Z 37 se_zt sc_127 sn_127 4 sn_127_0 = true := by decide +kernel
theorem sm_127 {ty : Nat → Option Nat} {J : List mm_C → Prop} {kx : Nat} {zs : List mm_Zt} (hO : se_Ok ty J kx zs) : se_Met ty se_tt J kx zs sc_127 := se_sound (C := []) hO.1 hO.2.1 hO.2.2 (fun _ hn => absurd hn List.not_mem_nil) sk_127 (fun n hn => by
  rcases List.mem_cons.mp hn with rfl | hn
  · exact sk_127_0
  exact absurd hn List.not_mem_nil)
/-- RaftTown$Town.countCasks -/
def sc_128 : se_C := ((217, 1), ([(((89, 0, 0), 0, (0, 0, 0), (0, 0, 0)), (0, (0, 0, 0), (0, 0, 0)))], [some (1, 0, 0)], [], []), [([(((0, (-2147483648), 2147483647), 0, (0, 0, 0), (0, 0, 0)), (0, (0, 0, 0), (0, 0, 0)))], some (1, 1, 0), [], [])], [])
def sn_128_0 : se_Nd := (4, ([(((89, 0, 0), 0, (0, 0, 0), (0, 0, 0)), (3, (0, 0, 0), (0, 0, 0))), (((0, (-2147483648), 2147483647), 0, (0, 0, 0), (0, 0, 0)), (0, (0, 1, 0), (0, 0, 0))), (((0, 0, 10), 0, (0, 0, 0), (0, 0, 0)), (0, (0, 2, 0), (0, 0, 0)))], [some (1, 0, 0), some (1, 1, 0), some (1, 2, 0)], [], []), [(0, 0, 0), ((-1), 2, 0), (0, 0, 0)])
abbrev sn_128 : List se_Nd := [sn_128_0]
set_option maxRecDepth 100000 in
theorem sk_128 : se_chk0 se_tt [] se_Z 37 se_zt sc_128 sn_128 5 = true := by decide +kernel
set_option maxRecDepth 100000 in
theorem sk_128_0 : se_chkn se_tt [] se_Z 37 se_zt sc_128 sn_128 5 sn_128_0 = true := by decide +kernel
theorem sm_128 {ty : Nat → Option Nat} {J : List mm_C → Prop} {kx : Nat} {zs : List mm_Zt} (hO : se_Ok ty J kx zs) : se_Met ty se_tt J kx zs sc_128 := se_sound (C := []) hO.1 hO.2.1 hO.2.2 (fun _ hn => absurd hn List.not_mem_nil) sk_128 (fun n hn => by
  rcases List.mem_cons.mp hn with rfl | hn
  · exact sk_128_0
  exact absurd hn List.not_mem_nil)
/-- RaftTown.count -/
def sc_129 : se_C := ((213, 2), ([(((90, 0, 0), 0, (0, 0, 0), (0, 0, 0)), (0, (0, 0, 0), (0, 0, 0))), (((0, (-2147483648), 2147483647), 0, (0, 0, 0), (0, 0, 0)), (0, (0, 1, 0), (0, 0, 0)))], [some (1, 0, 0), some (1, 1, 0)], [], []), [([(((0, (-2147483648), 2147483647), 0, (0, 0, 0), (0, 0, 0)), (0, (0, 0, 0), (0, 0, 0)))], some (1, 2, 0), [], [])], [(88, 7, 8)])
abbrev sn_129 : List se_Nd := []
set_option maxRecDepth 100000 in
theorem sk_129 : se_chk0 se_tt [sc_125, sc_126, sc_127, sc_128] se_Z 37 se_zt sc_129 sn_129 5 = true := by decide +kernel
theorem sm_129 {ty : Nat → Option Nat} {J : List mm_C → Prop} {kx : Nat} {zs : List mm_Zt} (hO : se_Ok ty J kx zs) (h125 : se_Met ty se_tt J kx zs sc_125) (h126 : se_Met ty se_tt J kx zs sc_126) (h127 : se_Met ty se_tt J kx zs sc_127) (h128 : se_Met ty se_tt J kx zs sc_128) : se_Met ty se_tt J kx zs sc_129 := se_sound (C := [sc_125, sc_126, sc_127, sc_128]) hO.1 hO.2.1 hO.2.2 (fun n hn => by
  rcases List.mem_cons.mp hn with rfl | hn
  · exact h125
  rcases List.mem_cons.mp hn with rfl | hn
  · exact h126
  rcases List.mem_cons.mp hn with rfl | hn
  · exact h127
  rcases List.mem_cons.mp hn with rfl | hn
  · exact h128
  exact absurd hn List.not_mem_nil) sk_129 (fun _ hn => absurd hn List.not_mem_nil)
/-- RaftTownModel.stream -/
def sc_130 : se_C := ((219, 1), ([(((91, 0, 0), 0, (0, 0, 0), (0, 0, 0)), (0, (0, 0, 0), (0, 0, 0))), (((0, (-2147483648), 2147483647), 0, (0, 0, 0), (0, 0, 0)), (0, (0, 1, 0), (0, 0, 0))), (((0, (-2147483648), 2147483647), 0, (0, 0, 0), (0, 0, 0)), (0, (0, 2, 0), (0, 0, 0))), (((0, (-2147483648), 2147483647), 0, (0, 0, 0), (0, 0, 0)), (0, (0, 3, 0), (0, 0, 0)))], [some (1, 0, 0), some (1, 1, 0), some (1, 2, 0), some (1, 3, 0)], [], []), [([(((0, (-100001), 1), 0, (0, 0, 0), (0, 0, 0)), (0, (0, 0, 0), (0, 0, 0)))], some (1, 4, 0), [], [])], [(56, 0, 528), (89, 3, 4)])
abbrev sn_130 : List se_Nd := []
set_option maxRecDepth 100000 in
theorem sk_130 : se_chk0 se_tt [] se_Z 37 se_zt sc_130 sn_130 6 = true := by decide +kernel
theorem sm_130 {ty : Nat → Option Nat} {J : List mm_C → Prop} {kx : Nat} {zs : List mm_Zt} (hO : se_Ok ty J kx zs) : se_Met ty se_tt J kx zs sc_130 := se_sound (C := []) hO.1 hO.2.1 hO.2.2 (fun _ hn => absurd hn List.not_mem_nil) sk_130 (fun _ hn => absurd hn List.not_mem_nil)
/-- RaftTownModel.raft -/
def sc_131 : se_C := ((222, 1), ([(((91, 0, 0), 0, (0, 0, 0), (0, 0, 0)), (0, (0, 0, 0), (0, 0, 0))), (((0, (-2147483648), 2147483647), 0, (0, 0, 0), (0, 0, 0)), (0, (0, 1, 0), (0, 0, 0))), (((0, (-2147483648), 2147483647), 0, (0, 0, 0), (0, 0, 0)), (0, (0, 2, 0), (0, 0, 0))), (((0, (-2147483648), 2147483647), 0, (0, 0, 0), (0, 0, 0)), (0, (0, 3, 0), (0, 0, 0))), (((0, (-2147483648), 2147483647), 0, (0, 0, 0), (0, 0, 0)), (0, (0, 4, 0), (0, 0, 0)))], [some (1, 0, 0), some (1, 1, 0), some (1, 2, 0), some (1, 3, 0), some (1, 4, 0)], [], []), [([(((0, (-100005), 9), 0, (0, 0, 0), (0, 0, 0)), (0, (0, 0, 0), (0, 0, 0)))], some (1, 5, 0), [], [])], [(56, 0, 528), (89, 3, 4)])
abbrev sn_131 : List se_Nd := []
set_option maxRecDepth 100000 in
theorem sk_131 : se_chk0 se_tt [] se_Z 37 se_zt sc_131 sn_131 8 = true := by decide +kernel
theorem sm_131 {ty : Nat → Option Nat} {J : List mm_C → Prop} {kx : Nat} {zs : List mm_Zt} (hO : se_Ok ty J kx zs) : se_Met ty se_tt J kx zs sc_131 := se_sound (C := []) hO.1 hO.2.1 hO.2.2 (fun _ hn => absurd hn List.not_mem_nil) sk_131 (fun _ hn => absurd hn List.not_mem_nil)
/-- RaftTownModel.as -/
def sc_132 : se_C := ((224, 1), ([(((91, 0, 0), 0, (0, 0, 0), (0, 0, 0)), (0, (0, 0, 0), (0, 0, 0))), (((0, (-2147483648), 2147483647), 0, (0, 0, 0), (0, 0, 0)), (0, (0, 1, 0), (0, 0, 0))), (((0, (-2147483648), 2147483647), 0, (0, 0, 0), (0, 0, 0)), (0, (0, 2, 0), (0, 0, 0)))], [some (1, 0, 0), some (1, 1, 0), some (1, 2, 0)], [], []), [([(((0, (-100004), 9), 0, (0, 0, 0), (0, 0, 0)), (0, (0, 0, 0), (0, 0, 0)))], some (1, 3, 0), [], [])], [(89, 3, 4)])
abbrev sn_132 : List se_Nd := []
set_option maxRecDepth 100000 in
theorem sk_132 : se_chk0 se_tt [] se_Z 37 se_zt sc_132 sn_132 7 = true := by decide +kernel
theorem sm_132 {ty : Nat → Option Nat} {J : List mm_C → Prop} {kx : Nat} {zs : List mm_Zt} (hO : se_Ok ty J kx zs) : se_Met ty se_tt J kx zs sc_132 := se_sound (C := []) hO.1 hO.2.1 hO.2.2 (fun _ hn => absurd hn List.not_mem_nil) sk_132 (fun _ hn => absurd hn List.not_mem_nil)
/-- RaftTownModel.areaOf -/
def sc_133 : se_C := ((232, 1), ([(((91, 0, 0), 0, (0, 0, 0), (0, 0, 0)), (0, (0, 0, 0), (0, 0, 0))), (((0, 0, 9), 0, (0, 0, 0), (0, 0, 0)), (0, (0, 1, 0), (0, 0, 0)))], [some (1, 0, 0), some (1, 1, 0)], [], []), [([(((0, 0, 3), 0, (0, 0, 0), (0, 0, 0)), (0, (0, 0, 0), (0, 0, 0)))], some (1, 2, 0), [], [])], [])
abbrev sn_133 : List se_Nd := []
set_option maxRecDepth 100000 in
theorem sk_133 : se_chk0 se_tt [] se_Z 37 se_zt sc_133 sn_133 5 = true := by decide +kernel
theorem sm_133 {ty : Nat → Option Nat} {J : List mm_C → Prop} {kx : Nat} {zs : List mm_Zt} (hO : se_Ok ty J kx zs) : se_Met ty se_tt J kx zs sc_133 := se_sound (C := []) hO.1 hO.2.1 hO.2.2 (fun _ hn => absurd hn List.not_mem_nil) sk_133 (fun _ hn => absurd hn List.not_mem_nil)
/-- RaftTownModel.weightOf -/
def sc_134 : se_C := ((228, 2), ([(((91, 0, 0), 0, (0, 0, 0), (0, 0, 0)), (0, (0, 0, 0), (0, 0, 0))), (((0, 0, 9), 0, (0, 0, 0), (0, 0, 0)), (0, (0, 1, 0), (0, 0, 0)))], [some (1, 0, 0), some (1, 1, 0)], [], []), [([(((0, (-2147483648), 2147483647), 0, (0, 0, 0), (0, 0, 0)), (0, (0, 0, 0), (0, 0, 0)))], some (1, 2, 0), [], [])], [])
def sn_134_0 : se_Nd := (4, ([(((91, 0, 0), 0, (0, 0, 0), (0, 0, 0)), (3, (0, 0, 0), (0, 0, 0))), (((0, 0, 9), 0, (0, 0, 0), (0, 0, 0)), (3, (0, 1, 0), (0, 0, 0))), (((0, (-2147483648), 2147483647), 0, (0, 0, 0), (0, 0, 0)), (0, (0, 2, 0), (0, 0, 0))), (((0, 0, 14), 0, (0, 0, 0), (0, 0, 0)), (0, (0, 3, 0), (0, 0, 0)))], [some (1, 0, 0), some (1, 1, 0), some (1, 2, 0), some (1, 3, 0)], [], []), [(0, 0, 0), ((-1), 3, 0), (0, 0, 0)])
abbrev sn_134 : List se_Nd := [sn_134_0]
set_option maxRecDepth 100000 in
theorem sk_134 : se_chk0 se_tt [sc_133] se_Z 37 se_zt sc_134 sn_134 7 = true := by decide +kernel
set_option maxRecDepth 100000 in
theorem sk_134_0 : se_chkn se_tt [sc_133] se_Z 37 se_zt sc_134 sn_134 7 sn_134_0 = true := by decide +kernel
theorem sm_134 {ty : Nat → Option Nat} {J : List mm_C → Prop} {kx : Nat} {zs : List mm_Zt} (hO : se_Ok ty J kx zs) (h133 : se_Met ty se_tt J kx zs sc_133) : se_Met ty se_tt J kx zs sc_134 := se_sound (C := [sc_133]) hO.1 hO.2.1 hO.2.2 (fun n hn => by
  rcases List.mem_cons.mp hn with rfl | hn
  · exact h133
  exact absurd hn List.not_mem_nil) sk_134 (fun n hn => by
  rcases List.mem_cons.mp hn with rfl | hn
  · exact sk_134_0
  exact absurd hn List.not_mem_nil)
