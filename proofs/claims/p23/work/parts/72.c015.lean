/-! ===== printed by wip/p2/gen_tab.py: contracts and their checks ===== -/
/-- RaftTown$Town.hasRoomAt -/
def sc_15 : se_C := ((58, 1), ([(((89, 0, 0), 0, (0, 0, 0), (0, 0, 0)), (0, (0, 0, 0), (0, 0, 0))), (((0, (-2147483648), 2147483647), 0, (0, 0, 0), (0, 0, 0)), (0, (0, 1, 0), (0, 0, 0))), (((0, (-2147483648), 2147483647), 0, (0, 0, 0), (0, 0, 0)), (0, (0, 2, 0), (0, 0, 0)))], [some (1, 0, 0), some (1, 1, 0), some (1, 2, 0)], [], []), [([(((0, 0, 1), 0, (0, 0, 0), (0, 0, 0)), (0, (0, 0, 0), (0, 0, 0)))], some (1, 3, 0), [], [])], [])
def sn_15_0 : se_Nd := (5, ([(((89, 0, 0), 0, (0, 0, 0), (0, 0, 0)), (3, (0, 0, 0), (0, 0, 0))), (((0, (-2147483648), 2147483647), 0, (0, 0, 0), (0, 0, 0)), (3, (0, 1, 0), (0, 0, 0))), (((0, (-2147483648), 2147483647), 0, (0, 0, 0), (0, 0, 0)), (3, (0, 2, 0), (0, 0, 0))), (((0, (-2147483648), 2147483647), 0, (0, 0, 0), (0, 0, 0)), (0, (0, 3, 0), (0, 0, 0))), (((0, 0, 12), 0, (0, 0, 0), (0, 0, 0)), (0, (0, 4, 0), (0, 0, 0)))], [some (1, 0, 0), some (1, 1, 0), some (1, 2, 0), some (1, 3, 0), some (1, 4, 0)], [], []), [(0, 0, 0), ((-1), 4, 0), (0, 0, 0)])
abbrev sn_15 : List se_Nd := [sn_15_0]
set_option maxRecDepth 100000 in
theorem sk_15 : se_chk0 se_tt [] se_Z 37 se_zt sc_15 sn_15 6 = true := by decide +kernel
set_option maxRecDepth 100000 in
theorem sk_15_0 : se_chkn se_tt [] se_Z 37 se_zt sc_15 sn_15 6 sn_15_0 = true := by decide +kernel
theorem sm_15 {ty : Nat → Option Nat} {J : List mm_C → Prop} {kx : Nat} {zs : List mm_Zt} (hO : se_Ok ty J kx zs) : se_Met ty se_tt J kx zs sc_15 := se_sound (C := []) hO.1 hO.2.1 hO.2.2 (fun _ hn => absurd hn List.not_mem_nil) sk_15 (fun n hn => by
  rcases List.mem_cons.mp hn with rfl | hn
  · exact sk_15_0
  exact absurd hn List.not_mem_nil)
/-- RaftTown$Town.freeRope -/
def sc_16 : se_C := ((60, 1), ([(((89, 0, 0), 0, (0, 0, 0), (0, 0, 0)), (0, (0, 0, 0), (0, 0, 0)))], [some (1, 0, 0)], [], []), [([(((0, (-1), 11), 0, (0, 0, 0), (0, 0, 0)), (0, (0, 0, 0), (0, 0, 0)))], some (1, 1, 0), [], [])], [(87, 6, 7)])
def sn_16_0 : se_Nd := (2, ([(((89, 0, 0), 0, (0, 0, 0), (0, 0, 0)), (3, (0, 0, 0), (0, 0, 0))), (((0, 0, 12), 0, (0, 0, 0), (0, 0, 0)), (0, (0, 1, 0), (0, 0, 0)))], [some (1, 0, 0), some (1, 1, 0)], [], []), [(0, 0, 0), ((-1), 1, 0), (0, 0, 0)])
abbrev sn_16 : List se_Nd := [sn_16_0]
set_option maxRecDepth 100000 in
theorem sk_16 : se_chk0 se_tt [] se_Z 37 se_zt sc_16 sn_16 5 = true := by decide +kernel
set_option maxRecDepth 100000 in
theorem sk_16_0 : se_chkn se_tt [] se_Z 37 se_zt sc_16 sn_16 5 sn_16_0 = true := by decide +kernel
theorem sm_16 {ty : Nat → Option Nat} {J : List mm_C → Prop} {kx : Nat} {zs : List mm_Zt} (hO : se_Ok ty J kx zs) : se_Met ty se_tt J kx zs sc_16 := se_sound (C := []) hO.1 hO.2.1 hO.2.2 (fun _ hn => absurd hn List.not_mem_nil) sk_16 (fun n hn => by
  rcases List.mem_cons.mp hn with rfl | hn
  · exact sk_16_0
  exact absurd hn List.not_mem_nil)
/-- RaftTown$Log.add -/
def sc_17 : se_C := ((62, 1), ([(((75, 0, 0), 0, (0, 0, 0), (0, 0, 0)), (0, (0, 0, 0), (0, 0, 0))), (((0, (-2147483648), 2147483647), 0, (0, 0, 0), (0, 0, 0)), (0, (0, 1, 0), (0, 0, 0))), (((0, (-2147483648), 2147483647), 0, (0, 0, 0), (0, 0, 0)), (0, (0, 2, 0), (0, 0, 0))), (((0, (-2147483648), 2147483647), 0, (0, 0, 0), (0, 0, 0)), (0, (0, 3, 0), (0, 0, 0))), (((0, (-2147483648), 2147483647), 0, (0, 0, 0), (0, 0, 0)), (0, (0, 4, 0), (0, 0, 0)))], [some (1, 0, 0), some (1, 1, 0), some (1, 2, 0), some (1, 3, 0), some (1, 4, 0)], [], []), [([], none, [], [])], [(39, 0, 40), (40, 0, 40), (41, 0, 40), (42, 0, 40), (73, 4, 5), (73, 5, 6)])
abbrev sn_17 : List se_Nd := []
set_option maxRecDepth 100000 in
theorem sk_17 : se_chk0 se_tt [] se_Z 37 se_zt sc_17 sn_17 6 = true := by decide +kernel
theorem sm_17 {ty : Nat → Option Nat} {J : List mm_C → Prop} {kx : Nat} {zs : List mm_Zt} (hO : se_Ok ty J kx zs) : se_Met ty se_tt J kx zs sc_17 := se_sound (C := []) hO.1 hO.2.1 hO.2.2 (fun _ hn => absurd hn List.not_mem_nil) sk_17 (fun _ hn => absurd hn List.not_mem_nil)
/-- RaftTown$Log.tellOn -/
def sc_18 : se_C := ((64, 1), ([(((75, 0, 0), 0, (0, 0, 0), (0, 0, 0)), (0, (0, 0, 0), (0, 0, 0))), (((0, (-2147483648), 2147483647), 0, (0, 0, 0), (0, 0, 0)), (0, (0, 1, 0), (0, 0, 0)))], [some (1, 0, 0), some (1, 1, 0)], [], []), [([], none, [], [])], [(42, 0, 40), (44, 0, 12)])
def sn_18_0 : se_Nd := (2, ([(((75, 0, 0), 0, (0, 0, 0), (0, 0, 0)), (3, (0, 0, 0), (0, 0, 0))), (((0, (-2147483648), 2147483647), 0, (0, 0, 0), (0, 0, 0)), (3, (0, 1, 0), (0, 0, 0))), (((0, 0, 40), 0, (0, 0, 0), (0, 0, 0)), (0, (0, 2, 0), (0, 0, 0)))], [some (1, 0, 0), some (1, 1, 0), some (1, 2, 0)], [], []), [(0, 0, 1), ((-1), 2, 0), (0, 0, 0)])
def sn_18_1 : se_Nd := (37, ([(((75, 0, 0), 0, (0, 0, 0), (0, 0, 0)), (3, (0, 0, 0), (0, 0, 0))), (((0, (-2147483648), 2147483647), 0, (0, 0, 0), (0, 0, 0)), (3, (0, 1, 0), (0, 0, 0))), (((0, 0, 12), 0, (0, 0, 0), (0, 0, 0)), (0, (0, 2, 0), (0, 0, 0)))], [some (1, 0, 0), some (1, 1, 0), some (1, 2, 0)], [], []), [(0, 0, 0), ((-1), 2, 0), (0, 0, 0)])
abbrev sn_18 : List se_Nd := [sn_18_0, sn_18_1]
set_option maxRecDepth 100000 in
theorem sk_18 : se_chk0 se_tt [] se_Z 37 se_zt sc_18 sn_18 5 = true := by decide +kernel
set_option maxRecDepth 100000 in
theorem sk_18_0 : se_chkn se_tt [] se_Z 37 se_zt sc_18 sn_18 5 sn_18_0 = true := by decide +kernel
set_option maxRecDepth 100000 in
theorem sk_18_1 : se_chkn se_tt [] se_Z 37 se_zt sc_18 sn_18 5 sn_18_1 = true := by decide +kernel
theorem sm_18 {ty : Nat → Option Nat} {J : List mm_C → Prop} {kx : Nat} {zs : List mm_Zt} (hO : se_Ok ty J kx zs) : se_Met ty se_tt J kx zs sc_18 := se_sound (C := []) hO.1 hO.2.1 hO.2.2 (fun _ hn => absurd hn List.not_mem_nil) sk_18 (fun n hn => by
  rcases List.mem_cons.mp hn with rfl | hn
  · exact sk_18_0
  rcases List.mem_cons.mp hn with rfl | hn
  · exact sk_18_1
  exact absurd hn List.not_mem_nil)
/-- RaftTown.tie -/
def sc_19 : se_C := ((56, 2), ([(((90, 0, 0), 0, (0, 0, 0), (0, 0, 0)), (0, (0, 0, 0), (0, 0, 0))), (((0, (-2147483648), 2147483647), 0, (0, 0, 0), (0, 0, 0)), (0, (0, 1, 0), (0, 0, 0))), (((0, (-2147483648), 2147483647), 0, (0, 0, 0), (0, 0, 0)), (0, (0, 2, 0), (0, 0, 0))), (((0, (-2147483648), 2147483647), 0, (0, 0, 0), (0, 0, 0)), (0, (0, 3, 0), (0, 0, 0))), (((0, (-2147483648), 2147483647), 0, (0, 0, 0), (0, 0, 0)), (0, (0, 4, 0), (0, 0, 0))), (((0, (-2147483648), 2147483647), 0, (0, 0, 0), (0, 0, 0)), (0, (0, 5, 0), (0, 0, 0)))], [some (1, 0, 0), some (1, 1, 0), some (1, 2, 0), some (1, 3, 0), some (1, 4, 0), some (1, 5, 0)], [], []), [([(((0, (-100008), 11), 0, (0, 0, 0), (0, 0, 0)), (0, (0, 0, 0), (0, 0, 0)))], some (1, 6, 0), [], [])], [(39, 0, 40), (40, 0, 40), (41, 0, 40), (42, 0, 40), (44, 0, 12), (45, 0, 12), (46, 0, 12), (47, 0, 12), (48, 0, 10), (73, 4, 5), (73, 5, 6), (74, 4, 5), (74, 5, 6), (77, 0, 1), (77, 1, 2), (77, 2, 3), (77, 3, 4), (77, 4, 5), (77, 5, 6), (77, 6, 7), (77, 7, 8), (87, 6, 7), (88, 7, 8)])
abbrev sn_19 : List se_Nd := []
set_option maxRecDepth 100000 in
theorem sk_19 : se_chk0 se_tt [sc_4, sc_5, sc_15, sc_16, sc_17, sc_18] se_Z 37 se_zt sc_19 sn_19 9 = true := by decide +kernel
theorem sm_19 {ty : Nat → Option Nat} {J : List mm_C → Prop} {kx : Nat} {zs : List mm_Zt} (hO : se_Ok ty J kx zs) (h4 : se_Met ty se_tt J kx zs sc_4) (h5 : se_Met ty se_tt J kx zs sc_5) (h15 : se_Met ty se_tt J kx zs sc_15) (h16 : se_Met ty se_tt J kx zs sc_16) (h17 : se_Met ty se_tt J kx zs sc_17) (h18 : se_Met ty se_tt J kx zs sc_18) : se_Met ty se_tt J kx zs sc_19 := se_sound (C := [sc_4, sc_5, sc_15, sc_16, sc_17, sc_18]) hO.1 hO.2.1 hO.2.2 (fun n hn => by
  rcases List.mem_cons.mp hn with rfl | hn
  · exact h4
  rcases List.mem_cons.mp hn with rfl | hn
  · exact h5
  rcases List.mem_cons.mp hn with rfl | hn
  · exact h15
  rcases List.mem_cons.mp hn with rfl | hn
  · exact h16
  rcases List.mem_cons.mp hn with rfl | hn
  · exact h17
  rcases List.mem_cons.mp hn with rfl | hn
  · exact h18
  exact absurd hn List.not_mem_nil) sk_19 (fun _ hn => absurd hn List.not_mem_nil)
/-- RaftTown$Log.lawOf -/
def sc_20 : se_C := ((67, 1), ([(((75, 0, 0), 0, (0, 0, 0), (0, 0, 0)), (0, (0, 0, 0), (0, 0, 0))), (((0, (-2147483648), 2147483647), 0, (0, 0, 0), (0, 0, 0)), (0, (0, 1, 0), (0, 0, 0)))], [some (1, 0, 0), some (1, 1, 0)], [], []), [([(((0, (-1), 11), 0, (0, 0, 0), (0, 0, 0)), (0, (0, 0, 0), (0, 0, 0)))], some (1, 2, 0), [], [])], [])
def sn_20_0 : se_Nd := (4, ([(((75, 0, 0), 0, (0, 0, 0), (0, 0, 0)), (3, (0, 0, 0), (0, 0, 0))), (((0, (-2147483648), 2147483647), 0, (0, 0, 0), (0, 0, 0)), (3, (0, 1, 0), (0, 0, 0))), (((0, (-1), 11), 0, (0, 0, 0), (0, 0, 0)), (0, (0, 2, 0), (0, 0, 0))), (((0, 0, 12), 0, (0, 0, 0), (0, 0, 0)), (0, (0, 3, 0), (0, 0, 0)))], [some (1, 0, 0), some (1, 1, 0), some (1, 2, 0), some (1, 3, 0)], [], []), [(0, 0, 0), ((-1), 3, 0), (0, 0, 0)])
abbrev sn_20 : List se_Nd := [sn_20_0]
set_option maxRecDepth 100000 in
theorem sk_20 : se_chk0 se_tt [] se_Z 37 se_zt sc_20 sn_20 5 = true := by decide +kernel
set_option maxRecDepth 100000 in
theorem sk_20_0 : se_chkn se_tt [] se_Z 37 se_zt sc_20 sn_20 5 sn_20_0 = true := by decide +kernel
theorem sm_20 {ty : Nat → Option Nat} {J : List mm_C → Prop} {kx : Nat} {zs : List mm_Zt} (hO : se_Ok ty J kx zs) : se_Met ty se_tt J kx zs sc_20 := se_sound (C := []) hO.1 hO.2.1 hO.2.2 (fun _ hn => absurd hn List.not_mem_nil) sk_20 (fun n hn => by
  rcases List.mem_cons.mp hn with rfl | hn
  · exact sk_20_0
  exact absurd hn List.not_mem_nil)
/-- RaftTown$Judge.nameNothing -/
def sc_21 : se_C := ((70, 1), ([(((74, 0, 0), 0, (0, 0, 0), (0, 0, 0)), (0, (0, 0, 0), (0, 0, 0)))], [some (1, 0, 0)], [], []), [([], none, [], [])], [(37, 0, 9)])
def sn_21_0 : se_Nd := (2, ([(((74, 0, 0), 0, (0, 0, 0), (0, 0, 0)), (3, (0, 0, 0), (0, 0, 0))), (((0, 0, 9), 0, (0, 0, 0), (0, 0, 0)), (0, (0, 1, 0), (0, 0, 0)))], [some (1, 0, 0), some (1, 1, 0)], [], []), [(0, 0, 0), ((-1), 1, 0), (0, 0, 0)])
abbrev sn_21 : List se_Nd := [sn_21_0]
set_option maxRecDepth 100000 in
theorem sk_21 : se_chk0 se_tt [] se_Z 37 se_zt sc_21 sn_21 4 = true := by decide +kernel
set_option maxRecDepth 100000 in
theorem sk_21_0 : se_chkn se_tt [] se_Z 37 se_zt sc_21 sn_21 4 sn_21_0 = true := by decide +kernel
theorem sm_21 {ty : Nat → Option Nat} {J : List mm_C → Prop} {kx : Nat} {zs : List mm_Zt} (hO : se_Ok ty J kx zs) : se_Met ty se_tt J kx zs sc_21 := se_sound (C := []) hO.1 hO.2.1 hO.2.2 (fun _ hn => absurd hn List.not_mem_nil) sk_21 (fun n hn => by
  rcases List.mem_cons.mp hn with rfl | hn
  · exact sk_21_0
  exact absurd hn List.not_mem_nil)
/-- RaftTown$Net.weigh -/
def sc_22 : se_C := ((73, 1), ([(((76, 0, 0), 0, (0, 0, 0), (0, 0, 0)), (0, (0, 0, 0), (0, 0, 0))), (((0, (-2147483648), 2147483647), 0, (0, 0, 0), (0, 0, 0)), (0, (0, 1, 0), (0, 0, 0)))], [some (1, 0, 0), some (1, 1, 0)], [], []), [([(((0, (-2147483648), 2147483647), 0, (0, 0, 0), (0, 0, 0)), (0, (0, 0, 0), (0, 0, 0)))], some (1, 2, 0), [], [])], [])
def sn_22_0 : se_Nd := (4, ([(((76, 0, 0), 0, (0, 0, 0), (0, 0, 0)), (3, (0, 0, 0), (0, 0, 0))), (((0, (-2147483648), 2147483647), 0, (0, 0, 0), (0, 0, 0)), (3, (0, 1, 0), (0, 0, 0))), (((0, (-2147483648), 2147483647), 0, (0, 0, 0), (0, 0, 0)), (0, (0, 2, 0), (0, 0, 0))), (((0, 0, 10), 0, (0, 0, 0), (0, 0, 0)), (0, (0, 3, 0), (0, 0, 0)))], [some (1, 0, 0), some (1, 1, 0), some (1, 2, 0), some (1, 3, 0)], [], []), [(0, 0, 0), ((-1), 3, 0), (0, 0, 0)])
abbrev sn_22 : List se_Nd := [sn_22_0]
set_option maxRecDepth 100000 in
theorem sk_22 : se_chk0 se_tt [] se_Z 37 se_zt sc_22 sn_22 5 = true := by decide +kernel
set_option maxRecDepth 100000 in
theorem sk_22_0 : se_chkn se_tt [] se_Z 37 se_zt sc_22 sn_22 5 sn_22_0 = true := by decide +kernel
theorem sm_22 {ty : Nat → Option Nat} {J : List mm_C → Prop} {kx : Nat} {zs : List mm_Zt} (hO : se_Ok ty J kx zs) : se_Met ty se_tt J kx zs sc_22 := se_sound (C := []) hO.1 hO.2.1 hO.2.2 (fun _ hn => absurd hn List.not_mem_nil) sk_22 (fun n hn => by
  rcases List.mem_cons.mp hn with rfl | hn
  · exact sk_22_0
  exact absurd hn List.not_mem_nil)
/-- RaftTown$Net.hang -/
def sc_23 : se_C := ((72, 2), ([(((76, 0, 0), 0, (0, 0, 0), (0, 0, 0)), (0, (0, 0, 0), (0, 0, 0))), (((0, (-2147483648), 2147483647), 0, (0, 0, 0), (0, 0, 0)), (0, (0, 1, 0), (0, 0, 0))), (((0, (-2147483648), 2147483647), 0, (0, 0, 0), (0, 0, 0)), (0, (0, 2, 0), (0, 0, 0)))], [some (1, 0, 0), some (1, 1, 0), some (1, 2, 0)], [], []), [([(((0, (-2147483648), 2147483647), 0, (0, 0, 0), (0, 0, 0)), (0, (0, 0, 0), (0, 0, 0)))], some (1, 3, 0), [], [])], [])
abbrev sn_23 : List se_Nd := []
set_option maxRecDepth 100000 in
theorem sk_23 : se_chk0 se_tt [sc_5, sc_22] se_Z 37 se_zt sc_23 sn_23 6 = true := by decide +kernel
theorem sm_23 {ty : Nat → Option Nat} {J : List mm_C → Prop} {kx : Nat} {zs : List mm_Zt} (hO : se_Ok ty J kx zs) (h5 : se_Met ty se_tt J kx zs sc_5) (h22 : se_Met ty se_tt J kx zs sc_22) : se_Met ty se_tt J kx zs sc_23 := se_sound (C := [sc_5, sc_22]) hO.1 hO.2.1 hO.2.2 (fun n hn => by
  rcases List.mem_cons.mp hn with rfl | hn
  · exact h5
  rcases List.mem_cons.mp hn with rfl | hn
  · exact h22
  exact absurd hn List.not_mem_nil) sk_23 (fun _ hn => absurd hn List.not_mem_nil)
/-- RaftTown$Town.personsOf -/
def sc_24 : se_C := ((75, 1), ([(((89, 0, 0), 0, (0, 0, 0), (0, 0, 0)), (0, (0, 0, 0), (0, 0, 0))), (((0, (-2147483648), 2147483647), 0, (0, 0, 0), (0, 0, 0)), (0, (0, 1, 0), (0, 0, 0)))], [some (1, 0, 0), some (1, 1, 0)], [], []), [([(((0, 0, 65535), 0, (0, 0, 0), (0, 0, 0)), (0, (0, 0, 0), (0, 0, 0)))], some (1, 2, 0), [], [])], [])
def sn_24_0 : se_Nd := (4, ([(((89, 0, 0), 0, (0, 0, 0), (0, 0, 0)), (3, (0, 0, 0), (0, 0, 0))), (((0, (-2147483648), 2147483647), 0, (0, 0, 0), (0, 0, 0)), (3, (0, 1, 0), (0, 0, 0))), (((0, 0, 65535), 0, (0, 0, 0), (0, 0, 0)), (0, (0, 2, 0), (0, 0, 0))), (((0, 0, 14), 0, (0, 0, 0), (0, 0, 0)), (0, (0, 3, 0), (0, 0, 0)))], [some (1, 0, 0), some (1, 1, 0), some (1, 2, 0), some (1, 3, 0)], [], []), [(0, 0, 0), ((-1), 3, 0), (0, 0, 0)])
abbrev sn_24 : List se_Nd := [sn_24_0]
set_option maxRecDepth 100000 in
theorem sk_24 : se_chk0 se_tt [] se_Z 37 se_zt sc_24 sn_24 5 = true := by decide +kernel
set_option maxRecDepth 100000 in
theorem sk_24_0 : se_chkn se_tt [] se_Z 37 se_zt sc_24 sn_24 5 sn_24_0 = true := by decide +kernel
theorem sm_24 {ty : Nat → Option Nat} {J : List mm_C → Prop} {kx : Nat} {zs : List mm_Zt} (hO : se_Ok ty J kx zs) : se_Met ty se_tt J kx zs sc_24 := se_sound (C := []) hO.1 hO.2.1 hO.2.2 (fun _ hn => absurd hn List.not_mem_nil) sk_24 (fun n hn => by
  rcases List.mem_cons.mp hn with rfl | hn
  · exact sk_24_0
  exact absurd hn List.not_mem_nil)
/-- java/lang/Integer.bitCount -/
def sc_25 : se_C := ((78, 1), ([(((0, (-2147483648), 2147483647), 0, (0, 0, 0), (0, 0, 0)), (0, (0, 0, 0), (0, 0, 0)))], [some (1, 0, 0)], [], []), [([(((0, 0, 63), 0, (0, 0, 0), (0, 0, 0)), (0, (0, 0, 0), (0, 0, 0)))], some (1, 1, 0), [], [])], [])
abbrev sn_25 : List se_Nd := []
set_option maxRecDepth 100000 in
theorem sk_25 : se_chk0 se_tt [] se_Z 37 se_zt sc_25 sn_25 6 = true := by decide +kernel
theorem sm_25 {ty : Nat → Option Nat} {J : List mm_C → Prop} {kx : Nat} {zs : List mm_Zt} (hO : se_Ok ty J kx zs) : se_Met ty se_tt J kx zs sc_25 := se_sound (C := []) hO.1 hO.2.1 hO.2.2 (fun _ hn => absurd hn List.not_mem_nil) sk_25 (fun _ hn => absurd hn List.not_mem_nil)
/-- RaftTown$Town.kinBetween -/
def sc_26 : se_C := ((74, 2), ([(((89, 0, 0), 0, (0, 0, 0), (0, 0, 0)), (0, (0, 0, 0), (0, 0, 0))), (((0, (-2147483648), 2147483647), 0, (0, 0, 0), (0, 0, 0)), (0, (0, 1, 0), (0, 0, 0))), (((0, (-2147483648), 2147483647), 0, (0, 0, 0), (0, 0, 0)), (0, (0, 2, 0), (0, 0, 0)))], [some (1, 0, 0), some (1, 1, 0), some (1, 2, 0)], [], []), [([(((0, (-2147483648), 2147483647), 0, (0, 0, 0), (0, 0, 0)), (0, (0, 0, 0), (0, 0, 0)))], some (1, 3, 0), [], [])], [])
def sn_26_0 : se_Nd := (14, ([(((89, 0, 0), 0, (0, 0, 0), (0, 0, 0)), (3, (0, 0, 0), (0, 0, 0))), (((0, (-2147483648), 2147483647), 0, (0, 0, 0), (0, 0, 0)), (3, (0, 1, 0), (0, 0, 0))), (((0, (-2147483648), 2147483647), 0, (0, 0, 0), (0, 0, 0)), (3, (0, 2, 0), (0, 0, 0))), (((0, 0, 65535), 0, (0, 0, 0), (0, 0, 0)), (0, (0, 3, 0), (0, 0, 0))), (((0, (-2147483648), 2147483647), 0, (0, 0, 0), (0, 0, 0)), (0, (0, 4, 0), (0, 0, 0))), (((0, 0, 14), 0, (0, 0, 0), (0, 0, 0)), (0, (0, 5, 0), (0, 0, 0)))], [some (1, 0, 0), some (1, 1, 0), some (1, 2, 0), some (1, 3, 0), some (1, 4, 0), some (1, 5, 0)], [], []), [(0, 0, 0), ((-1), 5, 0), (0, 0, 0)])
abbrev sn_26 : List se_Nd := [sn_26_0]
set_option maxRecDepth 100000 in
theorem sk_26 : se_chk0 se_tt [sc_13, sc_24, sc_25] se_Z 37 se_zt sc_26 sn_26 5 = true := by decide +kernel
set_option maxRecDepth 100000 in
theorem sk_26_0 : se_chkn se_tt [sc_13, sc_24, sc_25] se_Z 37 se_zt sc_26 sn_26 5 sn_26_0 = true := by decide +kernel
theorem sm_26 {ty : Nat → Option Nat} {J : List mm_C → Prop} {kx : Nat} {zs : List mm_Zt} (hO : se_Ok ty J kx zs) (h13 : se_Met ty se_tt J kx zs sc_13) (h24 : se_Met ty se_tt J kx zs sc_24) (h25 : se_Met ty se_tt J kx zs sc_25) : se_Met ty se_tt J kx zs sc_26 := se_sound (C := [sc_13, sc_24, sc_25]) hO.1 hO.2.1 hO.2.2 (fun n hn => by
  rcases List.mem_cons.mp hn with rfl | hn
  · exact h13
  rcases List.mem_cons.mp hn with rfl | hn
  · exact h24
  rcases List.mem_cons.mp hn with rfl | hn
  · exact h25
  exact absurd hn List.not_mem_nil) sk_26 (fun n hn => by
  rcases List.mem_cons.mp hn with rfl | hn
  · exact sk_26_0
  exact absurd hn List.not_mem_nil)
/-- RaftTown$Town.waterOf -/
def sc_27 : se_C := ((81, 1), ([(((89, 0, 0), 0, (0, 0, 0), (0, 0, 0)), (0, (0, 0, 0), (0, 0, 0))), (((0, (-2147483648), 2147483647), 0, (0, 0, 0), (0, 0, 0)), (0, (0, 1, 0), (0, 0, 0)))], [some (1, 0, 0), some (1, 1, 0)], [], []), [([(((0, (-2147483648), 2147483647), 0, (0, 0, 0), (0, 0, 0)), (0, (0, 0, 0), (0, 0, 0)))], some (1, 2, 0), [], [])], [])
def sn_27_0 : se_Nd := (4, ([(((89, 0, 0), 0, (0, 0, 0), (0, 0, 0)), (3, (0, 0, 0), (0, 0, 0))), (((0, (-2147483648), 2147483647), 0, (0, 0, 0), (0, 0, 0)), (3, (0, 1, 0), (0, 0, 0))), (((0, (-2147483648), 2147483647), 0, (0, 0, 0), (0, 0, 0)), (0, (0, 2, 0), (0, 0, 0))), (((0, 0, 10), 0, (0, 0, 0), (0, 0, 0)), (0, (0, 3, 0), (0, 0, 0)))], [some (1, 0, 0), some (1, 1, 0), some (1, 2, 0), some (1, 3, 0)], [], []), [(0, 0, 0), ((-1), 3, 0), (0, 0, 0)])
abbrev sn_27 : List se_Nd := [sn_27_0]
set_option maxRecDepth 100000 in
theorem sk_27 : se_chk0 se_tt [] se_Z 37 se_zt sc_27 sn_27 5 = true := by decide +kernel
set_option maxRecDepth 100000 in
theorem sk_27_0 : se_chkn se_tt [] se_Z 37 se_zt sc_27 sn_27 5 sn_27_0 = true := by decide +kernel
theorem sm_27 {ty : Nat → Option Nat} {J : List mm_C → Prop} {kx : Nat} {zs : List mm_Zt} (hO : se_Ok ty J kx zs) : se_Met ty se_tt J kx zs sc_27 := se_sound (C := []) hO.1 hO.2.1 hO.2.2 (fun _ hn => absurd hn List.not_mem_nil) sk_27 (fun n hn => by
  rcases List.mem_cons.mp hn with rfl | hn
  · exact sk_27_0
  exact absurd hn List.not_mem_nil)
/-- RaftTown$Judge.nameRope -/
def sc_28 : se_C := ((69, 3), ([(((74, 0, 0), 0, (0, 0, 0), (0, 0, 0)), (0, (0, 0, 0), (0, 0, 0))), (((89, 0, 0), 0, (0, 0, 0), (0, 0, 0)), (0, (0, 1, 0), (0, 0, 0))), (((76, 0, 0), 0, (0, 0, 0), (0, 0, 0)), (0, (0, 2, 0), (0, 0, 0))), (((0, (-2147483648), 2147483647), 0, (0, 0, 0), (0, 0, 0)), (0, (0, 3, 0), (0, 0, 0))), (((0, (-2147483648), 2147483647), 0, (0, 0, 0), (0, 0, 0)), (0, (0, 4, 0), (0, 0, 0)))], [some (1, 0, 0), some (1, 1, 0), some (1, 2, 0), some (1, 3, 0), some (1, 4, 0)], [], []), [([], none, [], [])], [(37, 0, 9)])
abbrev sn_28 : List se_Nd := []
set_option maxRecDepth 100000 in
theorem sk_28 : se_chk0 se_tt [sc_5, sc_21, sc_23, sc_24, sc_25, sc_26, sc_27] se_Z 37 se_zt sc_28 sn_28 8 = true := by decide +kernel
theorem sm_28 {ty : Nat → Option Nat} {J : List mm_C → Prop} {kx : Nat} {zs : List mm_Zt} (hO : se_Ok ty J kx zs) (h5 : se_Met ty se_tt J kx zs sc_5) (h21 : se_Met ty se_tt J kx zs sc_21) (h23 : se_Met ty se_tt J kx zs sc_23) (h24 : se_Met ty se_tt J kx zs sc_24) (h25 : se_Met ty se_tt J kx zs sc_25) (h26 : se_Met ty se_tt J kx zs sc_26) (h27 : se_Met ty se_tt J kx zs sc_27) : se_Met ty se_tt J kx zs sc_28 := se_sound (C := [sc_5, sc_21, sc_23, sc_24, sc_25, sc_26, sc_27]) hO.1 hO.2.1 hO.2.2 (fun n hn => by
  rcases List.mem_cons.mp hn with rfl | hn
  · exact h5
  rcases List.mem_cons.mp hn with rfl | hn
  · exact h21
  rcases List.mem_cons.mp hn with rfl | hn
  · exact h23
  rcases List.mem_cons.mp hn with rfl | hn
  · exact h24
  rcases List.mem_cons.mp hn with rfl | hn
  · exact h25
  rcases List.mem_cons.mp hn with rfl | hn
  · exact h26
  rcases List.mem_cons.mp hn with rfl | hn
  · exact h27
  exact absurd hn List.not_mem_nil) sk_28 (fun _ hn => absurd hn List.not_mem_nil)
/-- RaftTown$Text.endOf -/
def sc_29 : se_C := ((87, 1), ([(((83, 0, 0), 0, (0, 0, 0), (0, 0, 0)), (0, (0, 0, 0), (0, 0, 0))), (((0, (-2147483648), 2147483647), 0, (0, 0, 0), (0, 0, 0)), (0, (0, 1, 0), (0, 0, 0)))], [some (1, 0, 0), some (1, 1, 0)], [], []), [([(((0, 0, 160), 0, (0, 0, 0), (0, 0, 0)), (0, (0, 0, 0), (0, 0, 0)))], some (1, 2, 0), [], [])], [])
abbrev sn_29 : List se_Nd := []
set_option maxRecDepth 100000 in
theorem sk_29 : se_chk0 se_tt [] se_Z 37 se_zt sc_29 sn_29 5 = true := by decide +kernel
theorem sm_29 {ty : Nat → Option Nat} {J : List mm_C → Prop} {kx : Nat} {zs : List mm_Zt} (hO : se_Ok ty J kx zs) : se_Met ty se_tt J kx zs sc_29 := se_sound (C := []) hO.1 hO.2.1 hO.2.2 (fun _ hn => absurd hn List.not_mem_nil) sk_29 (fun _ hn => absurd hn List.not_mem_nil)
