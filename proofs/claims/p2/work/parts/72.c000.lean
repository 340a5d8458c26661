/-! ===== printed by wip/p2/gen_tab.py: contracts and their checks ===== -/
/-- RaftTown.stream -/
def sc_0 : se_C := ((12, 1), ([(((90, 0, 0), 0, (0, 0, 0), (0, 0, 0)), (0, (0, 0, 0), (0, 0, 0))), (((0, (-2147483648), 2147483647), 0, (0, 0, 0), (0, 0, 0)), (0, (0, 1, 0), (0, 0, 0))), (((0, (-2147483648), 2147483647), 0, (0, 0, 0), (0, 0, 0)), (0, (0, 2, 0), (0, 0, 0))), (((0, (-2147483648), 2147483647), 0, (0, 0, 0), (0, 0, 0)), (0, (0, 3, 0), (0, 0, 0)))], [some (1, 0, 0), some (1, 1, 0), some (1, 2, 0), some (1, 3, 0)], [], []), [([(((0, (-100001), 1), 0, (0, 0, 0), (0, 0, 0)), (0, (0, 0, 0), (0, 0, 0)))], some (1, 4, 0), [], [])], [(49, 0, 36), (50, 0, 36), (88, 7, 8)])
abbrev sn_0 : List se_Nd := []
set_option maxRecDepth 100000 in
theorem sk_0 : se_chk0 se_tt [] se_Z 37 se_zt sc_0 sn_0 7 = true := by decide +kernel
theorem sm_0 {ty : Nat → Option Nat} {J : List mm_C → Prop} {kx : Nat} {zs : List mm_Zt} (hO : se_Ok ty J kx zs) : se_Met ty se_tt J kx zs sc_0 := se_sound (C := []) hO.1 hO.2.1 hO.2.2 (fun _ hn => absurd hn List.not_mem_nil) sk_0 (fun _ hn => absurd hn List.not_mem_nil)
/-- RaftTown.raft -/
def sc_1 : se_C := ((17, 1), ([(((90, 0, 0), 0, (0, 0, 0), (0, 0, 0)), (0, (0, 0, 0), (0, 0, 0))), (((0, (-2147483648), 2147483647), 0, (0, 0, 0), (0, 0, 0)), (0, (0, 1, 0), (0, 0, 0))), (((0, (-2147483648), 2147483647), 0, (0, 0, 0), (0, 0, 0)), (0, (0, 2, 0), (0, 0, 0))), (((0, (-2147483648), 2147483647), 0, (0, 0, 0), (0, 0, 0)), (0, (0, 3, 0), (0, 0, 0))), (((0, (-2147483648), 2147483647), 0, (0, 0, 0), (0, 0, 0)), (0, (0, 4, 0), (0, 0, 0)))], [some (1, 0, 0), some (1, 1, 0), some (1, 2, 0), some (1, 3, 0), some (1, 4, 0)], [], []), [([(((0, (-2147483648), 9), 0, (0, 0, 0), (0, 0, 0)), (0, (0, 0, 0), (0, 0, 0)))], some (1, 5, 0), [], [])], [(76, 0, 1), (76, 1, 2), (76, 2, 3), (76, 3, 4), (76, 4, 5), (76, 5, 6), (76, 6, 7), (87, 2, 3), (88, 7, 8)])
abbrev sn_1 : List se_Nd := []
set_option maxRecDepth 100000 in
theorem sk_1 : se_chk0 se_tt [] se_Z 37 se_zt sc_1 sn_1 8 = true := by decide +kernel
theorem sm_1 {ty : Nat → Option Nat} {J : List mm_C → Prop} {kx : Nat} {zs : List mm_Zt} (hO : se_Ok ty J kx zs) : se_Met ty se_tt J kx zs sc_1 := se_sound (C := []) hO.1 hO.2.1 hO.2.2 (fun _ hn => absurd hn List.not_mem_nil) sk_1 (fun _ hn => absurd hn List.not_mem_nil)
/-- RaftTown$Raft.isOf -/
def sc_2 : se_C := ((24, 1), ([(((78, 0, 0), 0, (0, 0, 0), (0, 0, 0)), (0, (0, 0, 0), (0, 0, 0))), (((0, (-2147483648), 2147483647), 0, (0, 0, 0), (0, 0, 0)), (0, (0, 1, 0), (0, 0, 0)))], [some (1, 0, 0), some (1, 1, 0)], [], []), [([(((0, 0, 1), 0, (0, 0, 0), (0, 0, 0)), (0, (0, 0, 0), (0, 0, 0)))], some (1, 2, 0), [], [])], [])
def sn_2_0 : se_Nd := (7, ([(((78, 0, 0), 0, (0, 0, 0), (0, 0, 0)), (3, (0, 0, 0), (0, 0, 0))), (((0, (-2147483648), 2147483647), 0, (0, 0, 0), (0, 0, 0)), (3, (0, 1, 0), (0, 0, 0))), (((0, (-2147483648), 2147483647), 0, (0, 0, 0), (0, 0, 0)), (0, (0, 2, 0), (0, 0, 0))), (((0, 0, 6), 0, (0, 0, 0), (0, 0, 0)), (0, (0, 3, 0), (0, 0, 0)))], [some (1, 0, 0), some (1, 1, 0), some (1, 2, 0), some (1, 3, 0)], [], []), [(0, 0, 0), ((-1), 3, 0), (0, 0, 0)])
abbrev sn_2 : List se_Nd := [sn_2_0]
set_option maxRecDepth 100000 in
theorem sk_2 : se_chk0 se_tt [] se_Z 37 se_zt sc_2 sn_2 5 = true := by decide +kernel
set_option maxRecDepth 100000 in
theorem sk_2_0 : se_chkn se_tt [] se_Z 37 se_zt sc_2 sn_2 5 sn_2_0 = true := by decide +kernel
theorem sm_2 {ty : Nat → Option Nat} {J : List mm_C → Prop} {kx : Nat} {zs : List mm_Zt} (hO : se_Ok ty J kx zs) : se_Met ty se_tt J kx zs sc_2 := se_sound (C := []) hO.1 hO.2.1 hO.2.2 (fun _ hn => absurd hn List.not_mem_nil) sk_2 (fun n hn => by
  rcases List.mem_cons.mp hn with rfl | hn
  · exact sk_2_0
  exact absurd hn List.not_mem_nil)
/-- RaftTown.as -/
def sc_3 : se_C := ((22, 2), ([(((90, 0, 0), 0, (0, 0, 0), (0, 0, 0)), (0, (0, 0, 0), (0, 0, 0))), (((0, (-2147483648), 2147483647), 0, (0, 0, 0), (0, 0, 0)), (0, (0, 1, 0), (0, 0, 0))), (((0, (-2147483648), 2147483647), 0, (0, 0, 0), (0, 0, 0)), (0, (0, 2, 0), (0, 0, 0)))], [some (1, 0, 0), some (1, 1, 0), some (1, 2, 0)], [], []), [([(((0, (-100004), 2147483647), 0, (0, 0, 0), (0, 0, 0)), (0, (0, 0, 0), (0, 0, 0)))], some (1, 3, 0), [], [])], [(88, 7, 8)])
abbrev sn_3 : List se_Nd := []
set_option maxRecDepth 100000 in
theorem sk_3 : se_chk0 se_tt [sc_2] se_Z 37 se_zt sc_3 sn_3 7 = true := by decide +kernel
theorem sm_3 {ty : Nat → Option Nat} {J : List mm_C → Prop} {kx : Nat} {zs : List mm_Zt} (hO : se_Ok ty J kx zs) (h2 : se_Met ty se_tt J kx zs sc_2) : se_Met ty se_tt J kx zs sc_3 := se_sound (C := [sc_2]) hO.1 hO.2.1 hO.2.2 (fun n hn => by
  rcases List.mem_cons.mp hn with rfl | hn
  · exact h2
  exact absurd hn List.not_mem_nil) sk_3 (fun _ hn => absurd hn List.not_mem_nil)
/-- RaftTown$Net.survey -/
def sc_4 : se_C := ((27, 1), ([(((76, 0, 0), 0, (0, 0, 0), (0, 0, 0)), (0, (0, 0, 0), (0, 0, 0))), (((89, 0, 0), 0, (0, 0, 0), (0, 0, 0)), (0, (0, 1, 0), (0, 0, 0)))], [some (1, 0, 0), some (1, 1, 0)], [], []), [([], none, [], [])], [(45, 0, 12), (46, 0, 12), (47, 0, 12), (48, 0, 10), (74, 4, 5), (74, 5, 6)])
def sn_4_0 : se_Nd := (7, ([(((76, 0, 0), 0, (0, 0, 0), (0, 0, 0)), (3, (0, 0, 0), (0, 0, 0))), (((89, 0, 0), 0, (0, 0, 0), (0, 0, 0)), (3, (0, 1, 0), (0, 0, 0))), (((0, 0, 10), 0, (0, 0, 0), (0, 0, 0)), (0, (0, 2, 0), (0, 0, 0)))], [some (1, 0, 0), some (1, 1, 0), some (1, 2, 0), none], [], []), [(0, 0, 2), ((-1), 2, 0), (0, 0, 0)])
def sn_4_1 : se_Nd := (66, ([(((76, 0, 0), 0, (0, 0, 0), (0, 0, 0)), (3, (0, 0, 0), (0, 0, 0))), (((89, 0, 0), 0, (0, 0, 0), (0, 0, 0)), (3, (0, 1, 0), (0, 0, 0))), (((0, 0, 14), 0, (0, 0, 0), (0, 0, 0)), (0, (0, 2, 0), (0, 0, 0)))], [some (1, 0, 0), some (1, 1, 0), some (1, 2, 0), none], [], []), [(0, 0, 1), ((-1), 2, 0), (0, 0, 0)])
def sn_4_2 : se_Nd := (124, ([(((76, 0, 0), 0, (0, 0, 0), (0, 0, 0)), (3, (0, 0, 0), (0, 0, 0))), (((89, 0, 0), 0, (0, 0, 0), (0, 0, 0)), (3, (0, 1, 0), (0, 0, 0))), (((0, 0, 12), 0, (0, 0, 0), (0, 0, 0)), (0, (0, 2, 0), (0, 0, 0)))], [some (1, 0, 0), some (1, 1, 0), some (1, 2, 0), none], [], []), [(0, 0, 0), ((-1), 2, 0), (0, 0, 0)])
abbrev sn_4 : List se_Nd := [sn_4_0, sn_4_1, sn_4_2]
set_option maxRecDepth 100000 in
theorem sk_4 : se_chk0 se_tt [] se_Z 37 se_zt sc_4 sn_4 7 = true := by decide +kernel
set_option maxRecDepth 100000 in
theorem sk_4_0 : se_chkn se_tt [] se_Z 37 se_zt sc_4 sn_4 7 sn_4_0 = true := by decide +kernel
set_option maxRecDepth 100000 in
theorem sk_4_1 : se_chkn se_tt [] se_Z 37 se_zt sc_4 sn_4 7 sn_4_1 = true := by decide +kernel
set_option maxRecDepth 100000 in
theorem sk_4_2 : se_chkn se_tt [] se_Z 37 se_zt sc_4 sn_4 7 sn_4_2 = true := by decide +kernel
theorem sm_4 {ty : Nat → Option Nat} {J : List mm_C → Prop} {kx : Nat} {zs : List mm_Zt} (hO : se_Ok ty J kx zs) : se_Met ty se_tt J kx zs sc_4 := se_sound (C := []) hO.1 hO.2.1 hO.2.2 (fun _ hn => absurd hn List.not_mem_nil) sk_4 (fun n hn => by
  rcases List.mem_cons.mp hn with rfl | hn
  · exact sk_4_0
  rcases List.mem_cons.mp hn with rfl | hn
  · exact sk_4_1
  rcases List.mem_cons.mp hn with rfl | hn
  · exact sk_4_2
  exact absurd hn List.not_mem_nil)
/-- RaftTown$Net.reach -/
def sc_5 : se_C := ((35, 1), ([(((76, 0, 0), 0, (0, 0, 0), (0, 0, 0)), (0, (0, 0, 0), (0, 0, 0))), (((0, (-2147483648), 2147483647), 0, (0, 0, 0), (0, 0, 0)), (0, (0, 1, 0), (0, 0, 0))), (((0, (-2147483648), 2147483647), 0, (0, 0, 0), (0, 0, 0)), (0, (0, 2, 0), (0, 0, 0)))], [some (1, 0, 0), some (1, 1, 0), some (1, 2, 0)], [], []), [([(((0, (-2147483648), 2147483647), 0, (0, 0, 0), (0, 0, 0)), (0, (0, 0, 0), (0, 0, 0)))], some (1, 3, 0), [], [])], [])
def sn_5_0 : se_Nd := (5, ([(((76, 0, 0), 0, (0, 0, 0), (0, 0, 0)), (3, (0, 0, 0), (0, 0, 0))), (((0, (-2147483648), 2147483647), 0, (0, 0, 0), (0, 0, 0)), (3, (0, 1, 0), (0, 0, 0))), (((0, (-2147483648), 2147483647), 0, (0, 0, 0), (0, 0, 0)), (3, (0, 2, 0), (0, 0, 0))), (((0, (-2147483648), 2147483647), 0, (0, 0, 0), (0, 0, 0)), (0, (0, 3, 0), (0, 0, 0))), (((0, 0, 10), 0, (0, 0, 0), (0, 0, 0)), (0, (0, 4, 0), (0, 0, 0)))], [some (1, 0, 0), some (1, 1, 0), some (1, 2, 0), some (1, 3, 0), some (1, 4, 0), none, none], [], []), [(0, 0, 0), ((-1), 4, 0), (0, 0, 1)])
def sn_5_1 : se_Nd := (18, ([(((76, 0, 0), 0, (0, 0, 0), (0, 0, 0)), (3, (0, 0, 0), (0, 0, 0))), (((0, (-2147483648), 2147483647), 0, (0, 0, 0), (0, 0, 0)), (3, (0, 1, 0), (0, 0, 0))), (((0, (-2147483648), 2147483647), 0, (0, 0, 0), (0, 0, 0)), (3, (0, 2, 0), (0, 0, 0))), (((0, (-2147483648), 2147483647), 0, (0, 0, 0), (0, 0, 0)), (0, (0, 3, 0), (0, 0, 0))), (((0, 0, 9), 0, (0, 0, 0), (0, 0, 0)), (0, (0, 4, 0), (0, 0, 0))), (((0, (-2147483648), 2147483647), 0, (0, 0, 0), (0, 0, 0)), (0, (0, 5, 0), (0, 0, 0))), (((0, 0, 12), 0, (0, 0, 0), (0, 0, 0)), (0, (0, 6, 0), (0, 0, 0)))], [some (1, 0, 0), some (1, 1, 0), some (1, 2, 0), some (1, 3, 0), some (1, 4, 0), some (1, 5, 0), some (1, 6, 0)], [], []), [(0, 0, 0), ((-1), 4, 0), (0, 0, 0), ((-1), 6, 0), (0, 0, 0)])
abbrev sn_5 : List se_Nd := [sn_5_0, sn_5_1]
set_option maxRecDepth 100000 in
theorem sk_5 : se_chk0 se_tt [] se_Z 37 se_zt sc_5 sn_5 5 = true := by decide +kernel
set_option maxRecDepth 100000 in
theorem sk_5_0 : se_chkn se_tt [] se_Z 37 se_zt sc_5 sn_5 5 sn_5_0 = true := by decide +kernel
set_option maxRecDepth 100000 in
theorem sk_5_1 : se_chkn se_tt [] se_Z 37 se_zt sc_5 sn_5 5 sn_5_1 = true := by decide +kernel
theorem sm_5 {ty : Nat → Option Nat} {J : List mm_C → Prop} {kx : Nat} {zs : List mm_Zt} (hO : se_Ok ty J kx zs) : se_Met ty se_tt J kx zs sc_5 := se_sound (C := []) hO.1 hO.2.1 hO.2.2 (fun _ hn => absurd hn List.not_mem_nil) sk_5 (fun n hn => by
  rcases List.mem_cons.mp hn with rfl | hn
  · exact sk_5_0
  rcases List.mem_cons.mp hn with rfl | hn
  · exact sk_5_1
  exact absurd hn List.not_mem_nil)
/-- java/lang/Integer.numberOfTrailingZeros -/
def sc_6 : se_C := ((37, 1), ([(((0, (-2147483648), 2147483647), 0, (0, 0, 0), (0, 0, 0)), (0, (0, 0, 0), (0, 0, 0)))], [some (1, 0, 0)], [], []), [([(((0, (-2147483648), 2147483647), 0, (0, 0, 0), (0, 0, 0)), (0, (0, 0, 0), (0, 0, 0)))], some (1, 1, 0), [], [])], [])
abbrev sn_6 : List se_Nd := []
set_option maxRecDepth 100000 in
theorem sk_6 : se_chk0 se_tt [] se_Z 37 se_zt sc_6 sn_6 6 = true := by decide +kernel
theorem sm_6 {ty : Nat → Option Nat} {J : List mm_C → Prop} {kx : Nat} {zs : List mm_Zt} (hO : se_Ok ty J kx zs) : se_Met ty se_tt J kx zs sc_6 := se_sound (C := []) hO.1 hO.2.1 hO.2.2 (fun _ hn => absurd hn List.not_mem_nil) sk_6 (fun _ hn => absurd hn List.not_mem_nil)
/-- RaftTown.raftIs -/
def sc_7 : se_C := ((25, 2), ([(((90, 0, 0), 0, (0, 0, 0), (0, 0, 0)), (0, (0, 0, 0), (0, 0, 0))), (((0, (-2147483648), 2147483647), 0, (0, 0, 0), (0, 0, 0)), (0, (0, 1, 0), (0, 0, 0))), (((0, (-2147483648), 2147483647), 0, (0, 0, 0), (0, 0, 0)), (0, (0, 2, 0), (0, 0, 0)))], [some (1, 0, 0), some (1, 1, 0), some (1, 2, 0)], [], []), [([(((0, (-2147483648), 2147483647), 0, (0, 0, 0), (0, 0, 0)), (0, (0, 0, 0), (0, 0, 0)))], some (1, 3, 0), [], [])], [(45, 0, 12), (46, 0, 12), (47, 0, 12), (48, 0, 10), (74, 4, 5), (74, 5, 6), (88, 7, 8)])
abbrev sn_7 : List se_Nd := []
set_option maxRecDepth 100000 in
theorem sk_7 : se_chk0 se_tt [sc_4, sc_5, sc_6] se_Z 37 se_zt sc_7 sn_7 7 = true := by decide +kernel
theorem sm_7 {ty : Nat → Option Nat} {J : List mm_C → Prop} {kx : Nat} {zs : List mm_Zt} (hO : se_Ok ty J kx zs) (h4 : se_Met ty se_tt J kx zs sc_4) (h5 : se_Met ty se_tt J kx zs sc_5) (h6 : se_Met ty se_tt J kx zs sc_6) : se_Met ty se_tt J kx zs sc_7 := se_sound (C := [sc_4, sc_5, sc_6]) hO.1 hO.2.1 hO.2.2 (fun n hn => by
  rcases List.mem_cons.mp hn with rfl | hn
  · exact h4
  rcases List.mem_cons.mp hn with rfl | hn
  · exact h5
  rcases List.mem_cons.mp hn with rfl | hn
  · exact h6
  exact absurd hn List.not_mem_nil) sk_7 (fun _ hn => absurd hn List.not_mem_nil)
