/-! ===== printed by wip/p2/gen_tab.py: contracts and their checks ===== -/
/-- RaftTown.stream -/
def sc_0 : se_C := ((12, 1), ([(((90, 0, 0), 0, (0, 0, 0), (0, 0, 0)), (0, (0, 0, 0), (0, 0, 0))), (((0, (-2147483648), 2147483647), 0, (0, 0, 0), (0, 0, 0)), (0, (0, 1, 0), (0, 0, 0))), (((0, (-2147483648), 2147483647), 0, (0, 0, 0), (0, 0, 0)), (0, (0, 2, 0), (0, 0, 0))), (((0, (-2147483648), 2147483647), 0, (0, 0, 0), (0, 0, 0)), (0, (0, 3, 0), (0, 0, 0)))], [some (1, 0, 0), some (1, 1, 0), some (1, 2, 0), some (1, 3, 0)], [], []), [([(((0, (-100001), 1), 0, (0, 0, 0), (0, 0, 0)), (0, (0, 0, 0), (0, 0, 0)))], some (1, 4, 0), [], [])], [(49, 0, 36), (50, 0, 36), (88, 7, 8)])
abbrev sn_0 : List se_Nd := []
set_option maxRecDepth 100000 in
theorem sk_0 : se_chk0 se_tt [] se_Z 37 se_zt sc_0 sn_0 7 = true := by decide +kernel
theorem sm_0 {ty : Nat → Option Nat} {J : List mm_C → Prop} {kx : Nat} {zs : List mm_Zt} (hO : se_Ok ty J kx zs) : se_Met ty se_tt J kx zs sc_0 := se_sound (C := []) hO.1 hO.2.1 hO.2.2 (fun _ hn => absurd hn List.not_mem_nil) sk_0 (fun _ hn => absurd hn List.not_mem_nil)
/-- RaftTown.raft -/
def sc_1 : se_C := ((17, 1), ([(((90, 0, 0), 0, (0, 0, 0), (0, 0, 0)), (0, (0, 0, 0), (0, 0, 0))), (((0, (-2147483648), 2147483647), 0, (0, 0, 0), (0, 0, 0)), (0, (0, 1, 0), (0, 0, 0))), (((0, (-2147483648), 2147483647), 0, (0, 0, 0), (0, 0, 0)), (0, (0, 2, 0), (0, 0, 0))), (((0, (-2147483648), 2147483647), 0, (0, 0, 0), (0, 0, 0)), (0, (0, 3, 0), (0, 0, 0))), (((0, (-2147483648), 2147483647), 0, (0, 0, 0), (0, 0, 0)), (0, (0, 4, 0), (0, 0, 0)))], [some (1, 0, 0), some (1, 1, 0), some (1, 2, 0), some (1, 3, 0), some (1, 4, 0)], [], []), [([(((0, (-2147483648), 9), 0, (0, 0, 0), (0, 0, 0)), (0, (0, 0, 0), (0, 0, 0)))], some (1, 5, 0), [], [])], [(76, 0, 1), (76, 1, 2), (76, 2, 3), (76, 3, 4), (76, 4, 5), (76, 5, 6), (76, 6, 7), (87, 2, 3), (88, 7, 8)])
abbrev sn_1 : List se_Nd := []
set_option maxRecDepth 100000 in
theorem sk_1 : se_chk0 se_tt [] se_Z 37 se_zt sc_1 sn_1 8 = true := by decide +kernel
theorem sm_1 {ty : Nat → Option Nat} {J : List mm_C → Prop} {kx : Nat} {zs : List mm_Zt} (hO : se_Ok ty J kx zs) : se_Met ty se_tt J kx zs sc_1 := se_sound (C := []) hO.1 hO.2.1 hO.2.2 (fun _ hn => absurd hn List.not_mem_nil) sk_1 (fun _ hn => absurd hn List.not_mem_nil)
/-- RaftTown$Raft.isOf -/
def sc_2 : se_C := ((24, 1), ([(((78, 0, 0), 0, (0, 0, 0), (0, 0, 0)), (0, (0, 0, 0), (0, 0, 0))), (((0, (-2147483648), 2147483647), 0, (0, 0, 0), (0, 0, 0)), (0, (0, 1, 0), (0, 0, 0)))], [some (1, 0, 0), some (1, 1, 0)], [], []), [([(((0, 0, 1), 0, (0, 0, 0), (0, 0, 0)), (0, (0, 0, 0), (0, 0, 0)))], some (1, 2, 0), [], [])], [])
def sn_2_0 : se_Nd := (7, ([(((78, 0, 0), 0, (0, 0, 0), (0, 0, 0)), (3, (0, 0, 0), (0, 0, 0))), (((0, (-2147483648), 2147483647), 0, (0, 0, 0), (0, 0, 0)), (3, (0, 1, 0), (0, 0, 0))), (((0, (-2147483648), 2147483647), 0, (0, 0, 0), (0, 0, 0)), (0, (0, 2, 0), (0, 0, 0))), (((0, 0, 6), 0, (0, 0, 0), (0, 0, 0)), (0, (0, 3, 0), (0, 0, 0)))], [some (1, 0, 0), some (1, 1, 0), some (1, 2, 0), some (1, 3, 0)], [], []), [(0, 0, 0), ((-1), 3, 0), (0, 0, 0)])
abbrev sn_2 : List se_Nd := [sn_2_0]
set_option maxRecDepth 100000 in
theorem sk_2 : se_chk0 se_tt [] se_Z 37 se_zt sc_2 sn_2 5 = true := by decide +kernel
set_option maxRecDepth 100000 in
theorem sk_2_0 : se_chkn se_tt [] se_Z 37 se_zt sc_2 sn_2 5 sn_2_0 = true := by decide +kernel
theorem sm_2 {ty : Nat → Option Nat} {J : List mm_C → Prop} {kx : Nat} {zs : List mm_Zt} (hO : se_Ok ty J kx zs) : se_Met ty se_tt J kx zs sc_2 := se_sound (C := []) hO.1 hO.2.1 hO.2.2 (fun _ hn => absurd hn List.not_mem_nil) sk_2 (fun n hn => by
  rcases List.mem_cons.mp hn with rfl | hn
  · exact sk_2_0
  exact absurd hn List.not_mem_nil)
/-- RaftTown.as -/
def sc_3 : se_C := ((22, 2), ([(((90, 0, 0), 0, (0, 0, 0), (0, 0, 0)), (0, (0, 0, 0), (0, 0, 0))), (((0, (-2147483648), 2147483647), 0, (0, 0, 0), (0, 0, 0)), (0, (0, 1, 0), (0, 0, 0))), (((0, (-2147483648), 2147483647), 0, (0, 0, 0), (0, 0, 0)), (0, (0, 2, 0), (0, 0, 0)))], [some (1, 0, 0), some (1, 1, 0), some (1, 2, 0)], [], []), [([(((0, (-100004), 2147483647), 0, (0, 0, 0), (0, 0, 0)), (0, (0, 0, 0), (0, 0, 0)))], some (1, 3, 0), [], [])], [(88, 7, 8)])
abbrev sn_3 : List se_Nd := []
set_option maxRecDepth 100000 in
theorem sk_3 : se_chk0 se_tt [sc_2] se_Z 37 se_zt sc_3 sn_3 7 = true := by decide +kernel
theorem sm_3 {ty : Nat → Option Nat} {J : List mm_C → Prop} {kx : Nat} {zs : List mm_Zt} (hO : se_Ok ty J kx zs) (h2 : se_Met ty se_tt J kx zs sc_2) : se_Met ty se_tt J kx zs sc_3 := se_sound (C := [sc_2]) hO.1 hO.2.1 hO.2.2 (fun n hn => by
  rcases List.mem_cons.mp hn with rfl | hn
  · exact h2
  exact absurd hn List.not_mem_nil) sk_3 (fun _ hn => absurd hn List.not_mem_nil)
/-- RaftTown$Net.survey -/
def sc_4 : se_C := ((27, 1), ([(((76, 0, 0), 0, (0, 0, 0), (0, 0, 0)), (0, (0, 0, 0), (0, 0, 0))), (((89, 0, 0), 0, (0, 0, 0), (0, 0, 0)), (0, (0, 1, 0), (0, 0, 0)))], [some (1, 0, 0), some (1, 1, 0)], [], []), [([], none, [], [])], [(45, 0, 12), (46, 0, 12), (47, 0, 12), (48, 0, 10), (74, 4, 5), (74, 5, 6)])
def sn_4_0 : se_Nd := (7, ([(((76, 0, 0), 0, (0, 0, 0), (0, 0, 0)), (3, (0, 0, 0), (0, 0, 0))), (((89, 0, 0), 0, (0, 0, 0), (0, 0, 0)), (3, (0, 1, 0), (0, 0, 0))), (((0, 0, 10), 0, (0, 0, 0), (0, 0, 0)), (0, (0, 2, 0), (0, 0, 0)))], [some (1, 0, 0), some (1, 1, 0), some (1, 2, 0), none], [], []), [(0, 0, 2), ((-1), 2, 0), (0, 0, 0)])
def sn_4_1 : se_Nd := (66, ([(((76, 0, 0), 0, (0, 0, 0), (0, 0, 0)), (3, (0, 0, 0), (0, 0, 0))), (((89, 0, 0), 0, (0, 0, 0), (0, 0, 0)), (3, (0, 1, 0), (0, 0, 0))), (((0, 0, 14), 0, (0, 0, 0), (0, 0, 0)), (0, (0, 2, 0), (0, 0, 0)))], [some (1, 0, 0), some (1, 1, 0), some (1, 2, 0), none], [], []), [(0, 0, 1), ((-1), 2, 0), (0, 0, 0)])
def sn_4_2 : se_Nd := (124, ([(((76, 0, 0), 0, (0, 0, 0), (0, 0, 0)), (3, (0, 0, 0), (0, 0, 0))), (((89, 0, 0), 0, (0, 0, 0), (0, 0, 0)), (3, (0, 1, 0), (0, 0, 0))), (((0, 0, 12), 0, (0, 0, 0), (0, 0, 0)), (0, (0, 2, 0), (0, 0, 0)))], [some (1, 0, 0), some (1, 1, 0), some (1, 2, 0), none], [], []), [(0, 0, 0), ((-1), 2, 0), (0, 0, 0)])
abbrev sn_4 : List se_Nd := [sn_4_0, sn_4_1, sn_4_2]
set_option maxRecDepth 100000 in
theorem sk_4 : se_chk0 se_tt [] se_Z 37 se_zt sc_4 sn_4 7 = true := by decide +kernel
set_option maxRecDepth 100000 in
theorem sk_4_0 : se_chkn se_tt [] se_Z 37 se_zt sc_4 sn_4 7 sn_4_0 = true := by decide +kernel
set_option maxRecDepth 100000 in
theorem sk_4_1 : se_chkn se_tt [] se_Z 37 se_zt sc_4 sn_4 7 sn_4_1 = true := by decide +kernel
set_option maxRecDepth 100000 in
theorem sk_4_2 : se_chkn se_tt [] se_Z 37 se_zt sc_4 sn_4 7 sn_4_2 = true := by decide +kernel
theorem sm_4 {ty : Nat → Option Nat} {J : List mm_C → Prop} {kx : Nat} {zs : List mm_Zt} (hO : se_Ok ty J kx zs) : se_Met ty se_tt J kx zs sc_4 := se_sound (C := []) hO.1 hO.2.1 hO.2.2 (fun _ hn => absurd hn List.not_mem_nil) sk_4 (fun n hn => by
  rcases List.mem_cons.mp hn with rfl | hn
  · exact sk_4_0
  rcases List.mem_cons.mp hn with rfl | hn
  · exact sk_4_1
  rcases List.mem_cons.mp hn with rfl | hn
  · exact sk_4_2
  exact absurd hn List.not_mem_nil)
/-- RaftTown$Net.reach -/
def sc_5 : se_C := ((35, 1), ([(((76, 0, 0), 0, (0, 0, 0), (0, 0, 0)), (0, (0, 0, 0), (0, 0, 0))), (((0, (-2147483648), 2147483647), 0, (0, 0, 0), (0, 0, 0)), (0, (0, 1, 0), (0, 0, 0))), (((0, (-2147483648), 2147483647), 0, (0, 0, 0), (0, 0, 0)), (0, (0, 2, 0), (0, 0, 0)))], [some (1, 0, 0), some (1, 1, 0), some (1, 2, 0)], [], []), [([(((0, (-2147483648), 2147483647), 0, (0, 0, 0), (0, 0, 0)), (0, (0, 0, 0), (0, 0, 0)))], some (1, 3, 0), [], [])], [])
def sn_5_0 : se_Nd := (5, ([(((76, 0, 0), 0, (0, 0, 0), (0, 0, 0)), (3, (0, 0, 0), (0, 0, 0))), (((0, (-2147483648), 2147483647), 0, (0, 0, 0), (0, 0, 0)), (3, (0, 1, 0), (0, 0, 0))), (((0, (-2147483648), 2147483647), 0, (0, 0, 0), (0, 0, 0)), (3, (0, 2, 0), (0, 0, 0))), (((0, (-2147483648), 2147483647), 0, (0, 0, 0), (0, 0, 0)), (0, (0, 3, 0), (0, 0, 0))), (((0, 0, 10), 0, (0, 0, 0), (0, 0, 0)), (0, (0, 4, 0), (0, 0, 0)))], [some (1, 0, 0), some (1, 1, 0), some (1, 2, 0), some (1, 3, 0), some (1, 4, 0), none, none], [], []), [(0, 0, 0), ((-1), 4, 0), (0, 0, 1)])
def sn_5_1 : se_Nd := (18, ([(((76, 0, 0), 0, (0, 0, 0), (0, 0, 0)), (3, (0, 0, 0), (0, 0, 0))), (((0, (-2147483648), 2147483647), 0, (0, 0, 0), (0, 0, 0)), (3, (0, 1, 0), (0, 0, 0))), (((0, (-2147483648), 2147483647), 0, (0, 0, 0), (0, 0, 0)), (3, (0, 2, 0), (0, 0, 0))), (((0, (-2147483648), 2147483647), 0, (0, 0, 0), (0, 0, 0)), (0, (0, 3, 0), (0, 0, 0))), (((0, 0, 9), 0, (0, 0, 0), (0, 0, 0)), (0, (0, 4, 0), (0, 0, 0))), (((0, (-2147483648), 2147483647), 0, (0, 0, 0), (0, 0, 0)), (0, (0, 5, 0), (0, 0, 0))), (((0, 0, 12), 0, (0, 0, 0), (0, 0, 0)), (0, (0, 6, 0), (0, 0, 0)))], [some (1, 0, 0), some (1, 1, 0), some (1, 2, 0), some (1, 3, 0), some (1, 4, 0), some (1, 5, 0), some (1, 6, 0)], [], []), [(0, 0, 0), ((-1), 4, 0), (0, 0, 0), ((-1), 6, 0), (0, 0, 0)])
abbrev sn_5 : List se_Nd := [sn_5_0, sn_5_1]
set_option maxRecDepth 100000 in
theorem sk_5 : se_chk0 se_tt [] se_Z 37 se_zt sc_5 sn_5 5 = true := by decide +kernel
set_option maxRecDepth 100000 in
theorem sk_5_0 : se_chkn se_tt [] se_Z 37 se_zt sc_5 sn_5 5 sn_5_0 = true := by decide +kernel
set_option maxRecDepth 100000 in
theorem sk_5_1 : se_chkn se_tt [] se_Z 37 se_zt sc_5 sn_5 5 sn_5_1 = true := by decide +kernel
theorem sm_5 {ty : Nat → Option Nat} {J : List mm_C → Prop} {kx : Nat} {zs : List mm_Zt} (hO : se_Ok ty J kx zs) : se_Met ty se_tt J kx zs sc_5 := se_sound (C := []) hO.1 hO.2.1 hO.2.2 (fun _ hn => absurd hn List.not_mem_nil) sk_5 (fun n hn => by
  rcases List.mem_cons.mp hn with rfl | hn
  · exact sk_5_0
  rcases List.mem_cons.mp hn with rfl | hn
  · exact sk_5_1
  exact absurd hn List.not_mem_nil)
/-- java/lang/Integer.numberOfTrailingZeros -/
def sc_6 : se_C := ((37, 1), ([(((0, (-2147483648), 2147483647), 0, (0, 0, 0), (0, 0, 0)), (0, (0, 0, 0), (0, 0, 0)))], [some (1, 0, 0)], [], []), [([(((0, (-2147483648), 2147483647), 0, (0, 0, 0), (0, 0, 0)), (0, (0, 0, 0), (0, 0, 0)))], some (1, 1, 0), [], [])], [])
abbrev sn_6 : List se_Nd := []
set_option maxRecDepth 100000 in
theorem sk_6 : se_chk0 se_tt [] se_Z 37 se_zt sc_6 sn_6 6 = true := by decide +kernel
theorem sm_6 {ty : Nat → Option Nat} {J : List mm_C → Prop} {kx : Nat} {zs : List mm_Zt} (hO : se_Ok ty J kx zs) : se_Met ty se_tt J kx zs sc_6 := se_sound (C := []) hO.1 hO.2.1 hO.2.2 (fun _ hn => absurd hn List.not_mem_nil) sk_6 (fun _ hn => absurd hn List.not_mem_nil)
/-- RaftTown.raftIs -/
def sc_7 : se_C := ((25, 2), ([(((90, 0, 0), 0, (0, 0, 0), (0, 0, 0)), (0, (0, 0, 0), (0, 0, 0))), (((0, (-2147483648), 2147483647), 0, (0, 0, 0), (0, 0, 0)), (0, (0, 1, 0), (0, 0, 0))), (((0, (-2147483648), 2147483647), 0, (0, 0, 0), (0, 0, 0)), (0, (0, 2, 0), (0, 0, 0)))], [some (1, 0, 0), some (1, 1, 0), some (1, 2, 0)], [], []), [([(((0, (-2147483648), 2147483647), 0, (0, 0, 0), (0, 0, 0)), (0, (0, 0, 0), (0, 0, 0)))], some (1, 3, 0), [], [])], [(45, 0, 12), (46, 0, 12), (47, 0, 12), (48, 0, 10), (74, 4, 5), (74, 5, 6), (88, 7, 8)])
abbrev sn_7 : List se_Nd := []
set_option maxRecDepth 100000 in
theorem sk_7 : se_chk0 se_tt [sc_4, sc_5, sc_6] se_Z 37 se_zt sc_7 sn_7 7 = true := by decide +kernel
theorem sm_7 {ty : Nat → Option Nat} {J : List mm_C → Prop} {kx : Nat} {zs : List mm_Zt} (hO : se_Ok ty J kx zs) (h4 : se_Met ty se_tt J kx zs sc_4) (h5 : se_Met ty se_tt J kx zs sc_5) (h6 : se_Met ty se_tt J kx zs sc_6) : se_Met ty se_tt J kx zs sc_7 := se_sound (C := [sc_4, sc_5, sc_6]) hO.1 hO.2.1 hO.2.2 (fun n hn => by
  rcases List.mem_cons.mp hn with rfl | hn
  · exact h4
  rcases List.mem_cons.mp hn with rfl | hn
  · exact h5
  rcases List.mem_cons.mp hn with rfl | hn
  · exact h6
  exact absurd hn List.not_mem_nil) sk_7 (fun _ hn => absurd hn List.not_mem_nil)
/-- RaftTown.load -/
def sc_8 : se_C := ((38, 1), ([(((90, 0, 0), 0, (0, 0, 0), (0, 0, 0)), (0, (0, 0, 0), (0, 0, 0))), (((0, (-2147483648), 2147483647), 0, (0, 0, 0), (0, 0, 0)), (0, (0, 1, 0), (0, 0, 0))), (((0, (-2147483648), 2147483647), 0, (0, 0, 0), (0, 0, 0)), (0, (0, 2, 0), (0, 0, 0))), (((0, 0, 1), 0, (0, 0, 0), (0, 0, 0)), (0, (0, 3, 0), (0, 0, 0)))], [some (1, 0, 0), some (1, 1, 0), some (1, 2, 0), some (1, 3, 0)], [], []), [([(((0, (-2147483648), 2147483647), 0, (0, 0, 0), (0, 0, 0)), (0, (0, 0, 0), (0, 0, 0)))], some (1, 4, 0), [], [])], [(76, 4, 5), (76, 5, 6), (88, 7, 8)])
abbrev sn_8 : List se_Nd := []
set_option maxRecDepth 100000 in
theorem sk_8 : se_chk0 se_tt [] se_Z 37 se_zt sc_8 sn_8 7 = true := by decide +kernel
theorem sm_8 {ty : Nat → Option Nat} {J : List mm_C → Prop} {kx : Nat} {zs : List mm_Zt} (hO : se_Ok ty J kx zs) : se_Met ty se_tt J kx zs sc_8 := se_sound (C := []) hO.1 hO.2.1 hO.2.2 (fun _ hn => absurd hn List.not_mem_nil) sk_8 (fun _ hn => absurd hn List.not_mem_nil)
/-- RaftTown.trade -/
def sc_9 : se_C := ((42, 2), ([(((90, 0, 0), 0, (0, 0, 0), (0, 0, 0)), (0, (0, 0, 0), (0, 0, 0))), (((0, (-2147483648), 2147483647), 0, (0, 0, 0), (0, 0, 0)), (0, (0, 1, 0), (0, 0, 0))), (((0, (-2147483648), 2147483647), 0, (0, 0, 0), (0, 0, 0)), (0, (0, 2, 0), (0, 0, 0))), (((0, (-2147483648), 2147483647), 0, (0, 0, 0), (0, 0, 0)), (0, (0, 3, 0), (0, 0, 0))), (((0, 0, 1), 0, (0, 0, 0), (0, 0, 0)), (0, (0, 4, 0), (0, 0, 0)))], [some (1, 0, 0), some (1, 1, 0), some (1, 2, 0), some (1, 3, 0), some (1, 4, 0)], [], []), [([(((0, (-2147483648), 2147483647), 0, (0, 0, 0), (0, 0, 0)), (0, (0, 0, 0), (0, 0, 0)))], some (1, 5, 0), [], [])], [(45, 0, 12), (46, 0, 12), (47, 0, 12), (48, 0, 10), (74, 4, 5), (74, 5, 6), (76, 4, 5), (76, 5, 6), (88, 7, 8)])
abbrev sn_9 : List se_Nd := []
set_option maxRecDepth 100000 in
theorem sk_9 : se_chk0 se_tt [sc_4, sc_5] se_Z 37 se_zt sc_9 sn_9 8 = true := by decide +kernel
theorem sm_9 {ty : Nat → Option Nat} {J : List mm_C → Prop} {kx : Nat} {zs : List mm_Zt} (hO : se_Ok ty J kx zs) (h4 : se_Met ty se_tt J kx zs sc_4) (h5 : se_Met ty se_tt J kx zs sc_5) : se_Met ty se_tt J kx zs sc_9 := se_sound (C := [sc_4, sc_5]) hO.1 hO.2.1 hO.2.2 (fun n hn => by
  rcases List.mem_cons.mp hn with rfl | hn
  · exact h4
  rcases List.mem_cons.mp hn with rfl | hn
  · exact h5
  exact absurd hn List.not_mem_nil) sk_9 (fun _ hn => absurd hn List.not_mem_nil)
/-- RaftTown.person -/
def sc_10 : se_C := ((45, 1), ([(((90, 0, 0), 0, (0, 0, 0), (0, 0, 0)), (0, (0, 0, 0), (0, 0, 0))), (((0, (-2147483648), 2147483647), 0, (0, 0, 0), (0, 0, 0)), (0, (0, 1, 0), (0, 0, 0))), (((0, (-2147483648), 2147483647), 0, (0, 0, 0), (0, 0, 0)), (0, (0, 2, 0), (0, 0, 0))), (((0, (-2147483648), 2147483647), 0, (0, 0, 0), (0, 0, 0)), (0, (0, 3, 0), (0, 0, 0))), (((0, (-2147483648), 2147483647), 0, (0, 0, 0), (0, 0, 0)), (0, (0, 4, 0), (0, 0, 0)))], [some (1, 0, 0), some (1, 1, 0), some (1, 2, 0), some (1, 3, 0), some (1, 4, 0)], [], []), [([(((0, (-2147483648), 13), 0, (0, 0, 0), (0, 0, 0)), (0, (0, 0, 0), (0, 0, 0)))], some (1, 5, 0), [], [])], [(75, 0, 1), (75, 1, 2), (75, 2, 3), (75, 3, 4), (75, 4, 5), (75, 5, 6), (75, 6, 7), (87, 4, 5), (88, 7, 8)])
abbrev sn_10 : List se_Nd := []
set_option maxRecDepth 100000 in
theorem sk_10 : se_chk0 se_tt [] se_Z 37 se_zt sc_10 sn_10 8 = true := by decide +kernel
theorem sm_10 {ty : Nat → Option Nat} {J : List mm_C → Prop} {kx : Nat} {zs : List mm_Zt} (hO : se_Ok ty J kx zs) : se_Met ty se_tt J kx zs sc_10 := se_sound (C := []) hO.1 hO.2.1 hO.2.2 (fun _ hn => absurd hn List.not_mem_nil) sk_10 (fun _ hn => absurd hn List.not_mem_nil)
/-- RaftTown.wed -/
def sc_11 : se_C := ((49, 1), ([(((90, 0, 0), 0, (0, 0, 0), (0, 0, 0)), (0, (0, 0, 0), (0, 0, 0))), (((0, (-2147483648), 2147483647), 0, (0, 0, 0), (0, 0, 0)), (0, (0, 1, 0), (0, 0, 0))), (((0, (-2147483648), 2147483647), 0, (0, 0, 0), (0, 0, 0)), (0, (0, 2, 0), (0, 0, 0)))], [some (1, 0, 0), some (1, 1, 0), some (1, 2, 0)], [], []), [([(((0, (-100007), 1), 0, (0, 0, 0), (0, 0, 0)), (0, (0, 0, 0), (0, 0, 0)))], some (1, 3, 0), [], [])], [(75, 4, 5), (88, 7, 8)])
abbrev sn_11 : List se_Nd := []
set_option maxRecDepth 100000 in
theorem sk_11 : se_chk0 se_tt [] se_Z 37 se_zt sc_11 sn_11 7 = true := by decide +kernel
theorem sm_11 {ty : Nat → Option Nat} {J : List mm_C → Prop} {kx : Nat} {zs : List mm_Zt} (hO : se_Ok ty J kx zs) : se_Met ty se_tt J kx zs sc_11 := se_sound (C := []) hO.1 hO.2.1 hO.2.2 (fun _ hn => absurd hn List.not_mem_nil) sk_11 (fun _ hn => absurd hn List.not_mem_nil)
/-- RaftTown.move -/
def sc_12 : se_C := ((51, 2), ([(((90, 0, 0), 0, (0, 0, 0), (0, 0, 0)), (0, (0, 0, 0), (0, 0, 0))), (((0, (-2147483648), 2147483647), 0, (0, 0, 0), (0, 0, 0)), (0, (0, 1, 0), (0, 0, 0))), (((0, (-2147483648), 2147483647), 0, (0, 0, 0), (0, 0, 0)), (0, (0, 2, 0), (0, 0, 0)))], [some (1, 0, 0), some (1, 1, 0), some (1, 2, 0)], [], []), [([(((0, (-2147483648), 2147483647), 0, (0, 0, 0), (0, 0, 0)), (0, (0, 0, 0), (0, 0, 0)))], some (1, 3, 0), [], [])], [(45, 0, 12), (46, 0, 12), (47, 0, 12), (48, 0, 10), (74, 4, 5), (74, 5, 6), (75, 0, 1), (88, 7, 8)])
abbrev sn_12 : List se_Nd := []
set_option maxRecDepth 100000 in
theorem sk_12 : se_chk0 se_tt [sc_4, sc_5] se_Z 37 se_zt sc_12 sn_12 8 = true := by decide +kernel
theorem sm_12 {ty : Nat → Option Nat} {J : List mm_C → Prop} {kx : Nat} {zs : List mm_Zt} (hO : se_Ok ty J kx zs) (h4 : se_Met ty se_tt J kx zs sc_4) (h5 : se_Met ty se_tt J kx zs sc_5) : se_Met ty se_tt J kx zs sc_12 := se_sound (C := [sc_4, sc_5]) hO.1 hO.2.1 hO.2.2 (fun n hn => by
  rcases List.mem_cons.mp hn with rfl | hn
  · exact h4
  rcases List.mem_cons.mp hn with rfl | hn
  · exact h5
  exact absurd hn List.not_mem_nil) sk_12 (fun _ hn => absurd hn List.not_mem_nil)
/-- RaftTown$Town.kinOf -/
def sc_13 : se_C := ((53, 1), ([(((89, 0, 0), 0, (0, 0, 0), (0, 0, 0)), (0, (0, 0, 0), (0, 0, 0))), (((0, (-2147483648), 2147483647), 0, (0, 0, 0), (0, 0, 0)), (0, (0, 1, 0), (0, 0, 0)))], [some (1, 0, 0), some (1, 1, 0)], [], []), [([(((0, (-2147483648), 2147483647), 0, (0, 0, 0), (0, 0, 0)), (0, (0, 0, 0), (0, 0, 0)))], some (1, 2, 0), [], [])], [])
def sn_13_0 : se_Nd := (4, ([(((89, 0, 0), 0, (0, 0, 0), (0, 0, 0)), (3, (0, 0, 0), (0, 0, 0))), (((0, (-2147483648), 2147483647), 0, (0, 0, 0), (0, 0, 0)), (3, (0, 1, 0), (0, 0, 0))), (((0, (-2147483648), 2147483647), 0, (0, 0, 0), (0, 0, 0)), (0, (0, 2, 0), (0, 0, 0))), (((0, 0, 2147483647), 0, (0, 0, 0), (0, 0, 0)), (0, (0, 3, 0), (0, 0, 0)))], [some (1, 0, 0), some (1, 1, 0), some (1, 2, 0), some (1, 3, 0)], [], []), [(0, 0, 0), ((-1), 3, 0), (0, 0, 0)])
abbrev sn_13 : List se_Nd := [sn_13_0]
set_option maxRecDepth 100000 in
theorem sk_13 : se_chk0 se_tt [] se_Z 37 se_zt sc_13 sn_13 8 = true := by decide +kernel
set_option maxRecDepth 100000 in
theorem sk_13_0 : se_chkn se_tt [] se_Z 37 se_zt sc_13 sn_13 8 sn_13_0 = true := by decide +kernel
theorem sm_13 {ty : Nat → Option Nat} {J : List mm_C → Prop} {kx : Nat} {zs : List mm_Zt} (hO : se_Ok ty J kx zs) : se_Met ty se_tt J kx zs sc_13 := se_sound (C := []) hO.1 hO.2.1 hO.2.2 (fun _ hn => absurd hn List.not_mem_nil) sk_13 (fun n hn => by
  rcases List.mem_cons.mp hn with rfl | hn
  · exact sk_13_0
  exact absurd hn List.not_mem_nil)
/-- RaftTown.personIs -/
def sc_14 : se_C := ((52, 2), ([(((90, 0, 0), 0, (0, 0, 0), (0, 0, 0)), (0, (0, 0, 0), (0, 0, 0))), (((0, (-2147483648), 2147483647), 0, (0, 0, 0), (0, 0, 0)), (0, (0, 1, 0), (0, 0, 0))), (((0, (-2147483648), 2147483647), 0, (0, 0, 0), (0, 0, 0)), (0, (0, 2, 0), (0, 0, 0)))], [some (1, 0, 0), some (1, 1, 0), some (1, 2, 0)], [], []), [([(((0, (-2147483648), 2147483647), 0, (0, 0, 0), (0, 0, 0)), (0, (0, 0, 0), (0, 0, 0)))], some (1, 3, 0), [], [])], [(88, 7, 8)])
abbrev sn_14 : List se_Nd := []
set_option maxRecDepth 100000 in
theorem sk_14 : se_chk0 se_tt [sc_13] se_Z 37 se_zt sc_14 sn_14 6 = true := by decide +kernel
theorem sm_14 {ty : Nat → Option Nat} {J : List mm_C → Prop} {kx : Nat} {zs : List mm_Zt} (hO : se_Ok ty J kx zs) (h13 : se_Met ty se_tt J kx zs sc_13) : se_Met ty se_tt J kx zs sc_14 := se_sound (C := [sc_13]) hO.1 hO.2.1 hO.2.2 (fun n hn => by
  rcases List.mem_cons.mp hn with rfl | hn
  · exact h13
  exact absurd hn List.not_mem_nil) sk_14 (fun _ hn => absurd hn List.not_mem_nil)
