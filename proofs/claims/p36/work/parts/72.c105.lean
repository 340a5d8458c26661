/-! ===== printed by wip/p2/gen_tab.py: contracts and their checks ===== -/
/-- RaftTown$Tape.read -/
def sc_105 : se_C := ((131, 35), ([(((82, 0, 0), 0, (0, 0, 0), (0, 0, 0)), (0, (0, 0, 0), (0, 0, 0)))], [some (1, 0, 0)], [], []), [([(((0, (-2147483648), 2147483647), 0, (0, 0, 0), (0, 0, 0)), (0, (0, 0, 0), (0, 0, 0)))], some (1, 1, 0), [], [])], [(54, 0, 160), (55, 0, 3), (80, 1, 2), (80, 3, 4), (80, 4, 5), (80, 5, 6), (80, 6, 7), (81, 0, 1), (81, 3, 4)])
abbrev sn_105 : List se_Nd := []
set_option maxRecDepth 100000 in
theorem sk_105 : se_chk0 se_tt [sc_74, sc_104] se_Z 37 se_zt sc_105 sn_105 8 = true := by decide +kernel
theorem sm_105 {ty : Nat → Option Nat} {J : List mm_C → Prop} {kx : Nat} {zs : List mm_Zt} (hO : se_Ok ty J kx zs) (h74 : se_Met ty se_tt J kx zs sc_74) (h104 : se_Met ty se_tt J kx zs sc_104) : se_Met ty se_tt J kx zs sc_105 := se_sound (C := [sc_74, sc_104]) hO.1 hO.2.1 hO.2.2 (fun n hn => by
  rcases List.mem_cons.mp hn with rfl | hn
  · exact h74
  rcases List.mem_cons.mp hn with rfl | hn
  · exact h104
  exact absurd hn List.not_mem_nil) sk_105 (fun _ hn => absurd hn List.not_mem_nil)
/-- RaftTown.text -/
def sc_106 : se_C := ((130, 36), ([(((90, 0, 0), 0, (0, 0, 0), (0, 0, 0)), (0, (0, 0, 0), (0, 0, 0))), (((0, (-2147483648), 2147483647), 0, (0, 0, 0), (0, 0, 0)), (0, (0, 1, 0), (0, 0, 0)))], [some (1, 0, 0), some (1, 1, 0)], [], []), [([(((0, (-2147483648), 2147483647), 0, (0, 0, 0), (0, 0, 0)), (0, (0, 0, 0), (0, 0, 0)))], some (1, 2, 0), [], [])], [(54, 0, 160), (55, 0, 3), (80, 1, 2), (80, 3, 4), (80, 4, 5), (80, 5, 6), (80, 6, 7), (81, 0, 1), (81, 3, 4), (88, 7, 8)])
abbrev sn_106 : List se_Nd := []
set_option maxRecDepth 100000 in
theorem sk_106 : se_chk0 se_tt [sc_105] se_Z 37 se_zt sc_106 sn_106 7 = true := by decide +kernel
theorem sm_106 {ty : Nat → Option Nat} {J : List mm_C → Prop} {kx : Nat} {zs : List mm_Zt} (hO : se_Ok ty J kx zs) (h105 : se_Met ty se_tt J kx zs sc_105) : se_Met ty se_tt J kx zs sc_106 := se_sound (C := [sc_105]) hO.1 hO.2.1 hO.2.2 (fun n hn => by
  rcases List.mem_cons.mp hn with rfl | hn
  · exact h105
  exact absurd hn List.not_mem_nil) sk_106 (fun _ hn => absurd hn List.not_mem_nil)
/-- RaftTown.force -/
def sc_107 : se_C := ((165, 2), ([(((90, 0, 0), 0, (0, 0, 0), (0, 0, 0)), (0, (0, 0, 0), (0, 0, 0))), (((0, (-2147483648), 2147483647), 0, (0, 0, 0), (0, 0, 0)), (0, (0, 1, 0), (0, 0, 0))), (((0, (-2147483648), 2147483647), 0, (0, 0, 0), (0, 0, 0)), (0, (0, 2, 0), (0, 0, 0)))], [some (1, 0, 0), some (1, 1, 0), some (1, 2, 0)], [], []), [([(((0, (-100006), 11), 0, (0, 0, 0), (0, 0, 0)), (0, (0, 0, 0), (0, 0, 0)))], some (1, 3, 0), [], [])], [(39, 0, 40), (40, 0, 40), (41, 0, 40), (42, 0, 40), (43, 0, 12), (44, 0, 12), (45, 0, 12), (46, 0, 12), (47, 0, 12), (48, 0, 10), (73, 4, 5), (73, 5, 6), (73, 8, 9), (74, 4, 5), (74, 5, 6), (88, 7, 8)])
abbrev sn_107 : List se_Nd := []
set_option maxRecDepth 100000 in
theorem sk_107 : se_chk0 se_tt [sc_4, sc_5, sc_17] se_Z 37 se_zt sc_107 sn_107 8 = true := by decide +kernel
theorem sm_107 {ty : Nat → Option Nat} {J : List mm_C → Prop} {kx : Nat} {zs : List mm_Zt} (hO : se_Ok ty J kx zs) (h4 : se_Met ty se_tt J kx zs sc_4) (h5 : se_Met ty se_tt J kx zs sc_5) (h17 : se_Met ty se_tt J kx zs sc_17) : se_Met ty se_tt J kx zs sc_107 := se_sound (C := [sc_4, sc_5, sc_17]) hO.1 hO.2.1 hO.2.2 (fun n hn => by
  rcases List.mem_cons.mp hn with rfl | hn
  · exact h4
  rcases List.mem_cons.mp hn with rfl | hn
  · exact h5
  rcases List.mem_cons.mp hn with rfl | hn
  · exact h17
  exact absurd hn List.not_mem_nil) sk_107 (fun _ hn => absurd hn List.not_mem_nil)
/-- RaftTown.law -/
def sc_108 : se_C := ((167, 2), ([(((90, 0, 0), 0, (0, 0, 0), (0, 0, 0)), (0, (0, 0, 0), (0, 0, 0))), (((0, (-2147483648), 2147483647), 0, (0, 0, 0), (0, 0, 0)), (0, (0, 1, 0), (0, 0, 0)))], [some (1, 0, 0), some (1, 1, 0)], [], []), [([(((0, (-100006), 11), 0, (0, 0, 0), (0, 0, 0)), (0, (0, 0, 0), (0, 0, 0)))], some (1, 2, 0), [], [])], [(45, 0, 12), (46, 0, 12), (47, 0, 12), (48, 0, 10), (74, 4, 5), (74, 5, 6), (88, 7, 8)])
abbrev sn_108 : List se_Nd := []
set_option maxRecDepth 100000 in
theorem sk_108 : se_chk0 se_tt [sc_4, sc_5, sc_20] se_Z 37 se_zt sc_108 sn_108 7 = true := by decide +kernel
theorem sm_108 {ty : Nat → Option Nat} {J : List mm_C → Prop} {kx : Nat} {zs : List mm_Zt} (hO : se_Ok ty J kx zs) (h4 : se_Met ty se_tt J kx zs sc_4) (h5 : se_Met ty se_tt J kx zs sc_5) (h20 : se_Met ty se_tt J kx zs sc_20) : se_Met ty se_tt J kx zs sc_108 := se_sound (C := [sc_4, sc_5, sc_20]) hO.1 hO.2.1 hO.2.2 (fun n hn => by
  rcases List.mem_cons.mp hn with rfl | hn
  · exact h4
  rcases List.mem_cons.mp hn with rfl | hn
  · exact h5
  rcases List.mem_cons.mp hn with rfl | hn
  · exact h20
  exact absurd hn List.not_mem_nil) sk_108 (fun _ hn => absurd hn List.not_mem_nil)
/-- RaftTown.may -/
def sc_109 : se_C := ((169, 4), ([(((90, 0, 0), 0, (0, 0, 0), (0, 0, 0)), (0, (0, 0, 0), (0, 0, 0))), (((0, (-2147483648), 2147483647), 0, (0, 0, 0), (0, 0, 0)), (0, (0, 1, 0), (0, 0, 0))), (((0, (-2147483648), 2147483647), 0, (0, 0, 0), (0, 0, 0)), (0, (0, 2, 0), (0, 0, 0)))], [some (1, 0, 0), some (1, 1, 0), some (1, 2, 0)], [], []), [([(((0, (-2147483648), 2147483647), 0, (0, 0, 0), (0, 0, 0)), (0, (0, 0, 0), (0, 0, 0)))], some (1, 3, 0), [], [])], [(37, 0, 9), (38, 0, 24), (45, 0, 12), (46, 0, 12), (47, 0, 12), (48, 0, 10), (72, 2, 3), (74, 4, 5), (74, 5, 6), (88, 7, 8)])
abbrev sn_109 : List se_Nd := []
set_option maxRecDepth 100000 in
theorem sk_109 : se_chk0 se_tt [sc_4, sc_5, sc_20, sc_28, sc_30] se_Z 37 se_zt sc_109 sn_109 8 = true := by decide +kernel
theorem sm_109 {ty : Nat → Option Nat} {J : List mm_C → Prop} {kx : Nat} {zs : List mm_Zt} (hO : se_Ok ty J kx zs) (h4 : se_Met ty se_tt J kx zs sc_4) (h5 : se_Met ty se_tt J kx zs sc_5) (h20 : se_Met ty se_tt J kx zs sc_20) (h28 : se_Met ty se_tt J kx zs sc_28) (h30 : se_Met ty se_tt J kx zs sc_30) : se_Met ty se_tt J kx zs sc_109 := se_sound (C := [sc_4, sc_5, sc_20, sc_28, sc_30]) hO.1 hO.2.1 hO.2.2 (fun n hn => by
  rcases List.mem_cons.mp hn with rfl | hn
  · exact h4
  rcases List.mem_cons.mp hn with rfl | hn
  · exact h5
  rcases List.mem_cons.mp hn with rfl | hn
  · exact h20
  rcases List.mem_cons.mp hn with rfl | hn
  · exact h28
  rcases List.mem_cons.mp hn with rfl | hn
  · exact h30
  exact absurd hn List.not_mem_nil) sk_109 (fun _ hn => absurd hn List.not_mem_nil)
/-- RaftTown.must -/
def sc_110 : se_C := ((170, 3), ([(((90, 0, 0), 0, (0, 0, 0), (0, 0, 0)), (0, (0, 0, 0), (0, 0, 0))), (((0, (-2147483648), 2147483647), 0, (0, 0, 0), (0, 0, 0)), (0, (0, 1, 0), (0, 0, 0))), (((0, (-2147483648), 2147483647), 0, (0, 0, 0), (0, 0, 0)), (0, (0, 2, 0), (0, 0, 0)))], [some (1, 0, 0), some (1, 1, 0), some (1, 2, 0)], [], []), [([(((0, (-2147483648), 2147483647), 0, (0, 0, 0), (0, 0, 0)), (0, (0, 0, 0), (0, 0, 0)))], some (1, 3, 0), [], [])], [(37, 0, 9), (38, 0, 24), (45, 0, 12), (46, 0, 12), (47, 0, 12), (48, 0, 10), (72, 2, 3), (74, 4, 5), (74, 5, 6), (88, 7, 8)])
abbrev sn_110 : List se_Nd := []
set_option maxRecDepth 100000 in
theorem sk_110 : se_chk0 se_tt [sc_4, sc_5, sc_20, sc_21, sc_24, sc_25, sc_26, sc_27, sc_30] se_Z 37 se_zt sc_110 sn_110 9 = true := by decide +kernel
theorem sm_110 {ty : Nat → Option Nat} {J : List mm_C → Prop} {kx : Nat} {zs : List mm_Zt} (hO : se_Ok ty J kx zs) (h4 : se_Met ty se_tt J kx zs sc_4) (h5 : se_Met ty se_tt J kx zs sc_5) (h20 : se_Met ty se_tt J kx zs sc_20) (h21 : se_Met ty se_tt J kx zs sc_21) (h24 : se_Met ty se_tt J kx zs sc_24) (h25 : se_Met ty se_tt J kx zs sc_25) (h26 : se_Met ty se_tt J kx zs sc_26) (h27 : se_Met ty se_tt J kx zs sc_27) (h30 : se_Met ty se_tt J kx zs sc_30) : se_Met ty se_tt J kx zs sc_110 := se_sound (C := [sc_4, sc_5, sc_20, sc_21, sc_24, sc_25, sc_26, sc_27, sc_30]) hO.1 hO.2.1 hO.2.2 (fun n hn => by
  rcases List.mem_cons.mp hn with rfl | hn
  · exact h4
  rcases List.mem_cons.mp hn with rfl | hn
  · exact h5
  rcases List.mem_cons.mp hn with rfl | hn
  · exact h20
  rcases List.mem_cons.mp hn with rfl | hn
  · exact h21
  rcases List.mem_cons.mp hn with rfl | hn
  · exact h24
  rcases List.mem_cons.mp hn with rfl | hn
  · exact h25
  rcases List.mem_cons.mp hn with rfl | hn
  · exact h26
  rcases List.mem_cons.mp hn with rfl | hn
  · exact h27
  rcases List.mem_cons.mp hn with rfl | hn
  · exact h30
  exact absurd hn List.not_mem_nil) sk_110 (fun _ hn => absurd hn List.not_mem_nil)
/-- RaftTown.speaks -/
def sc_111 : se_C := ((172, 3), ([(((90, 0, 0), 0, (0, 0, 0), (0, 0, 0)), (0, (0, 0, 0), (0, 0, 0))), (((0, (-2147483648), 2147483647), 0, (0, 0, 0), (0, 0, 0)), (0, (0, 1, 0), (0, 0, 0)))], [some (1, 0, 0), some (1, 1, 0)], [], []), [([(((0, (-100006), 2147483646), 0, (0, 0, 0), (0, 0, 0)), (0, (0, 0, 0), (0, 0, 0)))], some (1, 2, 0), [], [])], [(37, 0, 9), (38, 0, 24), (45, 0, 12), (46, 0, 12), (47, 0, 12), (48, 0, 10), (72, 2, 3), (74, 4, 5), (74, 5, 6), (88, 7, 8)])
def sn_111_0 : se_Nd := (53, ([(((90, 0, 0), 0, (0, 0, 0), (0, 0, 0)), (3, (0, 0, 0), (0, 0, 0))), (((0, 0, 2147483647), 0, (0, 0, 0), (0, 0, 0)), (3, (0, 1, 0), (0, 0, 0))), (((0, 0, 11), 0, (0, 0, 0), (0, 0, 0)), (0, (0, 2, 0), (0, 0, 0))), (((0, (-2147483648), 2147483647), 0, (0, 0, 0), (0, 0, 0)), (0, (0, 3, 0), (0, 0, 0))), (((0, (-1), 2147483646), 0, (0, 0, 0), (0, 0, 0)), (0, (0, 4, 0), (0, 0, 0))), (((0, (-2147483648), 2147483647), 0, (0, 0, 0), (0, 0, 0)), (0, (0, 5, 0), (0, 0, 0))), (((0, 0, 2147483647), 0, (0, 0, 0), (0, 0, 0)), (0, (0, 6, 0), (0, 0, 0)))], [some (1, 0, 0), some (1, 1, 0), some (1, 2, 0), some (1, 3, 0), some (1, 4, 0), some (1, 5, 0), some (1, 6, 0), none], [], []), [(0, 0, 0), ((-1), 6, 0), (0, 0, 0)])
abbrev sn_111 : List se_Nd := [sn_111_0]
set_option maxRecDepth 100000 in
theorem sk_111 : se_chk0 se_tt [sc_4, sc_5, sc_13, sc_20, sc_21, sc_24, sc_25, sc_27, sc_30] se_Z 37 se_zt sc_111 sn_111 8 = true := by decide +kernel
set_option maxRecDepth 100000 in
theorem sk_111_0 : se_chkn se_tt [sc_4, sc_5, sc_13, sc_20, sc_21, sc_24, sc_25, sc_27, sc_30] se_Z 37 se_zt sc_111 sn_111 8 sn_111_0 = true := by decide +kernel
theorem sm_111 {ty : Nat → Option Nat} {J : List mm_C → Prop} {kx : Nat} {zs : List mm_Zt} (hO : se_Ok ty J kx zs) (h4 : se_Met ty se_tt J kx zs sc_4) (h5 : se_Met ty se_tt J kx zs sc_5) (h13 : se_Met ty se_tt J kx zs sc_13) (h20 : se_Met ty se_tt J kx zs sc_20) (h21 : se_Met ty se_tt J kx zs sc_21) (h24 : se_Met ty se_tt J kx zs sc_24) (h25 : se_Met ty se_tt J kx zs sc_25) (h27 : se_Met ty se_tt J kx zs sc_27) (h30 : se_Met ty se_tt J kx zs sc_30) : se_Met ty se_tt J kx zs sc_111 := se_sound (C := [sc_4, sc_5, sc_13, sc_20, sc_21, sc_24, sc_25, sc_27, sc_30]) hO.1 hO.2.1 hO.2.2 (fun n hn => by
  rcases List.mem_cons.mp hn with rfl | hn
  · exact h4
  rcases List.mem_cons.mp hn with rfl | hn
  · exact h5
  rcases List.mem_cons.mp hn with rfl | hn
  · exact h13
  rcases List.mem_cons.mp hn with rfl | hn
  · exact h20
  rcases List.mem_cons.mp hn with rfl | hn
  · exact h21
  rcases List.mem_cons.mp hn with rfl | hn
  · exact h24
  rcases List.mem_cons.mp hn with rfl | hn
  · exact h25
  rcases List.mem_cons.mp hn with rfl | hn
  · exact h27
  rcases List.mem_cons.mp hn with rfl | hn
  · exact h30
  exact absurd hn List.not_mem_nil) sk_111 (fun n hn => by
  rcases List.mem_cons.mp hn with rfl | hn
  · exact sk_111_0
  exact absurd hn List.not_mem_nil)
/-- RaftTown$Log.countKnown -/
def sc_112 : se_C := ((175, 1), ([(((75, 0, 0), 0, (0, 0, 0), (0, 0, 0)), (0, (0, 0, 0), (0, 0, 0))), (((0, (-2147483648), 2147483647), 0, (0, 0, 0), (0, 0, 0)), (0, (0, 1, 0), (0, 0, 0)))], [some (1, 0, 0), some (1, 1, 0)], [], []), [([(((0, (-2147483648), 2147483647), 0, (0, 0, 0), (0, 0, 0)), (0, (0, 0, 0), (0, 0, 0)))], some (1, 2, 0), [], [])], [])
def sn_112_0 : se_Nd := (4, ([(((75, 0, 0), 0, (0, 0, 0), (0, 0, 0)), (3, (0, 0, 0), (0, 0, 0))), (((0, (-2147483648), 2147483647), 0, (0, 0, 0), (0, 0, 0)), (3, (0, 1, 0), (0, 0, 0))), (((0, (-2147483648), 2147483647), 0, (0, 0, 0), (0, 0, 0)), (0, (0, 2, 0), (0, 0, 0))), (((0, 0, 40), 0, (0, 0, 0), (0, 0, 0)), (0, (0, 3, 0), (0, 0, 0)))], [some (1, 0, 0), some (1, 1, 0), some (1, 2, 0), some (1, 3, 0)], [], []), [(0, 0, 0), ((-1), 3, 0), (0, 0, 0)])
abbrev sn_112 : List se_Nd := [sn_112_0]
set_option maxRecDepth 100000 in
theorem sk_112 : se_chk0 se_tt [] se_Z 37 se_zt sc_112 sn_112 4 = true := by decide +kernel
set_option maxRecDepth 100000 in
theorem sk_112_0 : se_chkn se_tt [] se_Z 37 se_zt sc_112 sn_112 4 sn_112_0 = true := by decide +kernel
theorem sm_112 {ty : Nat → Option Nat} {J : List mm_C → Prop} {kx : Nat} {zs : List mm_Zt} (hO : se_Ok ty J kx zs) : se_Met ty se_tt J kx zs sc_112 := se_sound (C := []) hO.1 hO.2.1 hO.2.2 (fun _ hn => absurd hn List.not_mem_nil) sk_112 (fun n hn => by
  rcases List.mem_cons.mp hn with rfl | hn
  · exact sk_112_0
  exact absurd hn List.not_mem_nil)
/-- RaftTown.events -/
def sc_113 : se_C := ((174, 2), ([(((90, 0, 0), 0, (0, 0, 0), (0, 0, 0)), (0, (0, 0, 0), (0, 0, 0))), (((0, (-2147483648), 2147483647), 0, (0, 0, 0), (0, 0, 0)), (0, (0, 1, 0), (0, 0, 0)))], [some (1, 0, 0), some (1, 1, 0)], [], []), [([(((0, (-2147483648), 2147483647), 0, (0, 0, 0), (0, 0, 0)), (0, (0, 0, 0), (0, 0, 0)))], some (1, 2, 0), [], [])], [(88, 7, 8)])
abbrev sn_113 : List se_Nd := []
set_option maxRecDepth 100000 in
theorem sk_113 : se_chk0 se_tt [sc_112] se_Z 37 se_zt sc_113 sn_113 6 = true := by decide +kernel
theorem sm_113 {ty : Nat → Option Nat} {J : List mm_C → Prop} {kx : Nat} {zs : List mm_Zt} (hO : se_Ok ty J kx zs) (h112 : se_Met ty se_tt J kx zs sc_112) : se_Met ty se_tt J kx zs sc_113 := se_sound (C := [sc_112]) hO.1 hO.2.1 hO.2.2 (fun n hn => by
  rcases List.mem_cons.mp hn with rfl | hn
  · exact h112
  exact absurd hn List.not_mem_nil) sk_113 (fun _ hn => absurd hn List.not_mem_nil)
/-- RaftTown.event -/
def sc_114 : se_C := ((176, 1), ([(((90, 0, 0), 0, (0, 0, 0), (0, 0, 0)), (0, (0, 0, 0), (0, 0, 0))), (((0, (-2147483648), 2147483647), 0, (0, 0, 0), (0, 0, 0)), (0, (0, 1, 0), (0, 0, 0))), (((0, (-2147483648), 2147483647), 0, (0, 0, 0), (0, 0, 0)), (0, (0, 2, 0), (0, 0, 0)))], [some (1, 0, 0), some (1, 1, 0), some (1, 2, 0)], [], []), [([(((0, (-2147483648), 2147483647), 0, (0, 0, 0), (0, 0, 0)), (0, (0, 0, 0), (0, 0, 0)))], some (1, 3, 0), [], [])], [(88, 7, 8)])
abbrev sn_114 : List se_Nd := []
set_option maxRecDepth 100000 in
theorem sk_114 : se_chk0 se_tt [] se_Z 37 se_zt sc_114 sn_114 6 = true := by decide +kernel
theorem sm_114 {ty : Nat → Option Nat} {J : List mm_C → Prop} {kx : Nat} {zs : List mm_Zt} (hO : se_Ok ty J kx zs) : se_Met ty se_tt J kx zs sc_114 := se_sound (C := []) hO.1 hO.2.1 hO.2.2 (fun _ hn => absurd hn List.not_mem_nil) sk_114 (fun _ hn => absurd hn List.not_mem_nil)
/-- RaftTown$Net.ropesOf -/
def sc_115 : se_C := ((180, 1), ([(((76, 0, 0), 0, (0, 0, 0), (0, 0, 0)), (0, (0, 0, 0), (0, 0, 0))), (((0, (-2147483648), 2147483647), 0, (0, 0, 0), (0, 0, 0)), (0, (0, 1, 0), (0, 0, 0)))], [some (1, 0, 0), some (1, 1, 0)], [], []), [([(((0, 0, 4095), 0, (0, 0, 0), (0, 0, 0)), (0, (0, 0, 0), (0, 0, 0)))], some (1, 2, 0), [], [])], [])
def sn_115_0 : se_Nd := (4, ([(((76, 0, 0), 0, (0, 0, 0), (0, 0, 0)), (3, (0, 0, 0), (0, 0, 0))), (((0, (-2147483648), 2147483647), 0, (0, 0, 0), (0, 0, 0)), (3, (0, 1, 0), (0, 0, 0))), (((0, 0, 4095), 0, (0, 0, 0), (0, 0, 0)), (0, (0, 2, 0), (0, 0, 0))), (((0, 0, 12), 0, (0, 0, 0), (0, 0, 0)), (0, (0, 3, 0), (0, 0, 0)))], [some (1, 0, 0), some (1, 1, 0), some (1, 2, 0), some (1, 3, 0)], [], []), [(0, 0, 0), ((-1), 3, 0), (0, 0, 0)])
abbrev sn_115 : List se_Nd := [sn_115_0]
set_option maxRecDepth 100000 in
theorem sk_115 : se_chk0 se_tt [] se_Z 37 se_zt sc_115 sn_115 6 = true := by decide +kernel
set_option maxRecDepth 100000 in
theorem sk_115_0 : se_chkn se_tt [] se_Z 37 se_zt sc_115 sn_115 6 sn_115_0 = true := by decide +kernel
theorem sm_115 {ty : Nat → Option Nat} {J : List mm_C → Prop} {kx : Nat} {zs : List mm_Zt} (hO : se_Ok ty J kx zs) : se_Met ty se_tt J kx zs sc_115 := se_sound (C := []) hO.1 hO.2.1 hO.2.2 (fun _ hn => absurd hn List.not_mem_nil) sk_115 (fun n hn => by
  rcases List.mem_cons.mp hn with rfl | hn
  · exact sk_115_0
  exact absurd hn List.not_mem_nil)
/-- RaftTown$Net.doomedOf -/
def sc_116 : se_C := ((182, 2), ([(((76, 0, 0), 0, (0, 0, 0), (0, 0, 0)), (0, (0, 0, 0), (0, 0, 0))), (((0, (-2147483648), 2147483647), 0, (0, 0, 0), (0, 0, 0)), (0, (0, 1, 0), (0, 0, 0))), (((0, (-2147483648), 2147483647), 0, (0, 0, 0), (0, 0, 0)), (0, (0, 2, 0), (0, 0, 0)))], [some (1, 0, 0), some (1, 1, 0), some (1, 2, 0)], [], []), [([(((0, 0, 4095), 0, (0, 0, 0), (0, 0, 0)), (0, (0, 0, 0), (0, 0, 0)))], some (1, 3, 0), [], [])], [])
def sn_116_0 : se_Nd := (5, ([(((76, 0, 0), 0, (0, 0, 0), (0, 0, 0)), (3, (0, 0, 0), (0, 0, 0))), (((0, (-2147483648), 2147483647), 0, (0, 0, 0), (0, 0, 0)), (3, (0, 1, 0), (0, 0, 0))), (((0, (-2147483648), 2147483647), 0, (0, 0, 0), (0, 0, 0)), (3, (0, 2, 0), (0, 0, 0))), (((0, 0, 4095), 0, (0, 0, 0), (0, 0, 0)), (0, (0, 3, 0), (0, 0, 0))), (((0, 0, 12), 0, (0, 0, 0), (0, 0, 0)), (0, (0, 4, 0), (0, 0, 0)))], [some (1, 0, 0), some (1, 1, 0), some (1, 2, 0), some (1, 3, 0), some (1, 4, 0), none], [], []), [(0, 0, 0), ((-1), 4, 0), (0, 0, 0)])
abbrev sn_116 : List se_Nd := [sn_116_0]
set_option maxRecDepth 100000 in
theorem sk_116 : se_chk0 se_tt [sc_5] se_Z 37 se_zt sc_116 sn_116 7 = true := by decide +kernel
set_option maxRecDepth 100000 in
theorem sk_116_0 : se_chkn se_tt [sc_5] se_Z 37 se_zt sc_116 sn_116 7 sn_116_0 = true := by decide +kernel
theorem sm_116 {ty : Nat → Option Nat} {J : List mm_C → Prop} {kx : Nat} {zs : List mm_Zt} (hO : se_Ok ty J kx zs) (h5 : se_Met ty se_tt J kx zs sc_5) : se_Met ty se_tt J kx zs sc_116 := se_sound (C := [sc_5]) hO.1 hO.2.1 hO.2.2 (fun n hn => by
  rcases List.mem_cons.mp hn with rfl | hn
  · exact h5
  exact absurd hn List.not_mem_nil) sk_116 (fun n hn => by
  rcases List.mem_cons.mp hn with rfl | hn
  · exact sk_116_0
  exact absurd hn List.not_mem_nil)
/-- RaftTown$Net.doomed -/
def sc_117 : se_C := ((181, 3), ([(((76, 0, 0), 0, (0, 0, 0), (0, 0, 0)), (0, (0, 0, 0), (0, 0, 0))), (((0, (-2147483648), 2147483647), 0, (0, 0, 0), (0, 0, 0)), (0, (0, 1, 0), (0, 0, 0)))], [some (1, 0, 0), some (1, 1, 0)], [], []), [([(((0, 0, 4095), 0, (0, 0, 0), (0, 0, 0)), (0, (0, 0, 0), (0, 0, 0)))], some (1, 2, 0), [], [])], [])
def sn_117_0 : se_Nd := (4, ([(((76, 0, 0), 0, (0, 0, 0), (0, 0, 0)), (3, (0, 0, 0), (0, 0, 0))), (((0, (-2147483648), 2147483647), 0, (0, 0, 0), (0, 0, 0)), (3, (0, 1, 0), (0, 0, 0))), (((0, 0, 4095), 0, (0, 0, 0), (0, 0, 0)), (0, (0, 2, 0), (0, 0, 0))), (((0, 0, 12), 0, (0, 0, 0), (0, 0, 0)), (0, (0, 3, 0), (0, 0, 0)))], [some (1, 0, 0), some (1, 1, 0), some (1, 2, 0), some (1, 3, 0), none], [], []), [(0, 0, 0), ((-1), 3, 0), (0, 0, 0)])
abbrev sn_117 : List se_Nd := [sn_117_0]
set_option maxRecDepth 100000 in
theorem sk_117 : se_chk0 se_tt [sc_116] se_Z 37 se_zt sc_117 sn_117 5 = true := by decide +kernel
set_option maxRecDepth 100000 in
theorem sk_117_0 : se_chkn se_tt [sc_116] se_Z 37 se_zt sc_117 sn_117 5 sn_117_0 = true := by decide +kernel
theorem sm_117 {ty : Nat → Option Nat} {J : List mm_C → Prop} {kx : Nat} {zs : List mm_Zt} (hO : se_Ok ty J kx zs) (h116 : se_Met ty se_tt J kx zs sc_116) : se_Met ty se_tt J kx zs sc_117 := se_sound (C := [sc_116]) hO.1 hO.2.1 hO.2.2 (fun n hn => by
  rcases List.mem_cons.mp hn with rfl | hn
  · exact h116
  exact absurd hn List.not_mem_nil) sk_117 (fun n hn => by
  rcases List.mem_cons.mp hn with rfl | hn
  · exact sk_117_0
  exact absurd hn List.not_mem_nil)
/-- RaftTown$Net.bridgesOf -/
def sc_118 : se_C := ((184, 2), ([(((76, 0, 0), 0, (0, 0, 0), (0, 0, 0)), (0, (0, 0, 0), (0, 0, 0))), (((0, (-2147483648), 2147483647), 0, (0, 0, 0), (0, 0, 0)), (0, (0, 1, 0), (0, 0, 0)))], [some (1, 0, 0), some (1, 1, 0)], [], []), [([(((0, 0, 4095), 0, (0, 0, 0), (0, 0, 0)), (0, (0, 0, 0), (0, 0, 0)))], some (1, 2, 0), [], [])], [])
def sn_118_0 : se_Nd := (4, ([(((76, 0, 0), 0, (0, 0, 0), (0, 0, 0)), (3, (0, 0, 0), (0, 0, 0))), (((0, (-2147483648), 2147483647), 0, (0, 0, 0), (0, 0, 0)), (3, (0, 1, 0), (0, 0, 0))), (((0, 0, 4095), 0, (0, 0, 0), (0, 0, 0)), (0, (0, 2, 0), (0, 0, 0))), (((0, 0, 12), 0, (0, 0, 0), (0, 0, 0)), (0, (0, 3, 0), (0, 0, 0)))], [some (1, 0, 0), some (1, 1, 0), some (1, 2, 0), some (1, 3, 0)], [], []), [(0, 0, 0), ((-1), 3, 0), (0, 0, 0)])
abbrev sn_118 : List se_Nd := [sn_118_0]
set_option maxRecDepth 100000 in
theorem sk_118 : se_chk0 se_tt [sc_5] se_Z 37 se_zt sc_118 sn_118 7 = true := by decide +kernel
set_option maxRecDepth 100000 in
theorem sk_118_0 : se_chkn se_tt [sc_5] se_Z 37 se_zt sc_118 sn_118 7 sn_118_0 = true := by decide +kernel
theorem sm_118 {ty : Nat → Option Nat} {J : List mm_C → Prop} {kx : Nat} {zs : List mm_Zt} (hO : se_Ok ty J kx zs) (h5 : se_Met ty se_tt J kx zs sc_5) : se_Met ty se_tt J kx zs sc_118 := se_sound (C := [sc_5]) hO.1 hO.2.1 hO.2.2 (fun n hn => by
  rcases List.mem_cons.mp hn with rfl | hn
  · exact h5
  exact absurd hn List.not_mem_nil) sk_118 (fun n hn => by
  rcases List.mem_cons.mp hn with rfl | hn
  · exact sk_118_0
  exact absurd hn List.not_mem_nil)
/-- RaftTown$Net.holds -/
def sc_119 : se_C := ((185, 3), ([(((76, 0, 0), 0, (0, 0, 0), (0, 0, 0)), (0, (0, 0, 0), (0, 0, 0))), (((0, (-2147483648), 2147483647), 0, (0, 0, 0), (0, 0, 0)), (0, (0, 1, 0), (0, 0, 0))), (((0, (-2147483648), 2147483647), 0, (0, 0, 0), (0, 0, 0)), (0, (0, 2, 0), (0, 0, 0)))], [some (1, 0, 0), some (1, 1, 0), some (1, 2, 0)], [], []), [([(((0, 0, 1), 0, (0, 0, 0), (0, 0, 0)), (0, (0, 0, 0), (0, 0, 0)))], some (1, 3, 0), [], [])], [])
def sn_119_0 : se_Nd := (2, ([(((76, 0, 0), 0, (0, 0, 0), (0, 0, 0)), (3, (0, 0, 0), (0, 0, 0))), (((0, (-2147483648), 2147483647), 0, (0, 0, 0), (0, 0, 0)), (3, (0, 1, 0), (0, 0, 0))), (((0, (-2147483648), 2147483647), 0, (0, 0, 0), (0, 0, 0)), (3, (0, 2, 0), (0, 0, 0))), (((0, 0, 12), 0, (0, 0, 0), (0, 0, 0)), (0, (0, 3, 0), (0, 0, 0)))], [some (1, 0, 0), some (1, 1, 0), some (1, 2, 0), some (1, 3, 0)], [], []), [(0, 0, 0), ((-1), 3, 0), (0, 0, 0)])
abbrev sn_119 : List se_Nd := [sn_119_0]
set_option maxRecDepth 100000 in
theorem sk_119 : se_chk0 se_tt [sc_23] se_Z 37 se_zt sc_119 sn_119 6 = true := by decide +kernel
set_option maxRecDepth 100000 in
theorem sk_119_0 : se_chkn se_tt [sc_23] se_Z 37 se_zt sc_119 sn_119 6 sn_119_0 = true := by decide +kernel
theorem sm_119 {ty : Nat → Option Nat} {J : List mm_C → Prop} {kx : Nat} {zs : List mm_Zt} (hO : se_Ok ty J kx zs) (h23 : se_Met ty se_tt J kx zs sc_23) : se_Met ty se_tt J kx zs sc_119 := se_sound (C := [sc_23]) hO.1 hO.2.1 hO.2.2 (fun n hn => by
  rcases List.mem_cons.mp hn with rfl | hn
  · exact h23
  exact absurd hn List.not_mem_nil) sk_119 (fun n hn => by
  rcases List.mem_cons.mp hn with rfl | hn
  · exact sk_119_0
  exact absurd hn List.not_mem_nil)
