/-! ===== printed by wip/p2/gen_tab.py: contracts and their checks ===== -/
/-- RaftTown$Text.take -/
def sc_120 : se_C := ((164, 1), ([(((83, 0, 0), 0, (0, 0, 0), (0, 0, 0)), (0, (0, 0, 0), (0, 0, 0))), (((111, 0, 0), 0, (0, 0, 0), (0, 0, 0)), (0, (0, 1, 0), (0, 0, 0)))], [some (1, 0, 0), some (1, 1, 0)], [], []), [([], none, [], [])], [(54, 0, 160), (55, 0, 3), (81, 0, 1), (81, 3, 4)])
abbrev sn_120 : List se_Nd := []
set_option maxRecDepth 100000 in
theorem sk_120 : se_chk0 se_tt [] se_Z 37 se_zt sc_120 sn_120 5 = true := by decide +kernel
theorem sm_120 {ty : Nat → Option Nat} {J : List mm_C → Prop} {kx : Nat} {zs : List mm_Zt} (hO : se_Ok ty J kx zs) : se_Met ty se_tt J kx zs sc_120 := se_sound (C := []) hO.1 hO.2.1 hO.2.2 (fun _ hn => absurd hn List.not_mem_nil) sk_120 (fun _ hn => absurd hn List.not_mem_nil)
/-- RaftTown.text -/
def sc_121 : se_C := ((130, 36), ([(((90, 0, 0), 0, (0, 0, 0), (0, 0, 0)), (0, (0, 0, 0), (0, 0, 0))), (((0, (-2147483648), 2147483647), 0, (0, 0, 0), (0, 0, 0)), (0, (0, 1, 0), (0, 0, 0)))], [some (1, 0, 0), some (1, 1, 0)], [], []), [([(((0, (-2147483648), 2147483647), 0, (0, 0, 0), (0, 0, 0)), (0, (0, 0, 0), (0, 0, 0)))], some (1, 2, 0), [], [])], [(54, 0, 160), (55, 0, 3), (80, 1, 2), (80, 3, 4), (80, 4, 5), (80, 5, 6), (80, 6, 7), (81, 0, 1), (81, 3, 4), (88, 7, 8), (101, 0, 160), (102, 0, 3), (110, 0, 1), (110, 3, 4)])
abbrev sn_121 : List se_Nd := []
set_option maxRecDepth 100000 in
theorem sk_121 : se_chk0 se_tt [sc_117, sc_118] se_Z 37 se_zt sc_121 sn_121 6 = true := by decide +kernel
theorem sm_121 {ty : Nat → Option Nat} {J : List mm_C → Prop} {kx : Nat} {zs : List mm_Zt} (hO : se_Ok ty J kx zs) (h117 : se_Met ty se_tt J kx zs sc_117) (h118 : se_Met ty se_tt J kx zs sc_118) : se_Met ty se_tt J kx zs sc_121 := se_sound (C := [sc_117, sc_118]) hO.1 hO.2.1 hO.2.2 (fun n hn => by
  rcases List.mem_cons.mp hn with rfl | hn
  · exact h117
  rcases List.mem_cons.mp hn with rfl | hn
  · exact h118
  exact absurd hn List.not_mem_nil) sk_121 (fun _ hn => absurd hn List.not_mem_nil)
/-- RaftTown.force -/
def sc_122 : se_C := ((165, 2), ([(((90, 0, 0), 0, (0, 0, 0), (0, 0, 0)), (0, (0, 0, 0), (0, 0, 0))), (((0, (-2147483648), 2147483647), 0, (0, 0, 0), (0, 0, 0)), (0, (0, 1, 0), (0, 0, 0))), (((0, (-2147483648), 2147483647), 0, (0, 0, 0), (0, 0, 0)), (0, (0, 2, 0), (0, 0, 0)))], [some (1, 0, 0), some (1, 1, 0), some (1, 2, 0)], [], []), [([(((0, (-100006), 11), 0, (0, 0, 0), (0, 0, 0)), (0, (0, 0, 0), (0, 0, 0)))], some (1, 3, 0), [], [])], [(39, 0, 40), (40, 0, 40), (41, 0, 40), (42, 0, 40), (43, 0, 12), (44, 0, 12), (45, 0, 12), (46, 0, 12), (47, 0, 12), (48, 0, 10), (73, 4, 5), (73, 5, 6), (73, 8, 9), (74, 4, 5), (74, 5, 6), (88, 7, 8)])
abbrev sn_122 : List se_Nd := []
set_option maxRecDepth 100000 in
theorem sk_122 : se_chk0 se_tt [sc_4, sc_5, sc_17] se_Z 37 se_zt sc_122 sn_122 8 = true := by decide +kernel
theorem sm_122 {ty : Nat → Option Nat} {J : List mm_C → Prop} {kx : Nat} {zs : List mm_Zt} (hO : se_Ok ty J kx zs) (h4 : se_Met ty se_tt J kx zs sc_4) (h5 : se_Met ty se_tt J kx zs sc_5) (h17 : se_Met ty se_tt J kx zs sc_17) : se_Met ty se_tt J kx zs sc_122 := se_sound (C := [sc_4, sc_5, sc_17]) hO.1 hO.2.1 hO.2.2 (fun n hn => by
  rcases List.mem_cons.mp hn with rfl | hn
  · exact h4
  rcases List.mem_cons.mp hn with rfl | hn
  · exact h5
  rcases List.mem_cons.mp hn with rfl | hn
  · exact h17
  exact absurd hn List.not_mem_nil) sk_122 (fun _ hn => absurd hn List.not_mem_nil)
/-- RaftTown.law -/
def sc_123 : se_C := ((167, 2), ([(((90, 0, 0), 0, (0, 0, 0), (0, 0, 0)), (0, (0, 0, 0), (0, 0, 0))), (((0, (-2147483648), 2147483647), 0, (0, 0, 0), (0, 0, 0)), (0, (0, 1, 0), (0, 0, 0)))], [some (1, 0, 0), some (1, 1, 0)], [], []), [([(((0, (-100006), 11), 0, (0, 0, 0), (0, 0, 0)), (0, (0, 0, 0), (0, 0, 0)))], some (1, 2, 0), [], [])], [(45, 0, 12), (46, 0, 12), (47, 0, 12), (48, 0, 10), (74, 4, 5), (74, 5, 6), (88, 7, 8)])
abbrev sn_123 : List se_Nd := []
set_option maxRecDepth 100000 in
theorem sk_123 : se_chk0 se_tt [sc_4, sc_5, sc_20] se_Z 37 se_zt sc_123 sn_123 7 = true := by decide +kernel
theorem sm_123 {ty : Nat → Option Nat} {J : List mm_C → Prop} {kx : Nat} {zs : List mm_Zt} (hO : se_Ok ty J kx zs) (h4 : se_Met ty se_tt J kx zs sc_4) (h5 : se_Met ty se_tt J kx zs sc_5) (h20 : se_Met ty se_tt J kx zs sc_20) : se_Met ty se_tt J kx zs sc_123 := se_sound (C := [sc_4, sc_5, sc_20]) hO.1 hO.2.1 hO.2.2 (fun n hn => by
  rcases List.mem_cons.mp hn with rfl | hn
  · exact h4
  rcases List.mem_cons.mp hn with rfl | hn
  · exact h5
  rcases List.mem_cons.mp hn with rfl | hn
  · exact h20
  exact absurd hn List.not_mem_nil) sk_123 (fun _ hn => absurd hn List.not_mem_nil)
/-- RaftTown.may -/
def sc_124 : se_C := ((169, 4), ([(((90, 0, 0), 0, (0, 0, 0), (0, 0, 0)), (0, (0, 0, 0), (0, 0, 0))), (((0, (-2147483648), 2147483647), 0, (0, 0, 0), (0, 0, 0)), (0, (0, 1, 0), (0, 0, 0))), (((0, (-2147483648), 2147483647), 0, (0, 0, 0), (0, 0, 0)), (0, (0, 2, 0), (0, 0, 0)))], [some (1, 0, 0), some (1, 1, 0), some (1, 2, 0)], [], []), [([(((0, (-2147483648), 2147483647), 0, (0, 0, 0), (0, 0, 0)), (0, (0, 0, 0), (0, 0, 0)))], some (1, 3, 0), [], [])], [(37, 0, 9), (38, 0, 24), (45, 0, 12), (46, 0, 12), (47, 0, 12), (48, 0, 10), (72, 2, 3), (74, 4, 5), (74, 5, 6), (88, 7, 8)])
abbrev sn_124 : List se_Nd := []
set_option maxRecDepth 100000 in
theorem sk_124 : se_chk0 se_tt [sc_4, sc_5, sc_20, sc_28, sc_34] se_Z 37 se_zt sc_124 sn_124 8 = true := by decide +kernel
theorem sm_124 {ty : Nat → Option Nat} {J : List mm_C → Prop} {kx : Nat} {zs : List mm_Zt} (hO : se_Ok ty J kx zs) (h4 : se_Met ty se_tt J kx zs sc_4) (h5 : se_Met ty se_tt J kx zs sc_5) (h20 : se_Met ty se_tt J kx zs sc_20) (h28 : se_Met ty se_tt J kx zs sc_28) (h34 : se_Met ty se_tt J kx zs sc_34) : se_Met ty se_tt J kx zs sc_124 := se_sound (C := [sc_4, sc_5, sc_20, sc_28, sc_34]) hO.1 hO.2.1 hO.2.2 (fun n hn => by
  rcases List.mem_cons.mp hn with rfl | hn
  · exact h4
  rcases List.mem_cons.mp hn with rfl | hn
  · exact h5
  rcases List.mem_cons.mp hn with rfl | hn
  · exact h20
  rcases List.mem_cons.mp hn with rfl | hn
  · exact h28
  rcases List.mem_cons.mp hn with rfl | hn
  · exact h34
  exact absurd hn List.not_mem_nil) sk_124 (fun _ hn => absurd hn List.not_mem_nil)
/-- RaftTown.must -/
def sc_125 : se_C := ((170, 3), ([(((90, 0, 0), 0, (0, 0, 0), (0, 0, 0)), (0, (0, 0, 0), (0, 0, 0))), (((0, (-2147483648), 2147483647), 0, (0, 0, 0), (0, 0, 0)), (0, (0, 1, 0), (0, 0, 0))), (((0, (-2147483648), 2147483647), 0, (0, 0, 0), (0, 0, 0)), (0, (0, 2, 0), (0, 0, 0)))], [some (1, 0, 0), some (1, 1, 0), some (1, 2, 0)], [], []), [([(((0, (-2147483648), 2147483647), 0, (0, 0, 0), (0, 0, 0)), (0, (0, 0, 0), (0, 0, 0)))], some (1, 3, 0), [], [])], [(37, 0, 9), (38, 0, 24), (45, 0, 12), (46, 0, 12), (47, 0, 12), (48, 0, 10), (72, 2, 3), (74, 4, 5), (74, 5, 6), (88, 7, 8)])
abbrev sn_125 : List se_Nd := []
set_option maxRecDepth 100000 in
theorem sk_125 : se_chk0 se_tt [sc_4, sc_5, sc_20, sc_21, sc_24, sc_25, sc_26, sc_27, sc_34] se_Z 37 se_zt sc_125 sn_125 9 = true := by decide +kernel
theorem sm_125 {ty : Nat → Option Nat} {J : List mm_C → Prop} {kx : Nat} {zs : List mm_Zt} (hO : se_Ok ty J kx zs) (h4 : se_Met ty se_tt J kx zs sc_4) (h5 : se_Met ty se_tt J kx zs sc_5) (h20 : se_Met ty se_tt J kx zs sc_20) (h21 : se_Met ty se_tt J kx zs sc_21) (h24 : se_Met ty se_tt J kx zs sc_24) (h25 : se_Met ty se_tt J kx zs sc_25) (h26 : se_Met ty se_tt J kx zs sc_26) (h27 : se_Met ty se_tt J kx zs sc_27) (h34 : se_Met ty se_tt J kx zs sc_34) : se_Met ty se_tt J kx zs sc_125 := se_sound (C := [sc_4, sc_5, sc_20, sc_21, sc_24, sc_25, sc_26, sc_27, sc_34]) hO.1 hO.2.1 hO.2.2 (fun n hn => by
  rcases List.mem_cons.mp hn with rfl | hn
  · exact h4
  rcases List.mem_cons.mp hn with rfl | hn
  · exact h5
  rcases List.mem_cons.mp hn with rfl | hn
  · exact h20
  rcases List.mem_cons.mp hn with rfl | hn
  · exact h21
  rcases List.mem_cons.mp hn with rfl | hn
  · exact h24
  rcases List.mem_cons.mp hn with rfl | hn
  · exact h25
  rcases List.mem_cons.mp hn with rfl | hn
  · exact h26
  rcases List.mem_cons.mp hn with rfl | hn
  · exact h27
  rcases List.mem_cons.mp hn with rfl | hn
  · exact h34
  exact absurd hn List.not_mem_nil) sk_125 (fun _ hn => absurd hn List.not_mem_nil)
/-- RaftTown.speaks -/
def sc_126 : se_C := ((172, 3), ([(((90, 0, 0), 0, (0, 0, 0), (0, 0, 0)), (0, (0, 0, 0), (0, 0, 0))), (((0, (-2147483648), 2147483647), 0, (0, 0, 0), (0, 0, 0)), (0, (0, 1, 0), (0, 0, 0)))], [some (1, 0, 0), some (1, 1, 0)], [], []), [([(((0, (-100006), 2147483646), 0, (0, 0, 0), (0, 0, 0)), (0, (0, 0, 0), (0, 0, 0)))], some (1, 2, 0), [], [])], [(37, 0, 9), (38, 0, 24), (45, 0, 12), (46, 0, 12), (47, 0, 12), (48, 0, 10), (72, 2, 3), (74, 4, 5), (74, 5, 6), (88, 7, 8)])
def sn_126_0 : se_Nd := (53, ([(((90, 0, 0), 0, (0, 0, 0), (0, 0, 0)), (3, (0, 0, 0), (0, 0, 0))), (((0, 0, 2147483647), 0, (0, 0, 0), (0, 0, 0)), (3, (0, 1, 0), (0, 0, 0))), (((0, 0, 11), 0, (0, 0, 0), (0, 0, 0)), (0, (0, 2, 0), (0, 0, 0))), (((0, (-2147483648), 2147483647), 0, (0, 0, 0), (0, 0, 0)), (0, (0, 3, 0), (0, 0, 0))), (((0, (-1), 2147483646), 0, (0, 0, 0), (0, 0, 0)), (0, (0, 4, 0), (0, 0, 0))), (((0, (-2147483648), 2147483647), 0, (0, 0, 0), (0, 0, 0)), (0, (0, 5, 0), (0, 0, 0))), (((0, 0, 2147483647), 0, (0, 0, 0), (0, 0, 0)), (0, (0, 6, 0), (0, 0, 0)))], [some (1, 0, 0), some (1, 1, 0), some (1, 2, 0), some (1, 3, 0), some (1, 4, 0), some (1, 5, 0), some (1, 6, 0), none], [], []), [(0, 0, 0), ((-1), 6, 0), (0, 0, 0)])
abbrev sn_126 : List se_Nd := [sn_126_0]
set_option maxRecDepth 100000 in
theorem sk_126 : se_chk0 se_tt [sc_4, sc_5, sc_13, sc_20, sc_21, sc_24, sc_25, sc_27, sc_34] se_Z 37 se_zt sc_126 sn_126 8 = true := by decide +kernel
set_option maxRecDepth 100000 in
theorem sk_126_0 : se_chkn se_tt [sc_4, sc_5, sc_13, sc_20, sc_21, sc_24, sc_25, sc_27, sc_34] se_Z 37 se_zt sc_126 sn_126 8 sn_126_0 = true := by decide +kernel
theorem sm_126 {ty : Nat → Option Nat} {J : List mm_C → Prop} {kx : Nat} {zs : List mm_Zt} (hO : se_Ok ty J kx zs) (h4 : se_Met ty se_tt J kx zs sc_4) (h5 : se_Met ty se_tt J kx zs sc_5) (h13 : se_Met ty se_tt J kx zs sc_13) (h20 : se_Met ty se_tt J kx zs sc_20) (h21 : se_Met ty se_tt J kx zs sc_21) (h24 : se_Met ty se_tt J kx zs sc_24) (h25 : se_Met ty se_tt J kx zs sc_25) (h27 : se_Met ty se_tt J kx zs sc_27) (h34 : se_Met ty se_tt J kx zs sc_34) : se_Met ty se_tt J kx zs sc_126 := se_sound (C := [sc_4, sc_5, sc_13, sc_20, sc_21, sc_24, sc_25, sc_27, sc_34]) hO.1 hO.2.1 hO.2.2 (fun n hn => by
  rcases List.mem_cons.mp hn with rfl | hn
  · exact h4
  rcases List.mem_cons.mp hn with rfl | hn
  · exact h5
  rcases List.mem_cons.mp hn with rfl | hn
  · exact h13
  rcases List.mem_cons.mp hn with rfl | hn
  · exact h20
  rcases List.mem_cons.mp hn with rfl | hn
  · exact h21
  rcases List.mem_cons.mp hn with rfl | hn
  · exact h24
  rcases List.mem_cons.mp hn with rfl | hn
  · exact h25
  rcases List.mem_cons.mp hn with rfl | hn
  · exact h27
  rcases List.mem_cons.mp hn with rfl | hn
  · exact h34
  exact absurd hn List.not_mem_nil) sk_126 (fun n hn => by
  rcases List.mem_cons.mp hn with rfl | hn
  · exact sk_126_0
  exact absurd hn List.not_mem_nil)
/-- RaftTown$Log.countKnown -/
def sc_127 : se_C := ((175, 1), ([(((75, 0, 0), 0, (0, 0, 0), (0, 0, 0)), (0, (0, 0, 0), (0, 0, 0))), (((0, (-2147483648), 2147483647), 0, (0, 0, 0), (0, 0, 0)), (0, (0, 1, 0), (0, 0, 0)))], [some (1, 0, 0), some (1, 1, 0)], [], []), [([(((0, (-2147483648), 2147483647), 0, (0, 0, 0), (0, 0, 0)), (0, (0, 0, 0), (0, 0, 0)))], some (1, 2, 0), [], [])], [])
def sn_127_0 : se_Nd := (4, ([(((75, 0, 0), 0, (0, 0, 0), (0, 0, 0)), (3, (0, 0, 0), (0, 0, 0))), (((0, (-2147483648), 2147483647), 0, (0, 0, 0), (0, 0, 0)), (3, (0, 1, 0), (0, 0, 0))), (((0, (-2147483648), 2147483647), 0, (0, 0, 0), (0, 0, 0)), (0, (0, 2, 0), (0, 0, 0))), (((0, 0, 40), 0, (0, 0, 0), (0, 0, 0)), (0, (0, 3, 0), (0, 0, 0)))], [some (1, 0, 0), some (1, 1, 0), some (1, 2, 0), some (1, 3, 0)], [], []), [(0, 0, 0), ((-1), 3, 0), (0, 0, 0)])
abbrev sn_127 : List se_Nd := [sn_127_0]
set_option maxRecDepth 100000 in
theorem sk_127 : se_chk0 se_tt [] se_Z 37 se_zt sc_127 sn_127 4 = true := by decide +kernel
set_option maxRecDepth 100000 in
theorem sk_127_0 : se_chkn se_tt [] se_Z 37 se_zt sc_127 sn_127 4 sn_127_0 = true := by decide +kernel
theorem sm_127 {ty : Nat → Option Nat} {J : List mm_C → Prop} {kx : Nat} {zs : List mm_Zt} (hO : se_Ok ty J kx zs) : se_Met ty se_tt J kx zs sc_127 := se_sound (C := []) hO.1 hO.2.1 hO.2.2 (fun _ hn => absurd hn List.not_mem_nil) sk_127 (fun n hn => by
  rcases List.mem_cons.mp hn with rfl | hn
  · exact sk_127_0
  exact absurd hn List.not_mem_nil)
/-- RaftTown.events -/
def sc_128 : se_C := ((174, 2), ([(((90, 0, 0), 0, (0, 0, 0), (0, 0, 0)), (0, (0, 0, 0), (0, 0, 0))), (((0, (-2147483648), 2147483647), 0, (0, 0, 0), (0, 0, 0)), (0, (0, 1, 0), (0, 0, 0)))], [some (1, 0, 0), some (1, 1, 0)], [], []), [([(((0, (-2147483648), 2147483647), 0, (0, 0, 0), (0, 0, 0)), (0, (0, 0, 0), (0, 0, 0)))], some (1, 2, 0), [], [])], [(88, 7, 8)])
abbrev sn_128 : List se_Nd := []
set_option maxRecDepth 100000 in
theorem sk_128 : se_chk0 se_tt [sc_127] se_Z 37 se_zt sc_128 sn_128 6 = true := by decide +kernel
theorem sm_128 {ty : Nat → Option Nat} {J : List mm_C → Prop} {kx : Nat} {zs : List mm_Zt} (hO : se_Ok ty J kx zs) (h127 : se_Met ty se_tt J kx zs sc_127) : se_Met ty se_tt J kx zs sc_128 := se_sound (C := [sc_127]) hO.1 hO.2.1 hO.2.2 (fun n hn => by
  rcases List.mem_cons.mp hn with rfl | hn
  · exact h127
  exact absurd hn List.not_mem_nil) sk_128 (fun _ hn => absurd hn List.not_mem_nil)
/-- RaftTown.event -/
def sc_129 : se_C := ((176, 1), ([(((90, 0, 0), 0, (0, 0, 0), (0, 0, 0)), (0, (0, 0, 0), (0, 0, 0))), (((0, (-2147483648), 2147483647), 0, (0, 0, 0), (0, 0, 0)), (0, (0, 1, 0), (0, 0, 0))), (((0, (-2147483648), 2147483647), 0, (0, 0, 0), (0, 0, 0)), (0, (0, 2, 0), (0, 0, 0)))], [some (1, 0, 0), some (1, 1, 0), some (1, 2, 0)], [], []), [([(((0, (-2147483648), 2147483647), 0, (0, 0, 0), (0, 0, 0)), (0, (0, 0, 0), (0, 0, 0)))], some (1, 3, 0), [], [])], [(88, 7, 8)])
abbrev sn_129 : List se_Nd := []
set_option maxRecDepth 100000 in
theorem sk_129 : se_chk0 se_tt [] se_Z 37 se_zt sc_129 sn_129 6 = true := by decide +kernel
theorem sm_129 {ty : Nat → Option Nat} {J : List mm_C → Prop} {kx : Nat} {zs : List mm_Zt} (hO : se_Ok ty J kx zs) : se_Met ty se_tt J kx zs sc_129 := se_sound (C := []) hO.1 hO.2.1 hO.2.2 (fun _ hn => absurd hn List.not_mem_nil) sk_129 (fun _ hn => absurd hn List.not_mem_nil)
/-- RaftTown$Net.ropesOf -/
def sc_130 : se_C := ((180, 1), ([(((76, 0, 0), 0, (0, 0, 0), (0, 0, 0)), (0, (0, 0, 0), (0, 0, 0))), (((0, (-2147483648), 2147483647), 0, (0, 0, 0), (0, 0, 0)), (0, (0, 1, 0), (0, 0, 0)))], [some (1, 0, 0), some (1, 1, 0)], [], []), [([(((0, 0, 4095), 0, (0, 0, 0), (0, 0, 0)), (0, (0, 0, 0), (0, 0, 0)))], some (1, 2, 0), [], [])], [])
def sn_130_0 : se_Nd := (4, ([(((76, 0, 0), 0, (0, 0, 0), (0, 0, 0)), (3, (0, 0, 0), (0, 0, 0))), (((0, (-2147483648), 2147483647), 0, (0, 0, 0), (0, 0, 0)), (3, (0, 1, 0), (0, 0, 0))), (((0, 0, 4095), 0, (0, 0, 0), (0, 0, 0)), (0, (0, 2, 0), (0, 0, 0))), (((0, 0, 12), 0, (0, 0, 0), (0, 0, 0)), (0, (0, 3, 0), (0, 0, 0)))], [some (1, 0, 0), some (1, 1, 0), some (1, 2, 0), some (1, 3, 0)], [], []), [(0, 0, 0), ((-1), 3, 0), (0, 0, 0)])
abbrev sn_130 : List se_Nd := [sn_130_0]
set_option maxRecDepth 100000 in
theorem sk_130 : se_chk0 se_tt [] se_Z 37 se_zt sc_130 sn_130 6 = true := by decide +kernel
set_option maxRecDepth 100000 in
theorem sk_130_0 : se_chkn se_tt [] se_Z 37 se_zt sc_130 sn_130 6 sn_130_0 = true := by decide +kernel
theorem sm_130 {ty : Nat → Option Nat} {J : List mm_C → Prop} {kx : Nat} {zs : List mm_Zt} (hO : se_Ok ty J kx zs) : se_Met ty se_tt J kx zs sc_130 := se_sound (C := []) hO.1 hO.2.1 hO.2.2 (fun _ hn => absurd hn List.not_mem_nil) sk_130 (fun n hn => by
  rcases List.mem_cons.mp hn with rfl | hn
  · exact sk_130_0
  exact absurd hn List.not_mem_nil)
/-- RaftTown$Net.doomedOf -/
def sc_131 : se_C := ((182, 2), ([(((76, 0, 0), 0, (0, 0, 0), (0, 0, 0)), (0, (0, 0, 0), (0, 0, 0))), (((0, (-2147483648), 2147483647), 0, (0, 0, 0), (0, 0, 0)), (0, (0, 1, 0), (0, 0, 0))), (((0, (-2147483648), 2147483647), 0, (0, 0, 0), (0, 0, 0)), (0, (0, 2, 0), (0, 0, 0)))], [some (1, 0, 0), some (1, 1, 0), some (1, 2, 0)], [], []), [([(((0, 0, 4095), 0, (0, 0, 0), (0, 0, 0)), (0, (0, 0, 0), (0, 0, 0)))], some (1, 3, 0), [], [])], [])
def sn_131_0 : se_Nd := (5, ([(((76, 0, 0), 0, (0, 0, 0), (0, 0, 0)), (3, (0, 0, 0), (0, 0, 0))), (((0, (-2147483648), 2147483647), 0, (0, 0, 0), (0, 0, 0)), (3, (0, 1, 0), (0, 0, 0))), (((0, (-2147483648), 2147483647), 0, (0, 0, 0), (0, 0, 0)), (3, (0, 2, 0), (0, 0, 0))), (((0, 0, 4095), 0, (0, 0, 0), (0, 0, 0)), (0, (0, 3, 0), (0, 0, 0))), (((0, 0, 12), 0, (0, 0, 0), (0, 0, 0)), (0, (0, 4, 0), (0, 0, 0)))], [some (1, 0, 0), some (1, 1, 0), some (1, 2, 0), some (1, 3, 0), some (1, 4, 0), none], [], []), [(0, 0, 0), ((-1), 4, 0), (0, 0, 0)])
abbrev sn_131 : List se_Nd := [sn_131_0]
set_option maxRecDepth 100000 in
theorem sk_131 : se_chk0 se_tt [sc_5] se_Z 37 se_zt sc_131 sn_131 7 = true := by decide +kernel
set_option maxRecDepth 100000 in
theorem sk_131_0 : se_chkn se_tt [sc_5] se_Z 37 se_zt sc_131 sn_131 7 sn_131_0 = true := by decide +kernel
theorem sm_131 {ty : Nat → Option Nat} {J : List mm_C → Prop} {kx : Nat} {zs : List mm_Zt} (hO : se_Ok ty J kx zs) (h5 : se_Met ty se_tt J kx zs sc_5) : se_Met ty se_tt J kx zs sc_131 := se_sound (C := [sc_5]) hO.1 hO.2.1 hO.2.2 (fun n hn => by
  rcases List.mem_cons.mp hn with rfl | hn
  · exact h5
  exact absurd hn List.not_mem_nil) sk_131 (fun n hn => by
  rcases List.mem_cons.mp hn with rfl | hn
  · exact sk_131_0
  exact absurd hn List.not_mem_nil)
/-- RaftTown$Net.doomed -/
def sc_132 : se_C := ((181, 3), ([(((76, 0, 0), 0, (0, 0, 0), (0, 0, 0)), (0, (0, 0, 0), (0, 0, 0))), (((0, (-2147483648), 2147483647), 0, (0, 0, 0), (0, 0, 0)), (0, (0, 1, 0), (0, 0, 0)))], [some (1, 0, 0), some (1, 1, 0)], [], []), [([(((0, 0, 4095), 0, (0, 0, 0), (0, 0, 0)), (0, (0, 0, 0), (0, 0, 0)))], some (1, 2, 0), [], [])], [])
def sn_132_0 : se_Nd := (4, ([(((76, 0, 0), 0, (0, 0, 0), (0, 0, 0)), (3, (0, 0, 0), (0, 0, 0))), (((0, (-2147483648), 2147483647), 0, (0, 0, 0), (0, 0, 0)), (3, (0, 1, 0), (0, 0, 0))), (((0, 0, 4095), 0, (0, 0, 0), (0, 0, 0)), (0, (0, 2, 0), (0, 0, 0))), (((0, 0, 12), 0, (0, 0, 0), (0, 0, 0)), (0, (0, 3, 0), (0, 0, 0)))], [some (1, 0, 0), some (1, 1, 0), some (1, 2, 0), some (1, 3, 0), none], [], []), [(0, 0, 0), ((-1), 3, 0), (0, 0, 0)])
abbrev sn_132 : List se_Nd := [sn_132_0]
set_option maxRecDepth 100000 in
theorem sk_132 : se_chk0 se_tt [sc_131] se_Z 37 se_zt sc_132 sn_132 5 = true := by decide +kernel
set_option maxRecDepth 100000 in
theorem sk_132_0 : se_chkn se_tt [sc_131] se_Z 37 se_zt sc_132 sn_132 5 sn_132_0 = true := by decide +kernel
theorem sm_132 {ty : Nat → Option Nat} {J : List mm_C → Prop} {kx : Nat} {zs : List mm_Zt} (hO : se_Ok ty J kx zs) (h131 : se_Met ty se_tt J kx zs sc_131) : se_Met ty se_tt J kx zs sc_132 := se_sound (C := [sc_131]) hO.1 hO.2.1 hO.2.2 (fun n hn => by
  rcases List.mem_cons.mp hn with rfl | hn
  · exact h131
  exact absurd hn List.not_mem_nil) sk_132 (fun n hn => by
  rcases List.mem_cons.mp hn with rfl | hn
  · exact sk_132_0
  exact absurd hn List.not_mem_nil)
/-- RaftTown$Net.bridgesOf -/
def sc_133 : se_C := ((184, 2), ([(((76, 0, 0), 0, (0, 0, 0), (0, 0, 0)), (0, (0, 0, 0), (0, 0, 0))), (((0, (-2147483648), 2147483647), 0, (0, 0, 0), (0, 0, 0)), (0, (0, 1, 0), (0, 0, 0)))], [some (1, 0, 0), some (1, 1, 0)], [], []), [([(((0, 0, 4095), 0, (0, 0, 0), (0, 0, 0)), (0, (0, 0, 0), (0, 0, 0)))], some (1, 2, 0), [], [])], [])
def sn_133_0 : se_Nd := (4, ([(((76, 0, 0), 0, (0, 0, 0), (0, 0, 0)), (3, (0, 0, 0), (0, 0, 0))), (((0, (-2147483648), 2147483647), 0, (0, 0, 0), (0, 0, 0)), (3, (0, 1, 0), (0, 0, 0))), (((0, 0, 4095), 0, (0, 0, 0), (0, 0, 0)), (0, (0, 2, 0), (0, 0, 0))), (((0, 0, 12), 0, (0, 0, 0), (0, 0, 0)), (0, (0, 3, 0), (0, 0, 0)))], [some (1, 0, 0), some (1, 1, 0), some (1, 2, 0), some (1, 3, 0)], [], []), [(0, 0, 0), ((-1), 3, 0), (0, 0, 0)])
abbrev sn_133 : List se_Nd := [sn_133_0]
set_option maxRecDepth 100000 in
theorem sk_133 : se_chk0 se_tt [sc_5] se_Z 37 se_zt sc_133 sn_133 7 = true := by decide +kernel
set_option maxRecDepth 100000 in
theorem sk_133_0 : se_chkn se_tt [sc_5] se_Z 37 se_zt sc_133 sn_133 7 sn_133_0 = true := by decide +kernel
theorem sm_133 {ty : Nat → Option Nat} {J : List mm_C → Prop} {kx : Nat} {zs : List mm_Zt} (hO : se_Ok ty J kx zs) (h5 : se_Met ty se_tt J kx zs sc_5) : se_Met ty se_tt J kx zs sc_133 := se_sound (C := [sc_5]) hO.1 hO.2.1 hO.2.2 (fun n hn => by
  rcases List.mem_cons.mp hn with rfl | hn
  · exact h5
  exact absurd hn List.not_mem_nil) sk_133 (fun n hn => by
  rcases List.mem_cons.mp hn with rfl | hn
  · exact sk_133_0
  exact absurd hn List.not_mem_nil)
/-- RaftTown$Net.holds -/
def sc_134 : se_C := ((185, 3), ([(((76, 0, 0), 0, (0, 0, 0), (0, 0, 0)), (0, (0, 0, 0), (0, 0, 0))), (((0, (-2147483648), 2147483647), 0, (0, 0, 0), (0, 0, 0)), (0, (0, 1, 0), (0, 0, 0))), (((0, (-2147483648), 2147483647), 0, (0, 0, 0), (0, 0, 0)), (0, (0, 2, 0), (0, 0, 0)))], [some (1, 0, 0), some (1, 1, 0), some (1, 2, 0)], [], []), [([(((0, 0, 1), 0, (0, 0, 0), (0, 0, 0)), (0, (0, 0, 0), (0, 0, 0)))], some (1, 3, 0), [], [])], [])
def sn_134_0 : se_Nd := (2, ([(((76, 0, 0), 0, (0, 0, 0), (0, 0, 0)), (3, (0, 0, 0), (0, 0, 0))), (((0, (-2147483648), 2147483647), 0, (0, 0, 0), (0, 0, 0)), (3, (0, 1, 0), (0, 0, 0))), (((0, (-2147483648), 2147483647), 0, (0, 0, 0), (0, 0, 0)), (3, (0, 2, 0), (0, 0, 0))), (((0, 0, 12), 0, (0, 0, 0), (0, 0, 0)), (0, (0, 3, 0), (0, 0, 0)))], [some (1, 0, 0), some (1, 1, 0), some (1, 2, 0), some (1, 3, 0)], [], []), [(0, 0, 0), ((-1), 3, 0), (0, 0, 0)])
abbrev sn_134 : List se_Nd := [sn_134_0]
set_option maxRecDepth 100000 in
theorem sk_134 : se_chk0 se_tt [sc_23] se_Z 37 se_zt sc_134 sn_134 6 = true := by decide +kernel
set_option maxRecDepth 100000 in
theorem sk_134_0 : se_chkn se_tt [sc_23] se_Z 37 se_zt sc_134 sn_134 6 sn_134_0 = true := by decide +kernel
theorem sm_134 {ty : Nat → Option Nat} {J : List mm_C → Prop} {kx : Nat} {zs : List mm_Zt} (hO : se_Ok ty J kx zs) (h23 : se_Met ty se_tt J kx zs sc_23) : se_Met ty se_tt J kx zs sc_134 := se_sound (C := [sc_23]) hO.1 hO.2.1 hO.2.2 (fun n hn => by
  rcases List.mem_cons.mp hn with rfl | hn
  · exact h23
  exact absurd hn List.not_mem_nil) sk_134 (fun n hn => by
  rcases List.mem_cons.mp hn with rfl | hn
  · exact sk_134_0
  exact absurd hn List.not_mem_nil)
