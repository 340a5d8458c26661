/-! ===== printed by wip/p2/gen_tab.py: contracts and their checks ===== -/
/-- RaftTown.text -/
def sc_90 : se_C := ((130, 34), ([(((90, 0, 0), 0, (0, 0, 0), (0, 0, 0)), (0, (0, 0, 0), (0, 0, 0))), (((0, (-2147483648), 2147483647), 0, (0, 0, 0), (0, 0, 0)), (0, (0, 1, 0), (0, 0, 0)))], [some (1, 0, 0), some (1, 1, 0)], [], []), [([(((0, (-2147483648), 2147483647), 0, (0, 0, 0), (0, 0, 0)), (0, (0, 0, 0), (0, 0, 0)))], some (1, 2, 0), [], [])], [(54, 0, 160), (55, 0, 3), (80, 1, 2), (80, 3, 4), (80, 4, 5), (80, 5, 6), (80, 6, 7), (81, 0, 1), (81, 3, 4), (88, 7, 8)])
abbrev sn_90 : List se_Nd := []
set_option maxRecDepth 100000 in
theorem sk_90 : se_chk0 se_tt [sc_89] se_Z 37 se_zt sc_90 sn_90 7 = true := by decide +kernel
theorem sm_90 {ty : Nat → Option Nat} {J : List mm_C → Prop} {kx : Nat} {zs : List mm_Zt} (hO : se_Ok ty J kx zs) (h89 : se_Met ty se_tt J kx zs sc_89) : se_Met ty se_tt J kx zs sc_90 := se_sound (C := [sc_89]) hO.1 hO.2.1 hO.2.2 (fun n hn => by
  rcases List.mem_cons.mp hn with rfl | hn
  · exact h89
  exact absurd hn List.not_mem_nil) sk_90 (fun _ hn => absurd hn List.not_mem_nil)
/-- RaftTown.force -/
def sc_91 : se_C := ((165, 2), ([(((90, 0, 0), 0, (0, 0, 0), (0, 0, 0)), (0, (0, 0, 0), (0, 0, 0))), (((0, (-2147483648), 2147483647), 0, (0, 0, 0), (0, 0, 0)), (0, (0, 1, 0), (0, 0, 0))), (((0, (-2147483648), 2147483647), 0, (0, 0, 0), (0, 0, 0)), (0, (0, 2, 0), (0, 0, 0)))], [some (1, 0, 0), some (1, 1, 0), some (1, 2, 0)], [], []), [([(((0, (-100006), 11), 0, (0, 0, 0), (0, 0, 0)), (0, (0, 0, 0), (0, 0, 0)))], some (1, 3, 0), [], [])], [(39, 0, 40), (40, 0, 40), (41, 0, 40), (42, 0, 40), (43, 0, 12), (44, 0, 12), (45, 0, 12), (46, 0, 12), (47, 0, 12), (48, 0, 10), (73, 4, 5), (73, 5, 6), (73, 8, 9), (74, 4, 5), (74, 5, 6), (88, 7, 8)])
abbrev sn_91 : List se_Nd := []
set_option maxRecDepth 100000 in
theorem sk_91 : se_chk0 se_tt [sc_4, sc_5, sc_17] se_Z 37 se_zt sc_91 sn_91 8 = true := by decide +kernel
theorem sm_91 {ty : Nat → Option Nat} {J : List mm_C → Prop} {kx : Nat} {zs : List mm_Zt} (hO : se_Ok ty J kx zs) (h4 : se_Met ty se_tt J kx zs sc_4) (h5 : se_Met ty se_tt J kx zs sc_5) (h17 : se_Met ty se_tt J kx zs sc_17) : se_Met ty se_tt J kx zs sc_91 := se_sound (C := [sc_4, sc_5, sc_17]) hO.1 hO.2.1 hO.2.2 (fun n hn => by
  rcases List.mem_cons.mp hn with rfl | hn
  · exact h4
  rcases List.mem_cons.mp hn with rfl | hn
  · exact h5
  rcases List.mem_cons.mp hn with rfl | hn
  · exact h17
  exact absurd hn List.not_mem_nil) sk_91 (fun _ hn => absurd hn List.not_mem_nil)
/-- RaftTown.law -/
def sc_92 : se_C := ((167, 2), ([(((90, 0, 0), 0, (0, 0, 0), (0, 0, 0)), (0, (0, 0, 0), (0, 0, 0))), (((0, (-2147483648), 2147483647), 0, (0, 0, 0), (0, 0, 0)), (0, (0, 1, 0), (0, 0, 0)))], [some (1, 0, 0), some (1, 1, 0)], [], []), [([(((0, (-100006), 11), 0, (0, 0, 0), (0, 0, 0)), (0, (0, 0, 0), (0, 0, 0)))], some (1, 2, 0), [], [])], [(45, 0, 12), (46, 0, 12), (47, 0, 12), (48, 0, 10), (74, 4, 5), (74, 5, 6), (88, 7, 8)])
abbrev sn_92 : List se_Nd := []
set_option maxRecDepth 100000 in
theorem sk_92 : se_chk0 se_tt [sc_4, sc_5, sc_20] se_Z 37 se_zt sc_92 sn_92 7 = true := by decide +kernel
theorem sm_92 {ty : Nat → Option Nat} {J : List mm_C → Prop} {kx : Nat} {zs : List mm_Zt} (hO : se_Ok ty J kx zs) (h4 : se_Met ty se_tt J kx zs sc_4) (h5 : se_Met ty se_tt J kx zs sc_5) (h20 : se_Met ty se_tt J kx zs sc_20) : se_Met ty se_tt J kx zs sc_92 := se_sound (C := [sc_4, sc_5, sc_20]) hO.1 hO.2.1 hO.2.2 (fun n hn => by
  rcases List.mem_cons.mp hn with rfl | hn
  · exact h4
  rcases List.mem_cons.mp hn with rfl | hn
  · exact h5
  rcases List.mem_cons.mp hn with rfl | hn
  · exact h20
  exact absurd hn List.not_mem_nil) sk_92 (fun _ hn => absurd hn List.not_mem_nil)
/-- RaftTown.may -/
def sc_93 : se_C := ((169, 4), ([(((90, 0, 0), 0, (0, 0, 0), (0, 0, 0)), (0, (0, 0, 0), (0, 0, 0))), (((0, (-2147483648), 2147483647), 0, (0, 0, 0), (0, 0, 0)), (0, (0, 1, 0), (0, 0, 0))), (((0, (-2147483648), 2147483647), 0, (0, 0, 0), (0, 0, 0)), (0, (0, 2, 0), (0, 0, 0)))], [some (1, 0, 0), some (1, 1, 0), some (1, 2, 0)], [], []), [([(((0, (-2147483648), 2147483647), 0, (0, 0, 0), (0, 0, 0)), (0, (0, 0, 0), (0, 0, 0)))], some (1, 3, 0), [], [])], [(37, 0, 9), (38, 0, 24), (45, 0, 12), (46, 0, 12), (47, 0, 12), (48, 0, 10), (72, 2, 3), (74, 4, 5), (74, 5, 6), (88, 7, 8)])
abbrev sn_93 : List se_Nd := []
set_option maxRecDepth 100000 in
theorem sk_93 : se_chk0 se_tt [sc_4, sc_5, sc_20, sc_28, sc_30] se_Z 37 se_zt sc_93 sn_93 8 = true := by decide +kernel
theorem sm_93 {ty : Nat → Option Nat} {J : List mm_C → Prop} {kx : Nat} {zs : List mm_Zt} (hO : se_Ok ty J kx zs) (h4 : se_Met ty se_tt J kx zs sc_4) (h5 : se_Met ty se_tt J kx zs sc_5) (h20 : se_Met ty se_tt J kx zs sc_20) (h28 : se_Met ty se_tt J kx zs sc_28) (h30 : se_Met ty se_tt J kx zs sc_30) : se_Met ty se_tt J kx zs sc_93 := se_sound (C := [sc_4, sc_5, sc_20, sc_28, sc_30]) hO.1 hO.2.1 hO.2.2 (fun n hn => by
  rcases List.mem_cons.mp hn with rfl | hn
  · exact h4
  rcases List.mem_cons.mp hn with rfl | hn
  · exact h5
  rcases List.mem_cons.mp hn with rfl | hn
  · exact h20
  rcases List.mem_cons.mp hn with rfl | hn
  · exact h28
  rcases List.mem_cons.mp hn with rfl | hn
  · exact h30
  exact absurd hn List.not_mem_nil) sk_93 (fun _ hn => absurd hn List.not_mem_nil)
/-- RaftTown.must -/
def sc_94 : se_C := ((170, 3), ([(((90, 0, 0), 0, (0, 0, 0), (0, 0, 0)), (0, (0, 0, 0), (0, 0, 0))), (((0, (-2147483648), 2147483647), 0, (0, 0, 0), (0, 0, 0)), (0, (0, 1, 0), (0, 0, 0))), (((0, (-2147483648), 2147483647), 0, (0, 0, 0), (0, 0, 0)), (0, (0, 2, 0), (0, 0, 0)))], [some (1, 0, 0), some (1, 1, 0), some (1, 2, 0)], [], []), [([(((0, (-2147483648), 2147483647), 0, (0, 0, 0), (0, 0, 0)), (0, (0, 0, 0), (0, 0, 0)))], some (1, 3, 0), [], [])], [(37, 0, 9), (38, 0, 24), (45, 0, 12), (46, 0, 12), (47, 0, 12), (48, 0, 10), (72, 2, 3), (74, 4, 5), (74, 5, 6), (88, 7, 8)])
abbrev sn_94 : List se_Nd := []
set_option maxRecDepth 100000 in
theorem sk_94 : se_chk0 se_tt [sc_4, sc_5, sc_20, sc_21, sc_24, sc_25, sc_26, sc_27, sc_30] se_Z 37 se_zt sc_94 sn_94 9 = true := by decide +kernel
theorem sm_94 {ty : Nat → Option Nat} {J : List mm_C → Prop} {kx : Nat} {zs : List mm_Zt} (hO : se_Ok ty J kx zs) (h4 : se_Met ty se_tt J kx zs sc_4) (h5 : se_Met ty se_tt J kx zs sc_5) (h20 : se_Met ty se_tt J kx zs sc_20) (h21 : se_Met ty se_tt J kx zs sc_21) (h24 : se_Met ty se_tt J kx zs sc_24) (h25 : se_Met ty se_tt J kx zs sc_25) (h26 : se_Met ty se_tt J kx zs sc_26) (h27 : se_Met ty se_tt J kx zs sc_27) (h30 : se_Met ty se_tt J kx zs sc_30) : se_Met ty se_tt J kx zs sc_94 := se_sound (C := [sc_4, sc_5, sc_20, sc_21, sc_24, sc_25, sc_26, sc_27, sc_30]) hO.1 hO.2.1 hO.2.2 (fun n hn => by
  rcases List.mem_cons.mp hn with rfl | hn
  · exact h4
  rcases List.mem_cons.mp hn with rfl | hn
  · exact h5
  rcases List.mem_cons.mp hn with rfl | hn
  · exact h20
  rcases List.mem_cons.mp hn with rfl | hn
  · exact h21
  rcases List.mem_cons.mp hn with rfl | hn
  · exact h24
  rcases List.mem_cons.mp hn with rfl | hn
  · exact h25
  rcases List.mem_cons.mp hn with rfl | hn
  · exact h26
  rcases List.mem_cons.mp hn with rfl | hn
  · exact h27
  rcases List.mem_cons.mp hn with rfl | hn
  · exact h30
  exact absurd hn List.not_mem_nil) sk_94 (fun _ hn => absurd hn List.not_mem_nil)
/-- RaftTown.speaks -/
def sc_95 : se_C := ((172, 3), ([(((90, 0, 0), 0, (0, 0, 0), (0, 0, 0)), (0, (0, 0, 0), (0, 0, 0))), (((0, (-2147483648), 2147483647), 0, (0, 0, 0), (0, 0, 0)), (0, (0, 1, 0), (0, 0, 0)))], [some (1, 0, 0), some (1, 1, 0)], [], []), [([(((0, (-100006), 2147483646), 0, (0, 0, 0), (0, 0, 0)), (0, (0, 0, 0), (0, 0, 0)))], some (1, 2, 0), [], [])], [(37, 0, 9), (38, 0, 24), (45, 0, 12), (46, 0, 12), (47, 0, 12), (48, 0, 10), (72, 2, 3), (74, 4, 5), (74, 5, 6), (88, 7, 8)])
def sn_95_0 : se_Nd := (53, ([(((90, 0, 0), 0, (0, 0, 0), (0, 0, 0)), (3, (0, 0, 0), (0, 0, 0))), (((0, 0, 2147483647), 0, (0, 0, 0), (0, 0, 0)), (3, (0, 1, 0), (0, 0, 0))), (((0, 0, 11), 0, (0, 0, 0), (0, 0, 0)), (0, (0, 2, 0), (0, 0, 0))), (((0, (-2147483648), 2147483647), 0, (0, 0, 0), (0, 0, 0)), (0, (0, 3, 0), (0, 0, 0))), (((0, (-1), 2147483646), 0, (0, 0, 0), (0, 0, 0)), (0, (0, 4, 0), (0, 0, 0))), (((0, (-2147483648), 2147483647), 0, (0, 0, 0), (0, 0, 0)), (0, (0, 5, 0), (0, 0, 0))), (((0, 0, 2147483647), 0, (0, 0, 0), (0, 0, 0)), (0, (0, 6, 0), (0, 0, 0)))], [some (1, 0, 0), some (1, 1, 0), some (1, 2, 0), some (1, 3, 0), some (1, 4, 0), some (1, 5, 0), some (1, 6, 0), none], [], []), [(0, 0, 0), ((-1), 6, 0), (0, 0, 0)])
abbrev sn_95 : List se_Nd := [sn_95_0]
set_option maxRecDepth 100000 in
theorem sk_95 : se_chk0 se_tt [sc_4, sc_5, sc_13, sc_20, sc_21, sc_24, sc_25, sc_27, sc_30] se_Z 37 se_zt sc_95 sn_95 8 = true := by decide +kernel
set_option maxRecDepth 100000 in
theorem sk_95_0 : se_chkn se_tt [sc_4, sc_5, sc_13, sc_20, sc_21, sc_24, sc_25, sc_27, sc_30] se_Z 37 se_zt sc_95 sn_95 8 sn_95_0 = true := by decide +kernel
theorem sm_95 {ty : Nat → Option Nat} {J : List mm_C → Prop} {kx : Nat} {zs : List mm_Zt} (hO : se_Ok ty J kx zs) (h4 : se_Met ty se_tt J kx zs sc_4) (h5 : se_Met ty se_tt J kx zs sc_5) (h13 : se_Met ty se_tt J kx zs sc_13) (h20 : se_Met ty se_tt J kx zs sc_20) (h21 : se_Met ty se_tt J kx zs sc_21) (h24 : se_Met ty se_tt J kx zs sc_24) (h25 : se_Met ty se_tt J kx zs sc_25) (h27 : se_Met ty se_tt J kx zs sc_27) (h30 : se_Met ty se_tt J kx zs sc_30) : se_Met ty se_tt J kx zs sc_95 := se_sound (C := [sc_4, sc_5, sc_13, sc_20, sc_21, sc_24, sc_25, sc_27, sc_30]) hO.1 hO.2.1 hO.2.2 (fun n hn => by
  rcases List.mem_cons.mp hn with rfl | hn
  · exact h4
  rcases List.mem_cons.mp hn with rfl | hn
  · exact h5
  rcases List.mem_cons.mp hn with rfl | hn
  · exact h13
  rcases List.mem_cons.mp hn with rfl | hn
  · exact h20
  rcases List.mem_cons.mp hn with rfl | hn
  · exact h21
  rcases List.mem_cons.mp hn with rfl | hn
  · exact h24
  rcases List.mem_cons.mp hn with rfl | hn
  · exact h25
  rcases List.mem_cons.mp hn with rfl | hn
  · exact h27
  rcases List.mem_cons.mp hn with rfl | hn
  · exact h30
  exact absurd hn List.not_mem_nil) sk_95 (fun n hn => by
  rcases List.mem_cons.mp hn with rfl | hn
  · exact sk_95_0
  exact absurd hn List.not_mem_nil)
/-- RaftTown$Log.countKnown -/
def sc_96 : se_C := ((175, 1), ([(((75, 0, 0), 0, (0, 0, 0), (0, 0, 0)), (0, (0, 0, 0), (0, 0, 0))), (((0, (-2147483648), 2147483647), 0, (0, 0, 0), (0, 0, 0)), (0, (0, 1, 0), (0, 0, 0)))], [some (1, 0, 0), some (1, 1, 0)], [], []), [([(((0, (-2147483648), 2147483647), 0, (0, 0, 0), (0, 0, 0)), (0, (0, 0, 0), (0, 0, 0)))], some (1, 2, 0), [], [])], [])
def sn_96_0 : se_Nd := (4, ([(((75, 0, 0), 0, (0, 0, 0), (0, 0, 0)), (3, (0, 0, 0), (0, 0, 0))), (((0, (-2147483648), 2147483647), 0, (0, 0, 0), (0, 0, 0)), (3, (0, 1, 0), (0, 0, 0))), (((0, (-2147483648), 2147483647), 0, (0, 0, 0), (0, 0, 0)), (0, (0, 2, 0), (0, 0, 0))), (((0, 0, 40), 0, (0, 0, 0), (0, 0, 0)), (0, (0, 3, 0), (0, 0, 0)))], [some (1, 0, 0), some (1, 1, 0), some (1, 2, 0), some (1, 3, 0)], [], []), [(0, 0, 0), ((-1), 3, 0), (0, 0, 0)])
abbrev sn_96 : List se_Nd := [sn_96_0]
set_option maxRecDepth 100000 in
theorem sk_96 : se_chk0 se_tt [] se_Z 37 se_zt sc_96 sn_96 4 = true := by decide +kernel
set_option maxRecDepth 100000 in
theorem sk_96_0 : se_chkn se_tt [] se_Z 37 se_zt sc_96 sn_96 4 sn_96_0 = true := by decide +kernel
theorem sm_96 {ty : Nat → Option Nat} {J : List mm_C → Prop} {kx : Nat} {zs : List mm_Zt} (hO : se_Ok ty J kx zs) : se_Met ty se_tt J kx zs sc_96 := se_sound (C := []) hO.1 hO.2.1 hO.2.2 (fun _ hn => absurd hn List.not_mem_nil) sk_96 (fun n hn => by
  rcases List.mem_cons.mp hn with rfl | hn
  · exact sk_96_0
  exact absurd hn List.not_mem_nil)
/-- RaftTown.events -/
def sc_97 : se_C := ((174, 2), ([(((90, 0, 0), 0, (0, 0, 0), (0, 0, 0)), (0, (0, 0, 0), (0, 0, 0))), (((0, (-2147483648), 2147483647), 0, (0, 0, 0), (0, 0, 0)), (0, (0, 1, 0), (0, 0, 0)))], [some (1, 0, 0), some (1, 1, 0)], [], []), [([(((0, (-2147483648), 2147483647), 0, (0, 0, 0), (0, 0, 0)), (0, (0, 0, 0), (0, 0, 0)))], some (1, 2, 0), [], [])], [(88, 7, 8)])
abbrev sn_97 : List se_Nd := []
set_option maxRecDepth 100000 in
theorem sk_97 : se_chk0 se_tt [sc_96] se_Z 37 se_zt sc_97 sn_97 6 = true := by decide +kernel
theorem sm_97 {ty : Nat → Option Nat} {J : List mm_C → Prop} {kx : Nat} {zs : List mm_Zt} (hO : se_Ok ty J kx zs) (h96 : se_Met ty se_tt J kx zs sc_96) : se_Met ty se_tt J kx zs sc_97 := se_sound (C := [sc_96]) hO.1 hO.2.1 hO.2.2 (fun n hn => by
  rcases List.mem_cons.mp hn with rfl | hn
  · exact h96
  exact absurd hn List.not_mem_nil) sk_97 (fun _ hn => absurd hn List.not_mem_nil)
/-- RaftTown.event -/
def sc_98 : se_C := ((176, 1), ([(((90, 0, 0), 0, (0, 0, 0), (0, 0, 0)), (0, (0, 0, 0), (0, 0, 0))), (((0, (-2147483648), 2147483647), 0, (0, 0, 0), (0, 0, 0)), (0, (0, 1, 0), (0, 0, 0))), (((0, (-2147483648), 2147483647), 0, (0, 0, 0), (0, 0, 0)), (0, (0, 2, 0), (0, 0, 0)))], [some (1, 0, 0), some (1, 1, 0), some (1, 2, 0)], [], []), [([(((0, (-2147483648), 2147483647), 0, (0, 0, 0), (0, 0, 0)), (0, (0, 0, 0), (0, 0, 0)))], some (1, 3, 0), [], [])], [(88, 7, 8)])
abbrev sn_98 : List se_Nd := []
set_option maxRecDepth 100000 in
theorem sk_98 : se_chk0 se_tt [] se_Z 37 se_zt sc_98 sn_98 6 = true := by decide +kernel
theorem sm_98 {ty : Nat → Option Nat} {J : List mm_C → Prop} {kx : Nat} {zs : List mm_Zt} (hO : se_Ok ty J kx zs) : se_Met ty se_tt J kx zs sc_98 := se_sound (C := []) hO.1 hO.2.1 hO.2.2 (fun _ hn => absurd hn List.not_mem_nil) sk_98 (fun _ hn => absurd hn List.not_mem_nil)
/-- RaftTown$Net.ropesOf -/
def sc_99 : se_C := ((180, 1), ([(((76, 0, 0), 0, (0, 0, 0), (0, 0, 0)), (0, (0, 0, 0), (0, 0, 0))), (((0, (-2147483648), 2147483647), 0, (0, 0, 0), (0, 0, 0)), (0, (0, 1, 0), (0, 0, 0)))], [some (1, 0, 0), some (1, 1, 0)], [], []), [([(((0, 0, 4095), 0, (0, 0, 0), (0, 0, 0)), (0, (0, 0, 0), (0, 0, 0)))], some (1, 2, 0), [], [])], [])
def sn_99_0 : se_Nd := (4, ([(((76, 0, 0), 0, (0, 0, 0), (0, 0, 0)), (3, (0, 0, 0), (0, 0, 0))), (((0, (-2147483648), 2147483647), 0, (0, 0, 0), (0, 0, 0)), (3, (0, 1, 0), (0, 0, 0))), (((0, 0, 4095), 0, (0, 0, 0), (0, 0, 0)), (0, (0, 2, 0), (0, 0, 0))), (((0, 0, 12), 0, (0, 0, 0), (0, 0, 0)), (0, (0, 3, 0), (0, 0, 0)))], [some (1, 0, 0), some (1, 1, 0), some (1, 2, 0), some (1, 3, 0)], [], []), [(0, 0, 0), ((-1), 3, 0), (0, 0, 0)])
abbrev sn_99 : List se_Nd := [sn_99_0]
set_option maxRecDepth 100000 in
theorem sk_99 : se_chk0 se_tt [] se_Z 37 se_zt sc_99 sn_99 6 = true := by decide +kernel
set_option maxRecDepth 100000 in
theorem sk_99_0 : se_chkn se_tt [] se_Z 37 se_zt sc_99 sn_99 6 sn_99_0 = true := by decide +kernel
theorem sm_99 {ty : Nat → Option Nat} {J : List mm_C → Prop} {kx : Nat} {zs : List mm_Zt} (hO : se_Ok ty J kx zs) : se_Met ty se_tt J kx zs sc_99 := se_sound (C := []) hO.1 hO.2.1 hO.2.2 (fun _ hn => absurd hn List.not_mem_nil) sk_99 (fun n hn => by
  rcases List.mem_cons.mp hn with rfl | hn
  · exact sk_99_0
  exact absurd hn List.not_mem_nil)
/-- RaftTown$Net.doomedOf -/
def sc_100 : se_C := ((182, 2), ([(((76, 0, 0), 0, (0, 0, 0), (0, 0, 0)), (0, (0, 0, 0), (0, 0, 0))), (((0, (-2147483648), 2147483647), 0, (0, 0, 0), (0, 0, 0)), (0, (0, 1, 0), (0, 0, 0))), (((0, (-2147483648), 2147483647), 0, (0, 0, 0), (0, 0, 0)), (0, (0, 2, 0), (0, 0, 0)))], [some (1, 0, 0), some (1, 1, 0), some (1, 2, 0)], [], []), [([(((0, 0, 4095), 0, (0, 0, 0), (0, 0, 0)), (0, (0, 0, 0), (0, 0, 0)))], some (1, 3, 0), [], [])], [])
def sn_100_0 : se_Nd := (5, ([(((76, 0, 0), 0, (0, 0, 0), (0, 0, 0)), (3, (0, 0, 0), (0, 0, 0))), (((0, (-2147483648), 2147483647), 0, (0, 0, 0), (0, 0, 0)), (3, (0, 1, 0), (0, 0, 0))), (((0, (-2147483648), 2147483647), 0, (0, 0, 0), (0, 0, 0)), (3, (0, 2, 0), (0, 0, 0))), (((0, 0, 4095), 0, (0, 0, 0), (0, 0, 0)), (0, (0, 3, 0), (0, 0, 0))), (((0, 0, 12), 0, (0, 0, 0), (0, 0, 0)), (0, (0, 4, 0), (0, 0, 0)))], [some (1, 0, 0), some (1, 1, 0), some (1, 2, 0), some (1, 3, 0), some (1, 4, 0), none], [], []), [(0, 0, 0), ((-1), 4, 0), (0, 0, 0)])
abbrev sn_100 : List se_Nd := [sn_100_0]
set_option maxRecDepth 100000 in
theorem sk_100 : se_chk0 se_tt [sc_5] se_Z 37 se_zt sc_100 sn_100 7 = true := by decide +kernel
set_option maxRecDepth 100000 in
theorem sk_100_0 : se_chkn se_tt [sc_5] se_Z 37 se_zt sc_100 sn_100 7 sn_100_0 = true := by decide +kernel
theorem sm_100 {ty : Nat → Option Nat} {J : List mm_C → Prop} {kx : Nat} {zs : List mm_Zt} (hO : se_Ok ty J kx zs) (h5 : se_Met ty se_tt J kx zs sc_5) : se_Met ty se_tt J kx zs sc_100 := se_sound (C := [sc_5]) hO.1 hO.2.1 hO.2.2 (fun n hn => by
  rcases List.mem_cons.mp hn with rfl | hn
  · exact h5
  exact absurd hn List.not_mem_nil) sk_100 (fun n hn => by
  rcases List.mem_cons.mp hn with rfl | hn
  · exact sk_100_0
  exact absurd hn List.not_mem_nil)
/-- RaftTown$Net.doomed -/
def sc_101 : se_C := ((181, 3), ([(((76, 0, 0), 0, (0, 0, 0), (0, 0, 0)), (0, (0, 0, 0), (0, 0, 0))), (((0, (-2147483648), 2147483647), 0, (0, 0, 0), (0, 0, 0)), (0, (0, 1, 0), (0, 0, 0)))], [some (1, 0, 0), some (1, 1, 0)], [], []), [([(((0, 0, 4095), 0, (0, 0, 0), (0, 0, 0)), (0, (0, 0, 0), (0, 0, 0)))], some (1, 2, 0), [], [])], [])
def sn_101_0 : se_Nd := (4, ([(((76, 0, 0), 0, (0, 0, 0), (0, 0, 0)), (3, (0, 0, 0), (0, 0, 0))), (((0, (-2147483648), 2147483647), 0, (0, 0, 0), (0, 0, 0)), (3, (0, 1, 0), (0, 0, 0))), (((0, 0, 4095), 0, (0, 0, 0), (0, 0, 0)), (0, (0, 2, 0), (0, 0, 0))), (((0, 0, 12), 0, (0, 0, 0), (0, 0, 0)), (0, (0, 3, 0), (0, 0, 0)))], [some (1, 0, 0), some (1, 1, 0), some (1, 2, 0), some (1, 3, 0), none], [], []), [(0, 0, 0), ((-1), 3, 0), (0, 0, 0)])
abbrev sn_101 : List se_Nd := [sn_101_0]
set_option maxRecDepth 100000 in
theorem sk_101 : se_chk0 se_tt [sc_100] se_Z 37 se_zt sc_101 sn_101 5 = true := by decide +kernel
set_option maxRecDepth 100000 in
theorem sk_101_0 : se_chkn se_tt [sc_100] se_Z 37 se_zt sc_101 sn_101 5 sn_101_0 = true := by decide +kernel
theorem sm_101 {ty : Nat → Option Nat} {J : List mm_C → Prop} {kx : Nat} {zs : List mm_Zt} (hO : se_Ok ty J kx zs) (h100 : se_Met ty se_tt J kx zs sc_100) : se_Met ty se_tt J kx zs sc_101 := se_sound (C := [sc_100]) hO.1 hO.2.1 hO.2.2 (fun n hn => by
  rcases List.mem_cons.mp hn with rfl | hn
  · exact h100
  exact absurd hn List.not_mem_nil) sk_101 (fun n hn => by
  rcases List.mem_cons.mp hn with rfl | hn
  · exact sk_101_0
  exact absurd hn List.not_mem_nil)
/-- RaftTown$Net.bridgesOf -/
def sc_102 : se_C := ((184, 2), ([(((76, 0, 0), 0, (0, 0, 0), (0, 0, 0)), (0, (0, 0, 0), (0, 0, 0))), (((0, (-2147483648), 2147483647), 0, (0, 0, 0), (0, 0, 0)), (0, (0, 1, 0), (0, 0, 0)))], [some (1, 0, 0), some (1, 1, 0)], [], []), [([(((0, 0, 4095), 0, (0, 0, 0), (0, 0, 0)), (0, (0, 0, 0), (0, 0, 0)))], some (1, 2, 0), [], [])], [])
def sn_102_0 : se_Nd := (4, ([(((76, 0, 0), 0, (0, 0, 0), (0, 0, 0)), (3, (0, 0, 0), (0, 0, 0))), (((0, (-2147483648), 2147483647), 0, (0, 0, 0), (0, 0, 0)), (3, (0, 1, 0), (0, 0, 0))), (((0, 0, 4095), 0, (0, 0, 0), (0, 0, 0)), (0, (0, 2, 0), (0, 0, 0))), (((0, 0, 12), 0, (0, 0, 0), (0, 0, 0)), (0, (0, 3, 0), (0, 0, 0)))], [some (1, 0, 0), some (1, 1, 0), some (1, 2, 0), some (1, 3, 0)], [], []), [(0, 0, 0), ((-1), 3, 0), (0, 0, 0)])
abbrev sn_102 : List se_Nd := [sn_102_0]
set_option maxRecDepth 100000 in
theorem sk_102 : se_chk0 se_tt [sc_5] se_Z 37 se_zt sc_102 sn_102 7 = true := by decide +kernel
set_option maxRecDepth 100000 in
theorem sk_102_0 : se_chkn se_tt [sc_5] se_Z 37 se_zt sc_102 sn_102 7 sn_102_0 = true := by decide +kernel
theorem sm_102 {ty : Nat → Option Nat} {J : List mm_C → Prop} {kx : Nat} {zs : List mm_Zt} (hO : se_Ok ty J kx zs) (h5 : se_Met ty se_tt J kx zs sc_5) : se_Met ty se_tt J kx zs sc_102 := se_sound (C := [sc_5]) hO.1 hO.2.1 hO.2.2 (fun n hn => by
  rcases List.mem_cons.mp hn with rfl | hn
  · exact h5
  exact absurd hn List.not_mem_nil) sk_102 (fun n hn => by
  rcases List.mem_cons.mp hn with rfl | hn
  · exact sk_102_0
  exact absurd hn List.not_mem_nil)
/-- RaftTown$Net.holds -/
def sc_103 : se_C := ((185, 3), ([(((76, 0, 0), 0, (0, 0, 0), (0, 0, 0)), (0, (0, 0, 0), (0, 0, 0))), (((0, (-2147483648), 2147483647), 0, (0, 0, 0), (0, 0, 0)), (0, (0, 1, 0), (0, 0, 0))), (((0, (-2147483648), 2147483647), 0, (0, 0, 0), (0, 0, 0)), (0, (0, 2, 0), (0, 0, 0)))], [some (1, 0, 0), some (1, 1, 0), some (1, 2, 0)], [], []), [([(((0, 0, 1), 0, (0, 0, 0), (0, 0, 0)), (0, (0, 0, 0), (0, 0, 0)))], some (1, 3, 0), [], [])], [])
def sn_103_0 : se_Nd := (2, ([(((76, 0, 0), 0, (0, 0, 0), (0, 0, 0)), (3, (0, 0, 0), (0, 0, 0))), (((0, (-2147483648), 2147483647), 0, (0, 0, 0), (0, 0, 0)), (3, (0, 1, 0), (0, 0, 0))), (((0, (-2147483648), 2147483647), 0, (0, 0, 0), (0, 0, 0)), (3, (0, 2, 0), (0, 0, 0))), (((0, 0, 12), 0, (0, 0, 0), (0, 0, 0)), (0, (0, 3, 0), (0, 0, 0)))], [some (1, 0, 0), some (1, 1, 0), some (1, 2, 0), some (1, 3, 0)], [], []), [(0, 0, 0), ((-1), 3, 0), (0, 0, 0)])
abbrev sn_103 : List se_Nd := [sn_103_0]
set_option maxRecDepth 100000 in
theorem sk_103 : se_chk0 se_tt [sc_23] se_Z 37 se_zt sc_103 sn_103 6 = true := by decide +kernel
set_option maxRecDepth 100000 in
theorem sk_103_0 : se_chkn se_tt [sc_23] se_Z 37 se_zt sc_103 sn_103 6 sn_103_0 = true := by decide +kernel
theorem sm_103 {ty : Nat → Option Nat} {J : List mm_C → Prop} {kx : Nat} {zs : List mm_Zt} (hO : se_Ok ty J kx zs) (h23 : se_Met ty se_tt J kx zs sc_23) : se_Met ty se_tt J kx zs sc_103 := se_sound (C := [sc_23]) hO.1 hO.2.1 hO.2.2 (fun n hn => by
  rcases List.mem_cons.mp hn with rfl | hn
  · exact h23
  exact absurd hn List.not_mem_nil) sk_103 (fun n hn => by
  rcases List.mem_cons.mp hn with rfl | hn
  · exact sk_103_0
  exact absurd hn List.not_mem_nil)
/-- RaftTown$Net.fewestLashings -/
def sc_104 : se_C := ((179, 4), ([(((76, 0, 0), 0, (0, 0, 0), (0, 0, 0)), (0, (0, 0, 0), (0, 0, 0))), (((0, (-2147483648), 2147483647), 0, (0, 0, 0), (0, 0, 0)), (0, (0, 1, 0), (0, 0, 0))), (((0, (-2147483648), 2147483647), 0, (0, 0, 0), (0, 0, 0)), (0, (0, 2, 0), (0, 0, 0)))], [some (1, 0, 0), some (1, 1, 0), some (1, 2, 0)], [], []), [([(((0, (-1), 4095), 0, (0, 0, 0), (0, 0, 0)), (0, (0, 0, 0), (0, 0, 0)))], some (1, 3, 0), [], [])], [])
def sn_104_0 : se_Nd := (47, ([(((76, 0, 0), 0, (0, 0, 0), (0, 0, 0)), (3, (0, 0, 0), (0, 0, 0))), (((0, (-2147483648), 2147483647), 0, (0, 0, 0), (0, 0, 0)), (3, (0, 1, 0), (0, 0, 0))), (((0, (-2147483648), 2147483647), 0, (0, 0, 0), (0, 0, 0)), (3, (0, 2, 0), (0, 0, 0))), (((0, (-2147483648), 2147483647), 0, (0, 0, 0), (0, 0, 0)), (0, (0, 3, 0), (0, 0, 0))), (((0, 0, 4095), 0, (0, 0, 0), (0, 0, 0)), (0, (0, 4, 0), (0, 0, 0))), (((0, 0, 4095), 0, (0, 0, 0), (0, 0, 0)), (0, (0, 5, 0), (0, 0, 0))), (((0, 0, 4095), 0, (0, 0, 0), (0, 0, 0)), (0, (0, 6, 0), (0, 0, 0))), (((0, 0, 13), 0, (0, 0, 0), (0, 0, 0)), (0, (0, 7, 0), (0, 0, 0))), (((0, (-1), 4095), 0, (0, 0, 0), (0, 0, 0)), (0, (0, 8, 0), (0, 0, 0))), (((0, 0, 4096), 0, (0, 0, 0), (0, 0, 0)), (0, (0, 9, 0), (0, 0, 0)))], [some (1, 0, 0), some (1, 1, 0), some (1, 2, 0), some (1, 3, 0), some (1, 4, 0), some (1, 5, 0), some (1, 6, 0), some (1, 7, 0), some (1, 8, 0), some (1, 9, 0), none], [], []), [(0, 0, 0), ((-1), 9, 0), (0, 0, 0)])
abbrev sn_104 : List se_Nd := [sn_104_0]
set_option maxRecDepth 100000 in
theorem sk_104 : se_chk0 se_tt [sc_5, sc_25, sc_99, sc_101, sc_102, sc_103] se_Z 37 se_zt sc_104 sn_104 6 = true := by decide +kernel
set_option maxRecDepth 100000 in
theorem sk_104_0 : se_chkn se_tt [sc_5, sc_25, sc_99, sc_101, sc_102, sc_103] se_Z 37 se_zt sc_104 sn_104 6 sn_104_0 = true := by decide +kernel
theorem sm_104 {ty : Nat → Option Nat} {J : List mm_C → Prop} {kx : Nat} {zs : List mm_Zt} (hO : se_Ok ty J kx zs) (h5 : se_Met ty se_tt J kx zs sc_5) (h25 : se_Met ty se_tt J kx zs sc_25) (h99 : se_Met ty se_tt J kx zs sc_99) (h101 : se_Met ty se_tt J kx zs sc_101) (h102 : se_Met ty se_tt J kx zs sc_102) (h103 : se_Met ty se_tt J kx zs sc_103) : se_Met ty se_tt J kx zs sc_104 := se_sound (C := [sc_5, sc_25, sc_99, sc_101, sc_102, sc_103]) hO.1 hO.2.1 hO.2.2 (fun n hn => by
  rcases List.mem_cons.mp hn with rfl | hn
  · exact h5
  rcases List.mem_cons.mp hn with rfl | hn
  · exact h25
  rcases List.mem_cons.mp hn with rfl | hn
  · exact h99
  rcases List.mem_cons.mp hn with rfl | hn
  · exact h101
  rcases List.mem_cons.mp hn with rfl | hn
  · exact h102
  rcases List.mem_cons.mp hn with rfl | hn
  · exact h103
  exact absurd hn List.not_mem_nil) sk_104 (fun n hn => by
  rcases List.mem_cons.mp hn with rfl | hn
  · exact sk_104_0
  exact absurd hn List.not_mem_nil)
