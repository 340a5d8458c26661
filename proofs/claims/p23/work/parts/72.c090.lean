/-! ===== printed by wip/p2/gen_tab.py: contracts and their checks ===== -/
/-- RaftTown$Tape.readOr -/
def sc_90 : se_C := ((155, 10), ([(((82, 0, 0), 0, (0, 0, 0), (0, 0, 0)), (0, (0, 0, 0), (0, 0, 0))), (((0, 4, 4), 0, (0, 0, 0), (0, 0, 0)), (0, (0, 1, 0), (0, 0, 0)))], [some (1, 0, 0), some (1, 1, 0)], [], []), [([(((0, 0, 1), 0, (0, 0, 0), (0, 0, 0)), (0, (0, 0, 0), (0, 0, 0)))], some (1, 2, 0), [], [])], [(80, 3, 4), (80, 4, 5), (80, 5, 6), (80, 6, 7), (101, 0, 160), (110, 3, 4)])
def sn_90_0 : se_Nd := (8, ([(((82, 0, 0), 0, (0, 0, 0), (0, 0, 0)), (3, (0, 0, 0), (0, 0, 0))), (((0, 4, 4), 0, (0, 0, 0), (0, 0, 0)), (3, (0, 1, 0), (0, 0, 0))), (((0, 0, 1), 0, (0, 0, 0), (0, 0, 0)), (0, (0, 2, 0), (0, 0, 0))), (((0, 0, 160), 0, (0, 0, 0), (0, 0, 0)), (0, (0, 3, 0), (0, 0, 0)))], [some (1, 0, 0), some (1, 1, 0), some (1, 2, 0), some (1, 3, 0)], [], []), [(0, 0, 0), ((-1), 3, 0), (0, 0, 0)])
abbrev sn_90 : List se_Nd := [sn_90_0]
set_option maxRecDepth 100000 in
theorem sk_90 : se_chk0 se_tt [sc_80, sc_84, sc_89] se_Z 37 se_zt sc_90 sn_90 5 = true := by decide +kernel
set_option maxRecDepth 100000 in
theorem sk_90_0 : se_chkn se_tt [sc_80, sc_84, sc_89] se_Z 37 se_zt sc_90 sn_90 5 sn_90_0 = true := by decide +kernel
theorem sm_90 {ty : Nat → Option Nat} {J : List mm_C → Prop} {kx : Nat} {zs : List mm_Zt} (hO : se_Ok ty J kx zs) (h80 : se_Met ty se_tt J kx zs sc_80) (h84 : se_Met ty se_tt J kx zs sc_84) (h89 : se_Met ty se_tt J kx zs sc_89) : se_Met ty se_tt J kx zs sc_90 := se_sound (C := [sc_80, sc_84, sc_89]) hO.1 hO.2.1 hO.2.2 (fun n hn => by
  rcases List.mem_cons.mp hn with rfl | hn
  · exact h80
  rcases List.mem_cons.mp hn with rfl | hn
  · exact h84
  rcases List.mem_cons.mp hn with rfl | hn
  · exact h89
  exact absurd hn List.not_mem_nil) sk_90 (fun n hn => by
  rcases List.mem_cons.mp hn with rfl | hn
  · exact sk_90_0
  exact absurd hn List.not_mem_nil)
/-- RaftTown$Tape.readOne -/
def sc_91 : se_C := ((160, 11), ([(((82, 0, 0), 0, (0, 0, 0), (0, 0, 0)), (0, (0, 0, 0), (0, 0, 0))), (((0, 3, 3), 0, (0, 0, 0), (0, 0, 0)), (0, (0, 1, 0), (0, 0, 0)))], [some (1, 0, 0), some (1, 1, 0)], [], []), [([(((0, 0, 1), 0, (0, 0, 0), (0, 0, 0)), (0, (0, 0, 0), (0, 0, 0)))], some (1, 2, 0), [], [])], [(80, 3, 4), (80, 4, 5), (80, 5, 6), (80, 6, 7), (101, 0, 160), (110, 3, 4)])
abbrev sn_91 : List se_Nd := []
set_option maxRecDepth 100000 in
theorem sk_91 : se_chk0 se_tt [sc_80, sc_82, sc_84, sc_90] se_Z 37 se_zt sc_91 sn_91 5 = true := by decide +kernel
theorem sm_91 {ty : Nat → Option Nat} {J : List mm_C → Prop} {kx : Nat} {zs : List mm_Zt} (hO : se_Ok ty J kx zs) (h80 : se_Met ty se_tt J kx zs sc_80) (h82 : se_Met ty se_tt J kx zs sc_82) (h84 : se_Met ty se_tt J kx zs sc_84) (h90 : se_Met ty se_tt J kx zs sc_90) : se_Met ty se_tt J kx zs sc_91 := se_sound (C := [sc_80, sc_82, sc_84, sc_90]) hO.1 hO.2.1 hO.2.2 (fun n hn => by
  rcases List.mem_cons.mp hn with rfl | hn
  · exact h80
  rcases List.mem_cons.mp hn with rfl | hn
  · exact h82
  rcases List.mem_cons.mp hn with rfl | hn
  · exact h84
  rcases List.mem_cons.mp hn with rfl | hn
  · exact h90
  exact absurd hn List.not_mem_nil) sk_91 (fun _ hn => absurd hn List.not_mem_nil)
/-- RaftTown$Tape.readSum -/
def sc_92 : se_C := ((159, 12), ([(((82, 0, 0), 0, (0, 0, 0), (0, 0, 0)), (0, (0, 0, 0), (0, 0, 0))), (((0, 3, 3), 0, (0, 0, 0), (0, 0, 0)), (0, (0, 1, 0), (0, 0, 0)))], [some (1, 0, 0), some (1, 1, 0)], [], []), [([(((0, 0, 1), 0, (0, 0, 0), (0, 0, 0)), (0, (0, 0, 0), (0, 0, 0)))], some (1, 2, 0), [], [])], [(80, 3, 4), (80, 4, 5), (80, 5, 6), (80, 6, 7), (101, 0, 160), (110, 3, 4)])
def sn_92_0 : se_Nd := (8, ([(((82, 0, 0), 0, (0, 0, 0), (0, 0, 0)), (3, (0, 0, 0), (0, 0, 0))), (((0, 3, 3), 0, (0, 0, 0), (0, 0, 0)), (3, (0, 1, 0), (0, 0, 0))), (((0, 0, 1), 0, (0, 0, 0), (0, 0, 0)), (0, (0, 2, 0), (0, 0, 0))), (((0, 0, 160), 0, (0, 0, 0), (0, 0, 0)), (0, (0, 3, 0), (0, 0, 0)))], [some (1, 0, 0), some (1, 1, 0), some (1, 2, 0), some (1, 3, 0), none], [], []), [(0, 0, 0), ((-1), 3, 0), (0, 0, 0)])
abbrev sn_92 : List se_Nd := [sn_92_0]
set_option maxRecDepth 100000 in
theorem sk_92 : se_chk0 se_tt [sc_80, sc_84, sc_91] se_Z 37 se_zt sc_92 sn_92 5 = true := by decide +kernel
set_option maxRecDepth 100000 in
theorem sk_92_0 : se_chkn se_tt [sc_80, sc_84, sc_91] se_Z 37 se_zt sc_92 sn_92 5 sn_92_0 = true := by decide +kernel
theorem sm_92 {ty : Nat → Option Nat} {J : List mm_C → Prop} {kx : Nat} {zs : List mm_Zt} (hO : se_Ok ty J kx zs) (h80 : se_Met ty se_tt J kx zs sc_80) (h84 : se_Met ty se_tt J kx zs sc_84) (h91 : se_Met ty se_tt J kx zs sc_91) : se_Met ty se_tt J kx zs sc_92 := se_sound (C := [sc_80, sc_84, sc_91]) hO.1 hO.2.1 hO.2.2 (fun n hn => by
  rcases List.mem_cons.mp hn with rfl | hn
  · exact h80
  rcases List.mem_cons.mp hn with rfl | hn
  · exact h84
  rcases List.mem_cons.mp hn with rfl | hn
  · exact h91
  exact absurd hn List.not_mem_nil) sk_92 (fun n hn => by
  rcases List.mem_cons.mp hn with rfl | hn
  · exact sk_92_0
  exact absurd hn List.not_mem_nil)
/-- RaftTown$Tape.readComparison -/
def sc_93 : se_C := ((158, 13), ([(((82, 0, 0), 0, (0, 0, 0), (0, 0, 0)), (0, (0, 0, 0), (0, 0, 0))), (((0, 3, 3), 0, (0, 0, 0), (0, 0, 0)), (0, (0, 1, 0), (0, 0, 0)))], [some (1, 0, 0), some (1, 1, 0)], [], []), [([(((0, 0, 1), 0, (0, 0, 0), (0, 0, 0)), (0, (0, 0, 0), (0, 0, 0)))], some (1, 2, 0), [], [])], [(80, 3, 4), (80, 4, 5), (80, 5, 6), (80, 6, 7), (101, 0, 160), (110, 3, 4)])
abbrev sn_93 : List se_Nd := []
set_option maxRecDepth 100000 in
theorem sk_93 : se_chk0 se_tt [sc_80, sc_84, sc_92] se_Z 37 se_zt sc_93 sn_93 5 = true := by decide +kernel
theorem sm_93 {ty : Nat → Option Nat} {J : List mm_C → Prop} {kx : Nat} {zs : List mm_Zt} (hO : se_Ok ty J kx zs) (h80 : se_Met ty se_tt J kx zs sc_80) (h84 : se_Met ty se_tt J kx zs sc_84) (h92 : se_Met ty se_tt J kx zs sc_92) : se_Met ty se_tt J kx zs sc_93 := se_sound (C := [sc_80, sc_84, sc_92]) hO.1 hO.2.1 hO.2.2 (fun n hn => by
  rcases List.mem_cons.mp hn with rfl | hn
  · exact h80
  rcases List.mem_cons.mp hn with rfl | hn
  · exact h84
  rcases List.mem_cons.mp hn with rfl | hn
  · exact h92
  exact absurd hn List.not_mem_nil) sk_93 (fun _ hn => absurd hn List.not_mem_nil)
/-- RaftTown$Tape.readNot -/
def sc_94 : se_C := ((157, 14), ([(((82, 0, 0), 0, (0, 0, 0), (0, 0, 0)), (0, (0, 0, 0), (0, 0, 0))), (((0, 3, 3), 0, (0, 0, 0), (0, 0, 0)), (0, (0, 1, 0), (0, 0, 0)))], [some (1, 0, 0), some (1, 1, 0)], [], []), [([(((0, 0, 1), 0, (0, 0, 0), (0, 0, 0)), (0, (0, 0, 0), (0, 0, 0)))], some (1, 2, 0), [], [])], [(80, 3, 4), (80, 4, 5), (80, 5, 6), (80, 6, 7), (101, 0, 160), (110, 3, 4)])
abbrev sn_94 : List se_Nd := []
set_option maxRecDepth 100000 in
theorem sk_94 : se_chk0 se_tt [sc_80, sc_84, sc_88, sc_93] se_Z 37 se_zt sc_94 sn_94 5 = true := by decide +kernel
theorem sm_94 {ty : Nat → Option Nat} {J : List mm_C → Prop} {kx : Nat} {zs : List mm_Zt} (hO : se_Ok ty J kx zs) (h80 : se_Met ty se_tt J kx zs sc_80) (h84 : se_Met ty se_tt J kx zs sc_84) (h88 : se_Met ty se_tt J kx zs sc_88) (h93 : se_Met ty se_tt J kx zs sc_93) : se_Met ty se_tt J kx zs sc_94 := se_sound (C := [sc_80, sc_84, sc_88, sc_93]) hO.1 hO.2.1 hO.2.2 (fun n hn => by
  rcases List.mem_cons.mp hn with rfl | hn
  · exact h80
  rcases List.mem_cons.mp hn with rfl | hn
  · exact h84
  rcases List.mem_cons.mp hn with rfl | hn
  · exact h88
  rcases List.mem_cons.mp hn with rfl | hn
  · exact h93
  exact absurd hn List.not_mem_nil) sk_94 (fun _ hn => absurd hn List.not_mem_nil)
/-- RaftTown$Tape.readAnd -/
def sc_95 : se_C := ((156, 15), ([(((82, 0, 0), 0, (0, 0, 0), (0, 0, 0)), (0, (0, 0, 0), (0, 0, 0))), (((0, 3, 3), 0, (0, 0, 0), (0, 0, 0)), (0, (0, 1, 0), (0, 0, 0)))], [some (1, 0, 0), some (1, 1, 0)], [], []), [([(((0, 0, 1), 0, (0, 0, 0), (0, 0, 0)), (0, (0, 0, 0), (0, 0, 0)))], some (1, 2, 0), [], [])], [(80, 3, 4), (80, 4, 5), (80, 5, 6), (80, 6, 7), (101, 0, 160), (110, 3, 4)])
def sn_95_0 : se_Nd := (8, ([(((82, 0, 0), 0, (0, 0, 0), (0, 0, 0)), (3, (0, 0, 0), (0, 0, 0))), (((0, 3, 3), 0, (0, 0, 0), (0, 0, 0)), (3, (0, 1, 0), (0, 0, 0))), (((0, 0, 1), 0, (0, 0, 0), (0, 0, 0)), (0, (0, 2, 0), (0, 0, 0))), (((0, 0, 160), 0, (0, 0, 0), (0, 0, 0)), (0, (0, 3, 0), (0, 0, 0)))], [some (1, 0, 0), some (1, 1, 0), some (1, 2, 0), some (1, 3, 0)], [], []), [(0, 0, 0), ((-1), 3, 0), (0, 0, 0)])
abbrev sn_95 : List se_Nd := [sn_95_0]
set_option maxRecDepth 100000 in
theorem sk_95 : se_chk0 se_tt [sc_80, sc_84, sc_94] se_Z 37 se_zt sc_95 sn_95 5 = true := by decide +kernel
set_option maxRecDepth 100000 in
theorem sk_95_0 : se_chkn se_tt [sc_80, sc_84, sc_94] se_Z 37 se_zt sc_95 sn_95 5 sn_95_0 = true := by decide +kernel
theorem sm_95 {ty : Nat → Option Nat} {J : List mm_C → Prop} {kx : Nat} {zs : List mm_Zt} (hO : se_Ok ty J kx zs) (h80 : se_Met ty se_tt J kx zs sc_80) (h84 : se_Met ty se_tt J kx zs sc_84) (h94 : se_Met ty se_tt J kx zs sc_94) : se_Met ty se_tt J kx zs sc_95 := se_sound (C := [sc_80, sc_84, sc_94]) hO.1 hO.2.1 hO.2.2 (fun n hn => by
  rcases List.mem_cons.mp hn with rfl | hn
  · exact h80
  rcases List.mem_cons.mp hn with rfl | hn
  · exact h84
  rcases List.mem_cons.mp hn with rfl | hn
  · exact h94
  exact absurd hn List.not_mem_nil) sk_95 (fun n hn => by
  rcases List.mem_cons.mp hn with rfl | hn
  · exact sk_95_0
  exact absurd hn List.not_mem_nil)
/-- RaftTown$Tape.readOr -/
def sc_96 : se_C := ((155, 16), ([(((82, 0, 0), 0, (0, 0, 0), (0, 0, 0)), (0, (0, 0, 0), (0, 0, 0))), (((0, 3, 3), 0, (0, 0, 0), (0, 0, 0)), (0, (0, 1, 0), (0, 0, 0)))], [some (1, 0, 0), some (1, 1, 0)], [], []), [([(((0, 0, 1), 0, (0, 0, 0), (0, 0, 0)), (0, (0, 0, 0), (0, 0, 0)))], some (1, 2, 0), [], [])], [(80, 3, 4), (80, 4, 5), (80, 5, 6), (80, 6, 7), (101, 0, 160), (110, 3, 4)])
def sn_96_0 : se_Nd := (8, ([(((82, 0, 0), 0, (0, 0, 0), (0, 0, 0)), (3, (0, 0, 0), (0, 0, 0))), (((0, 3, 3), 0, (0, 0, 0), (0, 0, 0)), (3, (0, 1, 0), (0, 0, 0))), (((0, 0, 1), 0, (0, 0, 0), (0, 0, 0)), (0, (0, 2, 0), (0, 0, 0))), (((0, 0, 160), 0, (0, 0, 0), (0, 0, 0)), (0, (0, 3, 0), (0, 0, 0)))], [some (1, 0, 0), some (1, 1, 0), some (1, 2, 0), some (1, 3, 0)], [], []), [(0, 0, 0), ((-1), 3, 0), (0, 0, 0)])
abbrev sn_96 : List se_Nd := [sn_96_0]
set_option maxRecDepth 100000 in
theorem sk_96 : se_chk0 se_tt [sc_80, sc_84, sc_95] se_Z 37 se_zt sc_96 sn_96 5 = true := by decide +kernel
set_option maxRecDepth 100000 in
theorem sk_96_0 : se_chkn se_tt [sc_80, sc_84, sc_95] se_Z 37 se_zt sc_96 sn_96 5 sn_96_0 = true := by decide +kernel
theorem sm_96 {ty : Nat → Option Nat} {J : List mm_C → Prop} {kx : Nat} {zs : List mm_Zt} (hO : se_Ok ty J kx zs) (h80 : se_Met ty se_tt J kx zs sc_80) (h84 : se_Met ty se_tt J kx zs sc_84) (h95 : se_Met ty se_tt J kx zs sc_95) : se_Met ty se_tt J kx zs sc_96 := se_sound (C := [sc_80, sc_84, sc_95]) hO.1 hO.2.1 hO.2.2 (fun n hn => by
  rcases List.mem_cons.mp hn with rfl | hn
  · exact h80
  rcases List.mem_cons.mp hn with rfl | hn
  · exact h84
  rcases List.mem_cons.mp hn with rfl | hn
  · exact h95
  exact absurd hn List.not_mem_nil) sk_96 (fun n hn => by
  rcases List.mem_cons.mp hn with rfl | hn
  · exact sk_96_0
  exact absurd hn List.not_mem_nil)
/-- RaftTown$Tape.readOne -/
def sc_97 : se_C := ((160, 17), ([(((82, 0, 0), 0, (0, 0, 0), (0, 0, 0)), (0, (0, 0, 0), (0, 0, 0))), (((0, 2, 2), 0, (0, 0, 0), (0, 0, 0)), (0, (0, 1, 0), (0, 0, 0)))], [some (1, 0, 0), some (1, 1, 0)], [], []), [([(((0, 0, 1), 0, (0, 0, 0), (0, 0, 0)), (0, (0, 0, 0), (0, 0, 0)))], some (1, 2, 0), [], [])], [(80, 3, 4), (80, 4, 5), (80, 5, 6), (80, 6, 7), (101, 0, 160), (110, 3, 4)])
abbrev sn_97 : List se_Nd := []
set_option maxRecDepth 100000 in
theorem sk_97 : se_chk0 se_tt [sc_80, sc_82, sc_84, sc_96] se_Z 37 se_zt sc_97 sn_97 5 = true := by decide +kernel
theorem sm_97 {ty : Nat → Option Nat} {J : List mm_C → Prop} {kx : Nat} {zs : List mm_Zt} (hO : se_Ok ty J kx zs) (h80 : se_Met ty se_tt J kx zs sc_80) (h82 : se_Met ty se_tt J kx zs sc_82) (h84 : se_Met ty se_tt J kx zs sc_84) (h96 : se_Met ty se_tt J kx zs sc_96) : se_Met ty se_tt J kx zs sc_97 := se_sound (C := [sc_80, sc_82, sc_84, sc_96]) hO.1 hO.2.1 hO.2.2 (fun n hn => by
  rcases List.mem_cons.mp hn with rfl | hn
  · exact h80
  rcases List.mem_cons.mp hn with rfl | hn
  · exact h82
  rcases List.mem_cons.mp hn with rfl | hn
  · exact h84
  rcases List.mem_cons.mp hn with rfl | hn
  · exact h96
  exact absurd hn List.not_mem_nil) sk_97 (fun _ hn => absurd hn List.not_mem_nil)
/-- RaftTown$Tape.readSum -/
def sc_98 : se_C := ((159, 18), ([(((82, 0, 0), 0, (0, 0, 0), (0, 0, 0)), (0, (0, 0, 0), (0, 0, 0))), (((0, 2, 2), 0, (0, 0, 0), (0, 0, 0)), (0, (0, 1, 0), (0, 0, 0)))], [some (1, 0, 0), some (1, 1, 0)], [], []), [([(((0, 0, 1), 0, (0, 0, 0), (0, 0, 0)), (0, (0, 0, 0), (0, 0, 0)))], some (1, 2, 0), [], [])], [(80, 3, 4), (80, 4, 5), (80, 5, 6), (80, 6, 7), (101, 0, 160), (110, 3, 4)])
def sn_98_0 : se_Nd := (8, ([(((82, 0, 0), 0, (0, 0, 0), (0, 0, 0)), (3, (0, 0, 0), (0, 0, 0))), (((0, 2, 2), 0, (0, 0, 0), (0, 0, 0)), (3, (0, 1, 0), (0, 0, 0))), (((0, 0, 1), 0, (0, 0, 0), (0, 0, 0)), (0, (0, 2, 0), (0, 0, 0))), (((0, 0, 160), 0, (0, 0, 0), (0, 0, 0)), (0, (0, 3, 0), (0, 0, 0)))], [some (1, 0, 0), some (1, 1, 0), some (1, 2, 0), some (1, 3, 0), none], [], []), [(0, 0, 0), ((-1), 3, 0), (0, 0, 0)])
abbrev sn_98 : List se_Nd := [sn_98_0]
set_option maxRecDepth 100000 in
theorem sk_98 : se_chk0 se_tt [sc_80, sc_84, sc_97] se_Z 37 se_zt sc_98 sn_98 5 = true := by decide +kernel
set_option maxRecDepth 100000 in
theorem sk_98_0 : se_chkn se_tt [sc_80, sc_84, sc_97] se_Z 37 se_zt sc_98 sn_98 5 sn_98_0 = true := by decide +kernel
theorem sm_98 {ty : Nat → Option Nat} {J : List mm_C → Prop} {kx : Nat} {zs : List mm_Zt} (hO : se_Ok ty J kx zs) (h80 : se_Met ty se_tt J kx zs sc_80) (h84 : se_Met ty se_tt J kx zs sc_84) (h97 : se_Met ty se_tt J kx zs sc_97) : se_Met ty se_tt J kx zs sc_98 := se_sound (C := [sc_80, sc_84, sc_97]) hO.1 hO.2.1 hO.2.2 (fun n hn => by
  rcases List.mem_cons.mp hn with rfl | hn
  · exact h80
  rcases List.mem_cons.mp hn with rfl | hn
  · exact h84
  rcases List.mem_cons.mp hn with rfl | hn
  · exact h97
  exact absurd hn List.not_mem_nil) sk_98 (fun n hn => by
  rcases List.mem_cons.mp hn with rfl | hn
  · exact sk_98_0
  exact absurd hn List.not_mem_nil)
/-- RaftTown$Tape.readComparison -/
def sc_99 : se_C := ((158, 19), ([(((82, 0, 0), 0, (0, 0, 0), (0, 0, 0)), (0, (0, 0, 0), (0, 0, 0))), (((0, 2, 2), 0, (0, 0, 0), (0, 0, 0)), (0, (0, 1, 0), (0, 0, 0)))], [some (1, 0, 0), some (1, 1, 0)], [], []), [([(((0, 0, 1), 0, (0, 0, 0), (0, 0, 0)), (0, (0, 0, 0), (0, 0, 0)))], some (1, 2, 0), [], [])], [(80, 3, 4), (80, 4, 5), (80, 5, 6), (80, 6, 7), (101, 0, 160), (110, 3, 4)])
abbrev sn_99 : List se_Nd := []
set_option maxRecDepth 100000 in
theorem sk_99 : se_chk0 se_tt [sc_80, sc_84, sc_98] se_Z 37 se_zt sc_99 sn_99 5 = true := by decide +kernel
theorem sm_99 {ty : Nat → Option Nat} {J : List mm_C → Prop} {kx : Nat} {zs : List mm_Zt} (hO : se_Ok ty J kx zs) (h80 : se_Met ty se_tt J kx zs sc_80) (h84 : se_Met ty se_tt J kx zs sc_84) (h98 : se_Met ty se_tt J kx zs sc_98) : se_Met ty se_tt J kx zs sc_99 := se_sound (C := [sc_80, sc_84, sc_98]) hO.1 hO.2.1 hO.2.2 (fun n hn => by
  rcases List.mem_cons.mp hn with rfl | hn
  · exact h80
  rcases List.mem_cons.mp hn with rfl | hn
  · exact h84
  rcases List.mem_cons.mp hn with rfl | hn
  · exact h98
  exact absurd hn List.not_mem_nil) sk_99 (fun _ hn => absurd hn List.not_mem_nil)
/-- RaftTown$Tape.readNot -/
def sc_100 : se_C := ((157, 20), ([(((82, 0, 0), 0, (0, 0, 0), (0, 0, 0)), (0, (0, 0, 0), (0, 0, 0))), (((0, 2, 2), 0, (0, 0, 0), (0, 0, 0)), (0, (0, 1, 0), (0, 0, 0)))], [some (1, 0, 0), some (1, 1, 0)], [], []), [([(((0, 0, 1), 0, (0, 0, 0), (0, 0, 0)), (0, (0, 0, 0), (0, 0, 0)))], some (1, 2, 0), [], [])], [(80, 3, 4), (80, 4, 5), (80, 5, 6), (80, 6, 7), (101, 0, 160), (110, 3, 4)])
abbrev sn_100 : List se_Nd := []
set_option maxRecDepth 100000 in
theorem sk_100 : se_chk0 se_tt [sc_80, sc_84, sc_94, sc_99] se_Z 37 se_zt sc_100 sn_100 5 = true := by decide +kernel
theorem sm_100 {ty : Nat → Option Nat} {J : List mm_C → Prop} {kx : Nat} {zs : List mm_Zt} (hO : se_Ok ty J kx zs) (h80 : se_Met ty se_tt J kx zs sc_80) (h84 : se_Met ty se_tt J kx zs sc_84) (h94 : se_Met ty se_tt J kx zs sc_94) (h99 : se_Met ty se_tt J kx zs sc_99) : se_Met ty se_tt J kx zs sc_100 := se_sound (C := [sc_80, sc_84, sc_94, sc_99]) hO.1 hO.2.1 hO.2.2 (fun n hn => by
  rcases List.mem_cons.mp hn with rfl | hn
  · exact h80
  rcases List.mem_cons.mp hn with rfl | hn
  · exact h84
  rcases List.mem_cons.mp hn with rfl | hn
  · exact h94
  rcases List.mem_cons.mp hn with rfl | hn
  · exact h99
  exact absurd hn List.not_mem_nil) sk_100 (fun _ hn => absurd hn List.not_mem_nil)
/-- RaftTown$Tape.readAnd -/
def sc_101 : se_C := ((156, 21), ([(((82, 0, 0), 0, (0, 0, 0), (0, 0, 0)), (0, (0, 0, 0), (0, 0, 0))), (((0, 2, 2), 0, (0, 0, 0), (0, 0, 0)), (0, (0, 1, 0), (0, 0, 0)))], [some (1, 0, 0), some (1, 1, 0)], [], []), [([(((0, 0, 1), 0, (0, 0, 0), (0, 0, 0)), (0, (0, 0, 0), (0, 0, 0)))], some (1, 2, 0), [], [])], [(80, 3, 4), (80, 4, 5), (80, 5, 6), (80, 6, 7), (101, 0, 160), (110, 3, 4)])
def sn_101_0 : se_Nd := (8, ([(((82, 0, 0), 0, (0, 0, 0), (0, 0, 0)), (3, (0, 0, 0), (0, 0, 0))), (((0, 2, 2), 0, (0, 0, 0), (0, 0, 0)), (3, (0, 1, 0), (0, 0, 0))), (((0, 0, 1), 0, (0, 0, 0), (0, 0, 0)), (0, (0, 2, 0), (0, 0, 0))), (((0, 0, 160), 0, (0, 0, 0), (0, 0, 0)), (0, (0, 3, 0), (0, 0, 0)))], [some (1, 0, 0), some (1, 1, 0), some (1, 2, 0), some (1, 3, 0)], [], []), [(0, 0, 0), ((-1), 3, 0), (0, 0, 0)])
abbrev sn_101 : List se_Nd := [sn_101_0]
set_option maxRecDepth 100000 in
theorem sk_101 : se_chk0 se_tt [sc_80, sc_84, sc_100] se_Z 37 se_zt sc_101 sn_101 5 = true := by decide +kernel
set_option maxRecDepth 100000 in
theorem sk_101_0 : se_chkn se_tt [sc_80, sc_84, sc_100] se_Z 37 se_zt sc_101 sn_101 5 sn_101_0 = true := by decide +kernel
theorem sm_101 {ty : Nat → Option Nat} {J : List mm_C → Prop} {kx : Nat} {zs : List mm_Zt} (hO : se_Ok ty J kx zs) (h80 : se_Met ty se_tt J kx zs sc_80) (h84 : se_Met ty se_tt J kx zs sc_84) (h100 : se_Met ty se_tt J kx zs sc_100) : se_Met ty se_tt J kx zs sc_101 := se_sound (C := [sc_80, sc_84, sc_100]) hO.1 hO.2.1 hO.2.2 (fun n hn => by
  rcases List.mem_cons.mp hn with rfl | hn
  · exact h80
  rcases List.mem_cons.mp hn with rfl | hn
  · exact h84
  rcases List.mem_cons.mp hn with rfl | hn
  · exact h100
  exact absurd hn List.not_mem_nil) sk_101 (fun n hn => by
  rcases List.mem_cons.mp hn with rfl | hn
  · exact sk_101_0
  exact absurd hn List.not_mem_nil)
/-- RaftTown$Tape.readOr -/
def sc_102 : se_C := ((155, 22), ([(((82, 0, 0), 0, (0, 0, 0), (0, 0, 0)), (0, (0, 0, 0), (0, 0, 0))), (((0, 2, 2), 0, (0, 0, 0), (0, 0, 0)), (0, (0, 1, 0), (0, 0, 0)))], [some (1, 0, 0), some (1, 1, 0)], [], []), [([(((0, 0, 1), 0, (0, 0, 0), (0, 0, 0)), (0, (0, 0, 0), (0, 0, 0)))], some (1, 2, 0), [], [])], [(80, 3, 4), (80, 4, 5), (80, 5, 6), (80, 6, 7), (101, 0, 160), (110, 3, 4)])
def sn_102_0 : se_Nd := (8, ([(((82, 0, 0), 0, (0, 0, 0), (0, 0, 0)), (3, (0, 0, 0), (0, 0, 0))), (((0, 2, 2), 0, (0, 0, 0), (0, 0, 0)), (3, (0, 1, 0), (0, 0, 0))), (((0, 0, 1), 0, (0, 0, 0), (0, 0, 0)), (0, (0, 2, 0), (0, 0, 0))), (((0, 0, 160), 0, (0, 0, 0), (0, 0, 0)), (0, (0, 3, 0), (0, 0, 0)))], [some (1, 0, 0), some (1, 1, 0), some (1, 2, 0), some (1, 3, 0)], [], []), [(0, 0, 0), ((-1), 3, 0), (0, 0, 0)])
abbrev sn_102 : List se_Nd := [sn_102_0]
set_option maxRecDepth 100000 in
theorem sk_102 : se_chk0 se_tt [sc_80, sc_84, sc_101] se_Z 37 se_zt sc_102 sn_102 5 = true := by decide +kernel
set_option maxRecDepth 100000 in
theorem sk_102_0 : se_chkn se_tt [sc_80, sc_84, sc_101] se_Z 37 se_zt sc_102 sn_102 5 sn_102_0 = true := by decide +kernel
theorem sm_102 {ty : Nat → Option Nat} {J : List mm_C → Prop} {kx : Nat} {zs : List mm_Zt} (hO : se_Ok ty J kx zs) (h80 : se_Met ty se_tt J kx zs sc_80) (h84 : se_Met ty se_tt J kx zs sc_84) (h101 : se_Met ty se_tt J kx zs sc_101) : se_Met ty se_tt J kx zs sc_102 := se_sound (C := [sc_80, sc_84, sc_101]) hO.1 hO.2.1 hO.2.2 (fun n hn => by
  rcases List.mem_cons.mp hn with rfl | hn
  · exact h80
  rcases List.mem_cons.mp hn with rfl | hn
  · exact h84
  rcases List.mem_cons.mp hn with rfl | hn
  · exact h101
  exact absurd hn List.not_mem_nil) sk_102 (fun n hn => by
  rcases List.mem_cons.mp hn with rfl | hn
  · exact sk_102_0
  exact absurd hn List.not_mem_nil)
/-- RaftTown$Tape.readOne -/
def sc_103 : se_C := ((160, 23), ([(((82, 0, 0), 0, (0, 0, 0), (0, 0, 0)), (0, (0, 0, 0), (0, 0, 0))), (((0, 1, 1), 0, (0, 0, 0), (0, 0, 0)), (0, (0, 1, 0), (0, 0, 0)))], [some (1, 0, 0), some (1, 1, 0)], [], []), [([(((0, 0, 1), 0, (0, 0, 0), (0, 0, 0)), (0, (0, 0, 0), (0, 0, 0)))], some (1, 2, 0), [], [])], [(80, 3, 4), (80, 4, 5), (80, 5, 6), (80, 6, 7), (101, 0, 160), (110, 3, 4)])
abbrev sn_103 : List se_Nd := []
set_option maxRecDepth 100000 in
theorem sk_103 : se_chk0 se_tt [sc_80, sc_82, sc_84, sc_102] se_Z 37 se_zt sc_103 sn_103 5 = true := by decide +kernel
theorem sm_103 {ty : Nat → Option Nat} {J : List mm_C → Prop} {kx : Nat} {zs : List mm_Zt} (hO : se_Ok ty J kx zs) (h80 : se_Met ty se_tt J kx zs sc_80) (h82 : se_Met ty se_tt J kx zs sc_82) (h84 : se_Met ty se_tt J kx zs sc_84) (h102 : se_Met ty se_tt J kx zs sc_102) : se_Met ty se_tt J kx zs sc_103 := se_sound (C := [sc_80, sc_82, sc_84, sc_102]) hO.1 hO.2.1 hO.2.2 (fun n hn => by
  rcases List.mem_cons.mp hn with rfl | hn
  · exact h80
  rcases List.mem_cons.mp hn with rfl | hn
  · exact h82
  rcases List.mem_cons.mp hn with rfl | hn
  · exact h84
  rcases List.mem_cons.mp hn with rfl | hn
  · exact h102
  exact absurd hn List.not_mem_nil) sk_103 (fun _ hn => absurd hn List.not_mem_nil)
/-- RaftTown$Tape.readSum -/
def sc_104 : se_C := ((159, 24), ([(((82, 0, 0), 0, (0, 0, 0), (0, 0, 0)), (0, (0, 0, 0), (0, 0, 0))), (((0, 1, 1), 0, (0, 0, 0), (0, 0, 0)), (0, (0, 1, 0), (0, 0, 0)))], [some (1, 0, 0), some (1, 1, 0)], [], []), [([(((0, 0, 1), 0, (0, 0, 0), (0, 0, 0)), (0, (0, 0, 0), (0, 0, 0)))], some (1, 2, 0), [], [])], [(80, 3, 4), (80, 4, 5), (80, 5, 6), (80, 6, 7), (101, 0, 160), (110, 3, 4)])
def sn_104_0 : se_Nd := (8, ([(((82, 0, 0), 0, (0, 0, 0), (0, 0, 0)), (3, (0, 0, 0), (0, 0, 0))), (((0, 1, 1), 0, (0, 0, 0), (0, 0, 0)), (3, (0, 1, 0), (0, 0, 0))), (((0, 0, 1), 0, (0, 0, 0), (0, 0, 0)), (0, (0, 2, 0), (0, 0, 0))), (((0, 0, 160), 0, (0, 0, 0), (0, 0, 0)), (0, (0, 3, 0), (0, 0, 0)))], [some (1, 0, 0), some (1, 1, 0), some (1, 2, 0), some (1, 3, 0), none], [], []), [(0, 0, 0), ((-1), 3, 0), (0, 0, 0)])
abbrev sn_104 : List se_Nd := [sn_104_0]
set_option maxRecDepth 100000 in
theorem sk_104 : se_chk0 se_tt [sc_80, sc_84, sc_103] se_Z 37 se_zt sc_104 sn_104 5 = true := by decide +kernel
set_option maxRecDepth 100000 in
theorem sk_104_0 : se_chkn se_tt [sc_80, sc_84, sc_103] se_Z 37 se_zt sc_104 sn_104 5 sn_104_0 = true := by decide +kernel
theorem sm_104 {ty : Nat → Option Nat} {J : List mm_C → Prop} {kx : Nat} {zs : List mm_Zt} (hO : se_Ok ty J kx zs) (h80 : se_Met ty se_tt J kx zs sc_80) (h84 : se_Met ty se_tt J kx zs sc_84) (h103 : se_Met ty se_tt J kx zs sc_103) : se_Met ty se_tt J kx zs sc_104 := se_sound (C := [sc_80, sc_84, sc_103]) hO.1 hO.2.1 hO.2.2 (fun n hn => by
  rcases List.mem_cons.mp hn with rfl | hn
  · exact h80
  rcases List.mem_cons.mp hn with rfl | hn
  · exact h84
  rcases List.mem_cons.mp hn with rfl | hn
  · exact h103
  exact absurd hn List.not_mem_nil) sk_104 (fun n hn => by
  rcases List.mem_cons.mp hn with rfl | hn
  · exact sk_104_0
  exact absurd hn List.not_mem_nil)
