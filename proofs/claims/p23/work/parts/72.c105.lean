/-! ===== printed by wip/p2/gen_tab.py: contracts and their checks ===== -/
/-- RaftTown$Tape.readComparison -/
def sc_105 : se_C := ((158, 25), ([(((82, 0, 0), 0, (0, 0, 0), (0, 0, 0)), (0, (0, 0, 0), (0, 0, 0))), (((0, 1, 1), 0, (0, 0, 0), (0, 0, 0)), (0, (0, 1, 0), (0, 0, 0)))], [some (1, 0, 0), some (1, 1, 0)], [], []), [([(((0, 0, 1), 0, (0, 0, 0), (0, 0, 0)), (0, (0, 0, 0), (0, 0, 0)))], some (1, 2, 0), [], [])], [(80, 3, 4), (80, 4, 5), (80, 5, 6), (80, 6, 7), (101, 0, 160), (110, 3, 4)])
abbrev sn_105 : List se_Nd := []
set_option maxRecDepth 100000 in
theorem sk_105 : se_chk0 se_tt [sc_80, sc_84, sc_104] se_Z 37 se_zt sc_105 sn_105 5 = true := by decide +kernel
theorem sm_105 {ty : Nat → Option Nat} {J : List mm_C → Prop} {kx : Nat} {zs : List mm_Zt} (hO : se_Ok ty J kx zs) (h80 : se_Met ty se_tt J kx zs sc_80) (h84 : se_Met ty se_tt J kx zs sc_84) (h104 : se_Met ty se_tt J kx zs sc_104) : se_Met ty se_tt J kx zs sc_105 := se_sound (C := [sc_80, sc_84, sc_104]) hO.1 hO.2.1 hO.2.2 (fun n hn => by
  rcases List.mem_cons.mp hn with rfl | hn
  · exact h80
  rcases List.mem_cons.mp hn with rfl | hn
  · exact h84
  rcases List.mem_cons.mp hn with rfl | hn
  · exact h104
  exact absurd hn List.not_mem_nil) sk_105 (fun _ hn => absurd hn List.not_mem_nil)
/-- RaftTown$Tape.readNot -/
def sc_106 : se_C := ((157, 26), ([(((82, 0, 0), 0, (0, 0, 0), (0, 0, 0)), (0, (0, 0, 0), (0, 0, 0))), (((0, 1, 1), 0, (0, 0, 0), (0, 0, 0)), (0, (0, 1, 0), (0, 0, 0)))], [some (1, 0, 0), some (1, 1, 0)], [], []), [([(((0, 0, 1), 0, (0, 0, 0), (0, 0, 0)), (0, (0, 0, 0), (0, 0, 0)))], some (1, 2, 0), [], [])], [(80, 3, 4), (80, 4, 5), (80, 5, 6), (80, 6, 7), (101, 0, 160), (110, 3, 4)])
abbrev sn_106 : List se_Nd := []
set_option maxRecDepth 100000 in
theorem sk_106 : se_chk0 se_tt [sc_80, sc_84, sc_100, sc_105] se_Z 37 se_zt sc_106 sn_106 5 = true := by decide +kernel
theorem sm_106 {ty : Nat → Option Nat} {J : List mm_C → Prop} {kx : Nat} {zs : List mm_Zt} (hO : se_Ok ty J kx zs) (h80 : se_Met ty se_tt J kx zs sc_80) (h84 : se_Met ty se_tt J kx zs sc_84) (h100 : se_Met ty se_tt J kx zs sc_100) (h105 : se_Met ty se_tt J kx zs sc_105) : se_Met ty se_tt J kx zs sc_106 := se_sound (C := [sc_80, sc_84, sc_100, sc_105]) hO.1 hO.2.1 hO.2.2 (fun n hn => by
  rcases List.mem_cons.mp hn with rfl | hn
  · exact h80
  rcases List.mem_cons.mp hn with rfl | hn
  · exact h84
  rcases List.mem_cons.mp hn with rfl | hn
  · exact h100
  rcases List.mem_cons.mp hn with rfl | hn
  · exact h105
  exact absurd hn List.not_mem_nil) sk_106 (fun _ hn => absurd hn List.not_mem_nil)
/-- RaftTown$Tape.readAnd -/
def sc_107 : se_C := ((156, 27), ([(((82, 0, 0), 0, (0, 0, 0), (0, 0, 0)), (0, (0, 0, 0), (0, 0, 0))), (((0, 1, 1), 0, (0, 0, 0), (0, 0, 0)), (0, (0, 1, 0), (0, 0, 0)))], [some (1, 0, 0), some (1, 1, 0)], [], []), [([(((0, 0, 1), 0, (0, 0, 0), (0, 0, 0)), (0, (0, 0, 0), (0, 0, 0)))], some (1, 2, 0), [], [])], [(80, 3, 4), (80, 4, 5), (80, 5, 6), (80, 6, 7), (101, 0, 160), (110, 3, 4)])
def sn_107_0 : se_Nd := (8, ([(((82, 0, 0), 0, (0, 0, 0), (0, 0, 0)), (3, (0, 0, 0), (0, 0, 0))), (((0, 1, 1), 0, (0, 0, 0), (0, 0, 0)), (3, (0, 1, 0), (0, 0, 0))), (((0, 0, 1), 0, (0, 0, 0), (0, 0, 0)), (0, (0, 2, 0), (0, 0, 0))), (((0, 0, 160), 0, (0, 0, 0), (0, 0, 0)), (0, (0, 3, 0), (0, 0, 0)))], [some (1, 0, 0), some (1, 1, 0), some (1, 2, 0), some (1, 3, 0)], [], []), [(0, 0, 0), ((-1), 3, 0), (0, 0, 0)])
abbrev sn_107 : List se_Nd := [sn_107_0]
set_option maxRecDepth 100000 in
theorem sk_107 : se_chk0 se_tt [sc_80, sc_84, sc_106] se_Z 37 se_zt sc_107 sn_107 5 = true := by decide +kernel
set_option maxRecDepth 100000 in
theorem sk_107_0 : se_chkn se_tt [sc_80, sc_84, sc_106] se_Z 37 se_zt sc_107 sn_107 5 sn_107_0 = true := by decide +kernel
theorem sm_107 {ty : Nat → Option Nat} {J : List mm_C → Prop} {kx : Nat} {zs : List mm_Zt} (hO : se_Ok ty J kx zs) (h80 : se_Met ty se_tt J kx zs sc_80) (h84 : se_Met ty se_tt J kx zs sc_84) (h106 : se_Met ty se_tt J kx zs sc_106) : se_Met ty se_tt J kx zs sc_107 := se_sound (C := [sc_80, sc_84, sc_106]) hO.1 hO.2.1 hO.2.2 (fun n hn => by
  rcases List.mem_cons.mp hn with rfl | hn
  · exact h80
  rcases List.mem_cons.mp hn with rfl | hn
  · exact h84
  rcases List.mem_cons.mp hn with rfl | hn
  · exact h106
  exact absurd hn List.not_mem_nil) sk_107 (fun n hn => by
  rcases List.mem_cons.mp hn with rfl | hn
  · exact sk_107_0
  exact absurd hn List.not_mem_nil)
/-- RaftTown$Tape.readOr -/
def sc_108 : se_C := ((155, 28), ([(((82, 0, 0), 0, (0, 0, 0), (0, 0, 0)), (0, (0, 0, 0), (0, 0, 0))), (((0, 1, 1), 0, (0, 0, 0), (0, 0, 0)), (0, (0, 1, 0), (0, 0, 0)))], [some (1, 0, 0), some (1, 1, 0)], [], []), [([(((0, 0, 1), 0, (0, 0, 0), (0, 0, 0)), (0, (0, 0, 0), (0, 0, 0)))], some (1, 2, 0), [], [])], [(80, 3, 4), (80, 4, 5), (80, 5, 6), (80, 6, 7), (101, 0, 160), (110, 3, 4)])
def sn_108_0 : se_Nd := (8, ([(((82, 0, 0), 0, (0, 0, 0), (0, 0, 0)), (3, (0, 0, 0), (0, 0, 0))), (((0, 1, 1), 0, (0, 0, 0), (0, 0, 0)), (3, (0, 1, 0), (0, 0, 0))), (((0, 0, 1), 0, (0, 0, 0), (0, 0, 0)), (0, (0, 2, 0), (0, 0, 0))), (((0, 0, 160), 0, (0, 0, 0), (0, 0, 0)), (0, (0, 3, 0), (0, 0, 0)))], [some (1, 0, 0), some (1, 1, 0), some (1, 2, 0), some (1, 3, 0)], [], []), [(0, 0, 0), ((-1), 3, 0), (0, 0, 0)])
abbrev sn_108 : List se_Nd := [sn_108_0]
set_option maxRecDepth 100000 in
theorem sk_108 : se_chk0 se_tt [sc_80, sc_84, sc_107] se_Z 37 se_zt sc_108 sn_108 5 = true := by decide +kernel
set_option maxRecDepth 100000 in
theorem sk_108_0 : se_chkn se_tt [sc_80, sc_84, sc_107] se_Z 37 se_zt sc_108 sn_108 5 sn_108_0 = true := by decide +kernel
theorem sm_108 {ty : Nat → Option Nat} {J : List mm_C → Prop} {kx : Nat} {zs : List mm_Zt} (hO : se_Ok ty J kx zs) (h80 : se_Met ty se_tt J kx zs sc_80) (h84 : se_Met ty se_tt J kx zs sc_84) (h107 : se_Met ty se_tt J kx zs sc_107) : se_Met ty se_tt J kx zs sc_108 := se_sound (C := [sc_80, sc_84, sc_107]) hO.1 hO.2.1 hO.2.2 (fun n hn => by
  rcases List.mem_cons.mp hn with rfl | hn
  · exact h80
  rcases List.mem_cons.mp hn with rfl | hn
  · exact h84
  rcases List.mem_cons.mp hn with rfl | hn
  · exact h107
  exact absurd hn List.not_mem_nil) sk_108 (fun n hn => by
  rcases List.mem_cons.mp hn with rfl | hn
  · exact sk_108_0
  exact absurd hn List.not_mem_nil)
/-- RaftTown$Tape.readOne -/
def sc_109 : se_C := ((160, 29), ([(((82, 0, 0), 0, (0, 0, 0), (0, 0, 0)), (0, (0, 0, 0), (0, 0, 0))), (((0, 0, 0), 0, (0, 0, 0), (0, 0, 0)), (0, (0, 1, 0), (0, 0, 0)))], [some (1, 0, 0), some (1, 1, 0)], [], []), [([(((0, 0, 1), 0, (0, 0, 0), (0, 0, 0)), (0, (0, 0, 0), (0, 0, 0)))], some (1, 2, 0), [], [])], [(80, 3, 4), (80, 4, 5), (80, 5, 6), (80, 6, 7), (101, 0, 160), (110, 3, 4)])
abbrev sn_109 : List se_Nd := []
set_option maxRecDepth 100000 in
theorem sk_109 : se_chk0 se_tt [sc_80, sc_82, sc_84, sc_108] se_Z 37 se_zt sc_109 sn_109 5 = true := by decide +kernel
theorem sm_109 {ty : Nat → Option Nat} {J : List mm_C → Prop} {kx : Nat} {zs : List mm_Zt} (hO : se_Ok ty J kx zs) (h80 : se_Met ty se_tt J kx zs sc_80) (h82 : se_Met ty se_tt J kx zs sc_82) (h84 : se_Met ty se_tt J kx zs sc_84) (h108 : se_Met ty se_tt J kx zs sc_108) : se_Met ty se_tt J kx zs sc_109 := se_sound (C := [sc_80, sc_82, sc_84, sc_108]) hO.1 hO.2.1 hO.2.2 (fun n hn => by
  rcases List.mem_cons.mp hn with rfl | hn
  · exact h80
  rcases List.mem_cons.mp hn with rfl | hn
  · exact h82
  rcases List.mem_cons.mp hn with rfl | hn
  · exact h84
  rcases List.mem_cons.mp hn with rfl | hn
  · exact h108
  exact absurd hn List.not_mem_nil) sk_109 (fun _ hn => absurd hn List.not_mem_nil)
/-- RaftTown$Tape.readSum -/
def sc_110 : se_C := ((159, 30), ([(((82, 0, 0), 0, (0, 0, 0), (0, 0, 0)), (0, (0, 0, 0), (0, 0, 0))), (((0, 0, 0), 0, (0, 0, 0), (0, 0, 0)), (0, (0, 1, 0), (0, 0, 0)))], [some (1, 0, 0), some (1, 1, 0)], [], []), [([(((0, 0, 1), 0, (0, 0, 0), (0, 0, 0)), (0, (0, 0, 0), (0, 0, 0)))], some (1, 2, 0), [], [])], [(80, 3, 4), (80, 4, 5), (80, 5, 6), (80, 6, 7), (101, 0, 160), (110, 3, 4)])
def sn_110_0 : se_Nd := (8, ([(((82, 0, 0), 0, (0, 0, 0), (0, 0, 0)), (3, (0, 0, 0), (0, 0, 0))), (((0, 0, 0), 0, (0, 0, 0), (0, 0, 0)), (3, (0, 1, 0), (0, 0, 0))), (((0, 0, 1), 0, (0, 0, 0), (0, 0, 0)), (0, (0, 2, 0), (0, 0, 0))), (((0, 0, 160), 0, (0, 0, 0), (0, 0, 0)), (0, (0, 3, 0), (0, 0, 0)))], [some (1, 0, 0), some (1, 1, 0), some (1, 2, 0), some (1, 3, 0), none], [], []), [(0, 0, 0), ((-1), 3, 0), (0, 0, 0)])
abbrev sn_110 : List se_Nd := [sn_110_0]
set_option maxRecDepth 100000 in
theorem sk_110 : se_chk0 se_tt [sc_80, sc_84, sc_109] se_Z 37 se_zt sc_110 sn_110 5 = true := by decide +kernel
set_option maxRecDepth 100000 in
theorem sk_110_0 : se_chkn se_tt [sc_80, sc_84, sc_109] se_Z 37 se_zt sc_110 sn_110 5 sn_110_0 = true := by decide +kernel
theorem sm_110 {ty : Nat → Option Nat} {J : List mm_C → Prop} {kx : Nat} {zs : List mm_Zt} (hO : se_Ok ty J kx zs) (h80 : se_Met ty se_tt J kx zs sc_80) (h84 : se_Met ty se_tt J kx zs sc_84) (h109 : se_Met ty se_tt J kx zs sc_109) : se_Met ty se_tt J kx zs sc_110 := se_sound (C := [sc_80, sc_84, sc_109]) hO.1 hO.2.1 hO.2.2 (fun n hn => by
  rcases List.mem_cons.mp hn with rfl | hn
  · exact h80
  rcases List.mem_cons.mp hn with rfl | hn
  · exact h84
  rcases List.mem_cons.mp hn with rfl | hn
  · exact h109
  exact absurd hn List.not_mem_nil) sk_110 (fun n hn => by
  rcases List.mem_cons.mp hn with rfl | hn
  · exact sk_110_0
  exact absurd hn List.not_mem_nil)
/-- RaftTown$Tape.readComparison -/
def sc_111 : se_C := ((158, 31), ([(((82, 0, 0), 0, (0, 0, 0), (0, 0, 0)), (0, (0, 0, 0), (0, 0, 0))), (((0, 0, 0), 0, (0, 0, 0), (0, 0, 0)), (0, (0, 1, 0), (0, 0, 0)))], [some (1, 0, 0), some (1, 1, 0)], [], []), [([(((0, 0, 1), 0, (0, 0, 0), (0, 0, 0)), (0, (0, 0, 0), (0, 0, 0)))], some (1, 2, 0), [], [])], [(80, 3, 4), (80, 4, 5), (80, 5, 6), (80, 6, 7), (101, 0, 160), (110, 3, 4)])
abbrev sn_111 : List se_Nd := []
set_option maxRecDepth 100000 in
theorem sk_111 : se_chk0 se_tt [sc_80, sc_84, sc_110] se_Z 37 se_zt sc_111 sn_111 5 = true := by decide +kernel
theorem sm_111 {ty : Nat → Option Nat} {J : List mm_C → Prop} {kx : Nat} {zs : List mm_Zt} (hO : se_Ok ty J kx zs) (h80 : se_Met ty se_tt J kx zs sc_80) (h84 : se_Met ty se_tt J kx zs sc_84) (h110 : se_Met ty se_tt J kx zs sc_110) : se_Met ty se_tt J kx zs sc_111 := se_sound (C := [sc_80, sc_84, sc_110]) hO.1 hO.2.1 hO.2.2 (fun n hn => by
  rcases List.mem_cons.mp hn with rfl | hn
  · exact h80
  rcases List.mem_cons.mp hn with rfl | hn
  · exact h84
  rcases List.mem_cons.mp hn with rfl | hn
  · exact h110
  exact absurd hn List.not_mem_nil) sk_111 (fun _ hn => absurd hn List.not_mem_nil)
/-- RaftTown$Tape.readNot -/
def sc_112 : se_C := ((157, 32), ([(((82, 0, 0), 0, (0, 0, 0), (0, 0, 0)), (0, (0, 0, 0), (0, 0, 0))), (((0, 0, 0), 0, (0, 0, 0), (0, 0, 0)), (0, (0, 1, 0), (0, 0, 0)))], [some (1, 0, 0), some (1, 1, 0)], [], []), [([(((0, 0, 1), 0, (0, 0, 0), (0, 0, 0)), (0, (0, 0, 0), (0, 0, 0)))], some (1, 2, 0), [], [])], [(80, 3, 4), (80, 4, 5), (80, 5, 6), (80, 6, 7), (101, 0, 160), (110, 3, 4)])
abbrev sn_112 : List se_Nd := []
set_option maxRecDepth 100000 in
theorem sk_112 : se_chk0 se_tt [sc_80, sc_84, sc_106, sc_111] se_Z 37 se_zt sc_112 sn_112 5 = true := by decide +kernel
theorem sm_112 {ty : Nat → Option Nat} {J : List mm_C → Prop} {kx : Nat} {zs : List mm_Zt} (hO : se_Ok ty J kx zs) (h80 : se_Met ty se_tt J kx zs sc_80) (h84 : se_Met ty se_tt J kx zs sc_84) (h106 : se_Met ty se_tt J kx zs sc_106) (h111 : se_Met ty se_tt J kx zs sc_111) : se_Met ty se_tt J kx zs sc_112 := se_sound (C := [sc_80, sc_84, sc_106, sc_111]) hO.1 hO.2.1 hO.2.2 (fun n hn => by
  rcases List.mem_cons.mp hn with rfl | hn
  · exact h80
  rcases List.mem_cons.mp hn with rfl | hn
  · exact h84
  rcases List.mem_cons.mp hn with rfl | hn
  · exact h106
  rcases List.mem_cons.mp hn with rfl | hn
  · exact h111
  exact absurd hn List.not_mem_nil) sk_112 (fun _ hn => absurd hn List.not_mem_nil)
/-- RaftTown$Tape.readAnd -/
def sc_113 : se_C := ((156, 33), ([(((82, 0, 0), 0, (0, 0, 0), (0, 0, 0)), (0, (0, 0, 0), (0, 0, 0))), (((0, 0, 0), 0, (0, 0, 0), (0, 0, 0)), (0, (0, 1, 0), (0, 0, 0)))], [some (1, 0, 0), some (1, 1, 0)], [], []), [([(((0, 0, 1), 0, (0, 0, 0), (0, 0, 0)), (0, (0, 0, 0), (0, 0, 0)))], some (1, 2, 0), [], [])], [(80, 3, 4), (80, 4, 5), (80, 5, 6), (80, 6, 7), (101, 0, 160), (110, 3, 4)])
def sn_113_0 : se_Nd := (8, ([(((82, 0, 0), 0, (0, 0, 0), (0, 0, 0)), (3, (0, 0, 0), (0, 0, 0))), (((0, 0, 0), 0, (0, 0, 0), (0, 0, 0)), (3, (0, 1, 0), (0, 0, 0))), (((0, 0, 1), 0, (0, 0, 0), (0, 0, 0)), (0, (0, 2, 0), (0, 0, 0))), (((0, 0, 160), 0, (0, 0, 0), (0, 0, 0)), (0, (0, 3, 0), (0, 0, 0)))], [some (1, 0, 0), some (1, 1, 0), some (1, 2, 0), some (1, 3, 0)], [], []), [(0, 0, 0), ((-1), 3, 0), (0, 0, 0)])
abbrev sn_113 : List se_Nd := [sn_113_0]
set_option maxRecDepth 100000 in
theorem sk_113 : se_chk0 se_tt [sc_80, sc_84, sc_112] se_Z 37 se_zt sc_113 sn_113 5 = true := by decide +kernel
set_option maxRecDepth 100000 in
theorem sk_113_0 : se_chkn se_tt [sc_80, sc_84, sc_112] se_Z 37 se_zt sc_113 sn_113 5 sn_113_0 = true := by decide +kernel
theorem sm_113 {ty : Nat → Option Nat} {J : List mm_C → Prop} {kx : Nat} {zs : List mm_Zt} (hO : se_Ok ty J kx zs) (h80 : se_Met ty se_tt J kx zs sc_80) (h84 : se_Met ty se_tt J kx zs sc_84) (h112 : se_Met ty se_tt J kx zs sc_112) : se_Met ty se_tt J kx zs sc_113 := se_sound (C := [sc_80, sc_84, sc_112]) hO.1 hO.2.1 hO.2.2 (fun n hn => by
  rcases List.mem_cons.mp hn with rfl | hn
  · exact h80
  rcases List.mem_cons.mp hn with rfl | hn
  · exact h84
  rcases List.mem_cons.mp hn with rfl | hn
  · exact h112
  exact absurd hn List.not_mem_nil) sk_113 (fun n hn => by
  rcases List.mem_cons.mp hn with rfl | hn
  · exact sk_113_0
  exact absurd hn List.not_mem_nil)
/-- RaftTown$Tape.readOr -/
def sc_114 : se_C := ((155, 34), ([(((82, 0, 0), 0, (0, 0, 0), (0, 0, 0)), (0, (0, 0, 0), (0, 0, 0))), (((0, 0, 0), 0, (0, 0, 0), (0, 0, 0)), (0, (0, 1, 0), (0, 0, 0)))], [some (1, 0, 0), some (1, 1, 0)], [], []), [([(((0, 0, 1), 0, (0, 0, 0), (0, 0, 0)), (0, (0, 0, 0), (0, 0, 0)))], some (1, 2, 0), [], [])], [(80, 3, 4), (80, 4, 5), (80, 5, 6), (80, 6, 7), (101, 0, 160), (110, 3, 4)])
def sn_114_0 : se_Nd := (8, ([(((82, 0, 0), 0, (0, 0, 0), (0, 0, 0)), (3, (0, 0, 0), (0, 0, 0))), (((0, 0, 0), 0, (0, 0, 0), (0, 0, 0)), (3, (0, 1, 0), (0, 0, 0))), (((0, 0, 1), 0, (0, 0, 0), (0, 0, 0)), (0, (0, 2, 0), (0, 0, 0))), (((0, 0, 160), 0, (0, 0, 0), (0, 0, 0)), (0, (0, 3, 0), (0, 0, 0)))], [some (1, 0, 0), some (1, 1, 0), some (1, 2, 0), some (1, 3, 0)], [], []), [(0, 0, 0), ((-1), 3, 0), (0, 0, 0)])
abbrev sn_114 : List se_Nd := [sn_114_0]
set_option maxRecDepth 100000 in
theorem sk_114 : se_chk0 se_tt [sc_80, sc_84, sc_113] se_Z 37 se_zt sc_114 sn_114 5 = true := by decide +kernel
set_option maxRecDepth 100000 in
theorem sk_114_0 : se_chkn se_tt [sc_80, sc_84, sc_113] se_Z 37 se_zt sc_114 sn_114 5 sn_114_0 = true := by decide +kernel
theorem sm_114 {ty : Nat → Option Nat} {J : List mm_C → Prop} {kx : Nat} {zs : List mm_Zt} (hO : se_Ok ty J kx zs) (h80 : se_Met ty se_tt J kx zs sc_80) (h84 : se_Met ty se_tt J kx zs sc_84) (h113 : se_Met ty se_tt J kx zs sc_113) : se_Met ty se_tt J kx zs sc_114 := se_sound (C := [sc_80, sc_84, sc_113]) hO.1 hO.2.1 hO.2.2 (fun n hn => by
  rcases List.mem_cons.mp hn with rfl | hn
  · exact h80
  rcases List.mem_cons.mp hn with rfl | hn
  · exact h84
  rcases List.mem_cons.mp hn with rfl | hn
  · exact h113
  exact absurd hn List.not_mem_nil) sk_114 (fun n hn => by
  rcases List.mem_cons.mp hn with rfl | hn
  · exact sk_114_0
  exact absurd hn List.not_mem_nil)
/-- RaftTown$Text.endClause -/
def sc_115 : se_C := ((163, 1), ([(((83, 0, 0), 0, (0, 0, 0), (0, 0, 0)), (0, (0, 0, 0), (0, 0, 0))), (((0, (-2147483648), 2147483647), 0, (0, 0, 0), (0, 0, 0)), (0, (0, 1, 0), (0, 0, 0)))], [some (1, 0, 0), some (1, 1, 0)], [], []), [([], none, [], [])], [(55, 0, 3)])
abbrev sn_115 : List se_Nd := []
set_option maxRecDepth 100000 in
theorem sk_115 : se_chk0 se_tt [] se_Z 37 se_zt sc_115 sn_115 5 = true := by decide +kernel
theorem sm_115 {ty : Nat → Option Nat} {J : List mm_C → Prop} {kx : Nat} {zs : List mm_Zt} (hO : se_Ok ty J kx zs) : se_Met ty se_tt J kx zs sc_115 := se_sound (C := []) hO.1 hO.2.1 hO.2.2 (fun _ hn => absurd hn List.not_mem_nil) sk_115 (fun _ hn => absurd hn List.not_mem_nil)
/-- RaftTown$Text.endClause -/
def sc_116 : se_C := ((163, 1), ([(((112, 0, 0), 0, (0, 0, 0), (0, 0, 0)), (0, (0, 0, 0), (0, 0, 0))), (((0, (-2147483648), 2147483647), 0, (0, 0, 0), (0, 0, 0)), (0, (0, 1, 0), (0, 0, 0)))], [some (1, 0, 0), some (1, 1, 0)], [], []), [([], none, [], [])], [(102, 0, 3)])
abbrev sn_116 : List se_Nd := []
set_option maxRecDepth 100000 in
theorem sk_116 : se_chk0 se_tt [] se_Z 37 se_zt sc_116 sn_116 5 = true := by decide +kernel
theorem sm_116 {ty : Nat → Option Nat} {J : List mm_C → Prop} {kx : Nat} {zs : List mm_Zt} (hO : se_Ok ty J kx zs) : se_Met ty se_tt J kx zs sc_116 := se_sound (C := []) hO.1 hO.2.1 hO.2.2 (fun _ hn => absurd hn List.not_mem_nil) sk_116 (fun _ hn => absurd hn List.not_mem_nil)
/-- RaftTown$Tape.read -/
def sc_117 : se_C := ((131, 35), ([(((82, 0, 0), 0, (0, 0, 0), (0, 0, 0)), (0, (0, 0, 0), (0, 0, 0)))], [some (1, 0, 0)], [], []), [([(((0, (-2147483648), 2147483647), 0, (0, 0, 0), (0, 0, 0)), (0, (0, 0, 0), (0, 0, 0)))], some (1, 1, 0), [], [])], [(80, 1, 2), (80, 3, 4), (80, 4, 5), (80, 5, 6), (80, 6, 7), (101, 0, 160), (102, 0, 3), (110, 0, 1), (110, 3, 4)])
abbrev sn_117 : List se_Nd := []
set_option maxRecDepth 100000 in
theorem sk_117 : se_chk0 se_tt [sc_62, sc_80, sc_114, sc_116] se_Z 37 se_zt sc_117 sn_117 8 = true := by decide +kernel
theorem sm_117 {ty : Nat → Option Nat} {J : List mm_C → Prop} {kx : Nat} {zs : List mm_Zt} (hO : se_Ok ty J kx zs) (h62 : se_Met ty se_tt J kx zs sc_62) (h80 : se_Met ty se_tt J kx zs sc_80) (h114 : se_Met ty se_tt J kx zs sc_114) (h116 : se_Met ty se_tt J kx zs sc_116) : se_Met ty se_tt J kx zs sc_117 := se_sound (C := [sc_62, sc_80, sc_114, sc_116]) hO.1 hO.2.1 hO.2.2 (fun n hn => by
  rcases List.mem_cons.mp hn with rfl | hn
  · exact h62
  rcases List.mem_cons.mp hn with rfl | hn
  · exact h80
  rcases List.mem_cons.mp hn with rfl | hn
  · exact h114
  rcases List.mem_cons.mp hn with rfl | hn
  · exact h116
  exact absurd hn List.not_mem_nil) sk_117 (fun _ hn => absurd hn List.not_mem_nil)
/-- RaftTown$Text.take -/
def sc_118 : se_C := ((164, 1), ([(((83, 0, 0), 0, (0, 0, 0), (0, 0, 0)), (0, (0, 0, 0), (0, 0, 0))), (((112, 0, 0), 0, (0, 0, 0), (0, 0, 0)), (0, (0, 1, 0), (0, 0, 0)))], [some (1, 0, 0), some (1, 1, 0)], [], []), [([], none, [], [])], [(54, 0, 160), (55, 0, 3), (81, 0, 1), (81, 3, 4)])
abbrev sn_118 : List se_Nd := []
set_option maxRecDepth 100000 in
theorem sk_118 : se_chk0 se_tt [] se_Z 37 se_zt sc_118 sn_118 5 = true := by decide +kernel
theorem sm_118 {ty : Nat → Option Nat} {J : List mm_C → Prop} {kx : Nat} {zs : List mm_Zt} (hO : se_Ok ty J kx zs) : se_Met ty se_tt J kx zs sc_118 := se_sound (C := []) hO.1 hO.2.1 hO.2.2 (fun _ hn => absurd hn List.not_mem_nil) sk_118 (fun _ hn => absurd hn List.not_mem_nil)
/-- RaftTown$Text.take -/
def sc_119 : se_C := ((164, 1), ([(((111, 0, 0), 0, (0, 0, 0), (0, 0, 0)), (0, (0, 0, 0), (0, 0, 0))), (((83, 0, 0), 0, (0, 0, 0), (0, 0, 0)), (0, (0, 1, 0), (0, 0, 0)))], [some (1, 0, 0), some (1, 1, 0)], [], []), [([], none, [], [])], [(99, 0, 160), (100, 0, 3), (109, 0, 1), (109, 3, 4)])
abbrev sn_119 : List se_Nd := []
set_option maxRecDepth 100000 in
theorem sk_119 : se_chk0 se_tt [] se_Z 37 se_zt sc_119 sn_119 5 = true := by decide +kernel
theorem sm_119 {ty : Nat → Option Nat} {J : List mm_C → Prop} {kx : Nat} {zs : List mm_Zt} (hO : se_Ok ty J kx zs) : se_Met ty se_tt J kx zs sc_119 := se_sound (C := []) hO.1 hO.2.1 hO.2.2 (fun _ hn => absurd hn List.not_mem_nil) sk_119 (fun _ hn => absurd hn List.not_mem_nil)
