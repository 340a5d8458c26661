/-! ===== printed by wip/p2/gen_tab.py: contracts and their checks ===== -/
/-- RaftTown$Tape.readOne -/
def sc_75 : se_C := ((160, 5), ([(((82, 0, 0), 0, (0, 0, 0), (0, 0, 0)), (0, (0, 0, 0), (0, 0, 0))), (((0, 4, 4), 0, (0, 0, 0), (0, 0, 0)), (0, (0, 1, 0), (0, 0, 0)))], [some (1, 0, 0), some (1, 1, 0)], [], []), [([(((0, 0, 1), 0, (0, 0, 0), (0, 0, 0)), (0, (0, 0, 0), (0, 0, 0)))], some (1, 2, 0), [], [])], [(54, 0, 160), (80, 3, 4), (80, 4, 5), (80, 5, 6), (80, 6, 7), (81, 3, 4)])
abbrev sn_75 : List se_Nd := []
set_option maxRecDepth 100000 in
theorem sk_75 : se_chk0 se_tt [sc_74] se_Z 37 se_zt sc_75 sn_75 6 = true := by decide +kernel
theorem sm_75 {ty : Nat → Option Nat} {J : List mm_C → Prop} {kx : Nat} {zs : List mm_Zt} (hO : se_Ok ty J kx zs) (h74 : se_Met ty se_tt J kx zs sc_74) : se_Met ty se_tt J kx zs sc_75 := se_sound (C := [sc_74]) hO.1 hO.2.1 hO.2.2 (fun n hn => by
  rcases List.mem_cons.mp hn with rfl | hn
  · exact h74
  exact absurd hn List.not_mem_nil) sk_75 (fun _ hn => absurd hn List.not_mem_nil)
/-- RaftTown$Tape.readSum -/
def sc_76 : se_C := ((159, 6), ([(((82, 0, 0), 0, (0, 0, 0), (0, 0, 0)), (0, (0, 0, 0), (0, 0, 0))), (((0, 4, 4), 0, (0, 0, 0), (0, 0, 0)), (0, (0, 1, 0), (0, 0, 0)))], [some (1, 0, 0), some (1, 1, 0)], [], []), [([(((0, 0, 1), 0, (0, 0, 0), (0, 0, 0)), (0, (0, 0, 0), (0, 0, 0)))], some (1, 2, 0), [], [])], [(54, 0, 160), (80, 3, 4), (80, 4, 5), (80, 5, 6), (80, 6, 7), (81, 3, 4)])
def sn_76_0 : se_Nd := (8, ([(((82, 0, 0), 0, (0, 0, 0), (0, 0, 0)), (3, (0, 0, 0), (0, 0, 0))), (((0, 4, 4), 0, (0, 0, 0), (0, 0, 0)), (3, (0, 1, 0), (0, 0, 0))), (((0, 0, 1), 0, (0, 0, 0), (0, 0, 0)), (0, (0, 2, 0), (0, 0, 0))), (((0, 0, 160), 0, (0, 0, 0), (0, 0, 0)), (0, (0, 3, 0), (0, 0, 0)))], [some (1, 0, 0), some (1, 1, 0), some (1, 2, 0), some (1, 3, 0), none], [], []), [(0, 0, 0), ((-1), 3, 0), (0, 0, 0)])
abbrev sn_76 : List se_Nd := [sn_76_0]
set_option maxRecDepth 100000 in
theorem sk_76 : se_chk0 se_tt [sc_74, sc_75] se_Z 37 se_zt sc_76 sn_76 6 = true := by decide +kernel
set_option maxRecDepth 100000 in
theorem sk_76_0 : se_chkn se_tt [sc_74, sc_75] se_Z 37 se_zt sc_76 sn_76 6 sn_76_0 = true := by decide +kernel
theorem sm_76 {ty : Nat → Option Nat} {J : List mm_C → Prop} {kx : Nat} {zs : List mm_Zt} (hO : se_Ok ty J kx zs) (h74 : se_Met ty se_tt J kx zs sc_74) (h75 : se_Met ty se_tt J kx zs sc_75) : se_Met ty se_tt J kx zs sc_76 := se_sound (C := [sc_74, sc_75]) hO.1 hO.2.1 hO.2.2 (fun n hn => by
  rcases List.mem_cons.mp hn with rfl | hn
  · exact h74
  rcases List.mem_cons.mp hn with rfl | hn
  · exact h75
  exact absurd hn List.not_mem_nil) sk_76 (fun n hn => by
  rcases List.mem_cons.mp hn with rfl | hn
  · exact sk_76_0
  exact absurd hn List.not_mem_nil)
/-- RaftTown$Tape.readComparison -/
def sc_77 : se_C := ((158, 7), ([(((82, 0, 0), 0, (0, 0, 0), (0, 0, 0)), (0, (0, 0, 0), (0, 0, 0))), (((0, 4, 4), 0, (0, 0, 0), (0, 0, 0)), (0, (0, 1, 0), (0, 0, 0)))], [some (1, 0, 0), some (1, 1, 0)], [], []), [([(((0, 0, 1), 0, (0, 0, 0), (0, 0, 0)), (0, (0, 0, 0), (0, 0, 0)))], some (1, 2, 0), [], [])], [(54, 0, 160), (80, 3, 4), (80, 4, 5), (80, 5, 6), (80, 6, 7), (81, 3, 4)])
abbrev sn_77 : List se_Nd := []
set_option maxRecDepth 100000 in
theorem sk_77 : se_chk0 se_tt [sc_74, sc_76] se_Z 37 se_zt sc_77 sn_77 6 = true := by decide +kernel
theorem sm_77 {ty : Nat → Option Nat} {J : List mm_C → Prop} {kx : Nat} {zs : List mm_Zt} (hO : se_Ok ty J kx zs) (h74 : se_Met ty se_tt J kx zs sc_74) (h76 : se_Met ty se_tt J kx zs sc_76) : se_Met ty se_tt J kx zs sc_77 := se_sound (C := [sc_74, sc_76]) hO.1 hO.2.1 hO.2.2 (fun n hn => by
  rcases List.mem_cons.mp hn with rfl | hn
  · exact h74
  rcases List.mem_cons.mp hn with rfl | hn
  · exact h76
  exact absurd hn List.not_mem_nil) sk_77 (fun _ hn => absurd hn List.not_mem_nil)
/-- RaftTown$Tape.readNot -/
def sc_78 : se_C := ((157, 8), ([(((82, 0, 0), 0, (0, 0, 0), (0, 0, 0)), (0, (0, 0, 0), (0, 0, 0))), (((0, 4, 4), 0, (0, 0, 0), (0, 0, 0)), (0, (0, 1, 0), (0, 0, 0)))], [some (1, 0, 0), some (1, 1, 0)], [], []), [([(((0, 0, 1), 0, (0, 0, 0), (0, 0, 0)), (0, (0, 0, 0), (0, 0, 0)))], some (1, 2, 0), [], [])], [(54, 0, 160), (80, 3, 4), (80, 4, 5), (80, 5, 6), (80, 6, 7), (81, 3, 4)])
abbrev sn_78 : List se_Nd := []
set_option maxRecDepth 100000 in
theorem sk_78 : se_chk0 se_tt [sc_77] se_Z 37 se_zt sc_78 sn_78 4 = true := by decide +kernel
theorem sm_78 {ty : Nat → Option Nat} {J : List mm_C → Prop} {kx : Nat} {zs : List mm_Zt} (hO : se_Ok ty J kx zs) (h77 : se_Met ty se_tt J kx zs sc_77) : se_Met ty se_tt J kx zs sc_78 := se_sound (C := [sc_77]) hO.1 hO.2.1 hO.2.2 (fun n hn => by
  rcases List.mem_cons.mp hn with rfl | hn
  · exact h77
  exact absurd hn List.not_mem_nil) sk_78 (fun _ hn => absurd hn List.not_mem_nil)
/-- RaftTown$Tape.readAnd -/
def sc_79 : se_C := ((156, 9), ([(((82, 0, 0), 0, (0, 0, 0), (0, 0, 0)), (0, (0, 0, 0), (0, 0, 0))), (((0, 4, 4), 0, (0, 0, 0), (0, 0, 0)), (0, (0, 1, 0), (0, 0, 0)))], [some (1, 0, 0), some (1, 1, 0)], [], []), [([(((0, 0, 1), 0, (0, 0, 0), (0, 0, 0)), (0, (0, 0, 0), (0, 0, 0)))], some (1, 2, 0), [], [])], [(54, 0, 160), (80, 3, 4), (80, 4, 5), (80, 5, 6), (80, 6, 7), (81, 3, 4)])
def sn_79_0 : se_Nd := (8, ([(((82, 0, 0), 0, (0, 0, 0), (0, 0, 0)), (3, (0, 0, 0), (0, 0, 0))), (((0, 4, 4), 0, (0, 0, 0), (0, 0, 0)), (3, (0, 1, 0), (0, 0, 0))), (((0, 0, 1), 0, (0, 0, 0), (0, 0, 0)), (0, (0, 2, 0), (0, 0, 0))), (((0, 0, 160), 0, (0, 0, 0), (0, 0, 0)), (0, (0, 3, 0), (0, 0, 0)))], [some (1, 0, 0), some (1, 1, 0), some (1, 2, 0), some (1, 3, 0)], [], []), [(0, 0, 0), ((-1), 3, 0), (0, 0, 0)])
abbrev sn_79 : List se_Nd := [sn_79_0]
set_option maxRecDepth 100000 in
theorem sk_79 : se_chk0 se_tt [sc_74, sc_78] se_Z 37 se_zt sc_79 sn_79 6 = true := by decide +kernel
set_option maxRecDepth 100000 in
theorem sk_79_0 : se_chkn se_tt [sc_74, sc_78] se_Z 37 se_zt sc_79 sn_79 6 sn_79_0 = true := by decide +kernel
theorem sm_79 {ty : Nat → Option Nat} {J : List mm_C → Prop} {kx : Nat} {zs : List mm_Zt} (hO : se_Ok ty J kx zs) (h74 : se_Met ty se_tt J kx zs sc_74) (h78 : se_Met ty se_tt J kx zs sc_78) : se_Met ty se_tt J kx zs sc_79 := se_sound (C := [sc_74, sc_78]) hO.1 hO.2.1 hO.2.2 (fun n hn => by
  rcases List.mem_cons.mp hn with rfl | hn
  · exact h74
  rcases List.mem_cons.mp hn with rfl | hn
  · exact h78
  exact absurd hn List.not_mem_nil) sk_79 (fun n hn => by
  rcases List.mem_cons.mp hn with rfl | hn
  · exact sk_79_0
  exact absurd hn List.not_mem_nil)
/-- RaftTown$Tape.readOr -/
def sc_80 : se_C := ((155, 10), ([(((82, 0, 0), 0, (0, 0, 0), (0, 0, 0)), (0, (0, 0, 0), (0, 0, 0))), (((0, 4, 4), 0, (0, 0, 0), (0, 0, 0)), (0, (0, 1, 0), (0, 0, 0)))], [some (1, 0, 0), some (1, 1, 0)], [], []), [([(((0, 0, 1), 0, (0, 0, 0), (0, 0, 0)), (0, (0, 0, 0), (0, 0, 0)))], some (1, 2, 0), [], [])], [(54, 0, 160), (80, 3, 4), (80, 4, 5), (80, 5, 6), (80, 6, 7), (81, 3, 4)])
def sn_80_0 : se_Nd := (8, ([(((82, 0, 0), 0, (0, 0, 0), (0, 0, 0)), (3, (0, 0, 0), (0, 0, 0))), (((0, 4, 4), 0, (0, 0, 0), (0, 0, 0)), (3, (0, 1, 0), (0, 0, 0))), (((0, 0, 1), 0, (0, 0, 0), (0, 0, 0)), (0, (0, 2, 0), (0, 0, 0))), (((0, 0, 160), 0, (0, 0, 0), (0, 0, 0)), (0, (0, 3, 0), (0, 0, 0)))], [some (1, 0, 0), some (1, 1, 0), some (1, 2, 0), some (1, 3, 0)], [], []), [(0, 0, 0), ((-1), 3, 0), (0, 0, 0)])
abbrev sn_80 : List se_Nd := [sn_80_0]
set_option maxRecDepth 100000 in
theorem sk_80 : se_chk0 se_tt [sc_74, sc_79] se_Z 37 se_zt sc_80 sn_80 6 = true := by decide +kernel
set_option maxRecDepth 100000 in
theorem sk_80_0 : se_chkn se_tt [sc_74, sc_79] se_Z 37 se_zt sc_80 sn_80 6 sn_80_0 = true := by decide +kernel
theorem sm_80 {ty : Nat → Option Nat} {J : List mm_C → Prop} {kx : Nat} {zs : List mm_Zt} (hO : se_Ok ty J kx zs) (h74 : se_Met ty se_tt J kx zs sc_74) (h79 : se_Met ty se_tt J kx zs sc_79) : se_Met ty se_tt J kx zs sc_80 := se_sound (C := [sc_74, sc_79]) hO.1 hO.2.1 hO.2.2 (fun n hn => by
  rcases List.mem_cons.mp hn with rfl | hn
  · exact h74
  rcases List.mem_cons.mp hn with rfl | hn
  · exact h79
  exact absurd hn List.not_mem_nil) sk_80 (fun n hn => by
  rcases List.mem_cons.mp hn with rfl | hn
  · exact sk_80_0
  exact absurd hn List.not_mem_nil)
/-- RaftTown$Tape.readOne -/
def sc_81 : se_C := ((160, 11), ([(((82, 0, 0), 0, (0, 0, 0), (0, 0, 0)), (0, (0, 0, 0), (0, 0, 0))), (((0, 3, 3), 0, (0, 0, 0), (0, 0, 0)), (0, (0, 1, 0), (0, 0, 0)))], [some (1, 0, 0), some (1, 1, 0)], [], []), [([(((0, 0, 1), 0, (0, 0, 0), (0, 0, 0)), (0, (0, 0, 0), (0, 0, 0)))], some (1, 2, 0), [], [])], [(54, 0, 160), (80, 3, 4), (80, 4, 5), (80, 5, 6), (80, 6, 7), (81, 3, 4)])
abbrev sn_81 : List se_Nd := []
set_option maxRecDepth 100000 in
theorem sk_81 : se_chk0 se_tt [sc_74, sc_80] se_Z 37 se_zt sc_81 sn_81 6 = true := by decide +kernel
theorem sm_81 {ty : Nat → Option Nat} {J : List mm_C → Prop} {kx : Nat} {zs : List mm_Zt} (hO : se_Ok ty J kx zs) (h74 : se_Met ty se_tt J kx zs sc_74) (h80 : se_Met ty se_tt J kx zs sc_80) : se_Met ty se_tt J kx zs sc_81 := se_sound (C := [sc_74, sc_80]) hO.1 hO.2.1 hO.2.2 (fun n hn => by
  rcases List.mem_cons.mp hn with rfl | hn
  · exact h74
  rcases List.mem_cons.mp hn with rfl | hn
  · exact h80
  exact absurd hn List.not_mem_nil) sk_81 (fun _ hn => absurd hn List.not_mem_nil)
/-- RaftTown$Tape.readSum -/
def sc_82 : se_C := ((159, 12), ([(((82, 0, 0), 0, (0, 0, 0), (0, 0, 0)), (0, (0, 0, 0), (0, 0, 0))), (((0, 3, 3), 0, (0, 0, 0), (0, 0, 0)), (0, (0, 1, 0), (0, 0, 0)))], [some (1, 0, 0), some (1, 1, 0)], [], []), [([(((0, 0, 1), 0, (0, 0, 0), (0, 0, 0)), (0, (0, 0, 0), (0, 0, 0)))], some (1, 2, 0), [], [])], [(54, 0, 160), (80, 3, 4), (80, 4, 5), (80, 5, 6), (80, 6, 7), (81, 3, 4)])
def sn_82_0 : se_Nd := (8, ([(((82, 0, 0), 0, (0, 0, 0), (0, 0, 0)), (3, (0, 0, 0), (0, 0, 0))), (((0, 3, 3), 0, (0, 0, 0), (0, 0, 0)), (3, (0, 1, 0), (0, 0, 0))), (((0, 0, 1), 0, (0, 0, 0), (0, 0, 0)), (0, (0, 2, 0), (0, 0, 0))), (((0, 0, 160), 0, (0, 0, 0), (0, 0, 0)), (0, (0, 3, 0), (0, 0, 0)))], [some (1, 0, 0), some (1, 1, 0), some (1, 2, 0), some (1, 3, 0), none], [], []), [(0, 0, 0), ((-1), 3, 0), (0, 0, 0)])
abbrev sn_82 : List se_Nd := [sn_82_0]
set_option maxRecDepth 100000 in
theorem sk_82 : se_chk0 se_tt [sc_74, sc_81] se_Z 37 se_zt sc_82 sn_82 6 = true := by decide +kernel
set_option maxRecDepth 100000 in
theorem sk_82_0 : se_chkn se_tt [sc_74, sc_81] se_Z 37 se_zt sc_82 sn_82 6 sn_82_0 = true := by decide +kernel
theorem sm_82 {ty : Nat → Option Nat} {J : List mm_C → Prop} {kx : Nat} {zs : List mm_Zt} (hO : se_Ok ty J kx zs) (h74 : se_Met ty se_tt J kx zs sc_74) (h81 : se_Met ty se_tt J kx zs sc_81) : se_Met ty se_tt J kx zs sc_82 := se_sound (C := [sc_74, sc_81]) hO.1 hO.2.1 hO.2.2 (fun n hn => by
  rcases List.mem_cons.mp hn with rfl | hn
  · exact h74
  rcases List.mem_cons.mp hn with rfl | hn
  · exact h81
  exact absurd hn List.not_mem_nil) sk_82 (fun n hn => by
  rcases List.mem_cons.mp hn with rfl | hn
  · exact sk_82_0
  exact absurd hn List.not_mem_nil)
/-- RaftTown$Tape.readComparison -/
def sc_83 : se_C := ((158, 13), ([(((82, 0, 0), 0, (0, 0, 0), (0, 0, 0)), (0, (0, 0, 0), (0, 0, 0))), (((0, 3, 3), 0, (0, 0, 0), (0, 0, 0)), (0, (0, 1, 0), (0, 0, 0)))], [some (1, 0, 0), some (1, 1, 0)], [], []), [([(((0, 0, 1), 0, (0, 0, 0), (0, 0, 0)), (0, (0, 0, 0), (0, 0, 0)))], some (1, 2, 0), [], [])], [(54, 0, 160), (80, 3, 4), (80, 4, 5), (80, 5, 6), (80, 6, 7), (81, 3, 4)])
abbrev sn_83 : List se_Nd := []
set_option maxRecDepth 100000 in
theorem sk_83 : se_chk0 se_tt [sc_74, sc_82] se_Z 37 se_zt sc_83 sn_83 6 = true := by decide +kernel
theorem sm_83 {ty : Nat → Option Nat} {J : List mm_C → Prop} {kx : Nat} {zs : List mm_Zt} (hO : se_Ok ty J kx zs) (h74 : se_Met ty se_tt J kx zs sc_74) (h82 : se_Met ty se_tt J kx zs sc_82) : se_Met ty se_tt J kx zs sc_83 := se_sound (C := [sc_74, sc_82]) hO.1 hO.2.1 hO.2.2 (fun n hn => by
  rcases List.mem_cons.mp hn with rfl | hn
  · exact h74
  rcases List.mem_cons.mp hn with rfl | hn
  · exact h82
  exact absurd hn List.not_mem_nil) sk_83 (fun _ hn => absurd hn List.not_mem_nil)
/-- RaftTown$Tape.readNot -/
def sc_84 : se_C := ((157, 14), ([(((82, 0, 0), 0, (0, 0, 0), (0, 0, 0)), (0, (0, 0, 0), (0, 0, 0))), (((0, 3, 3), 0, (0, 0, 0), (0, 0, 0)), (0, (0, 1, 0), (0, 0, 0)))], [some (1, 0, 0), some (1, 1, 0)], [], []), [([(((0, 0, 1), 0, (0, 0, 0), (0, 0, 0)), (0, (0, 0, 0), (0, 0, 0)))], some (1, 2, 0), [], [])], [(54, 0, 160), (80, 3, 4), (80, 4, 5), (80, 5, 6), (80, 6, 7), (81, 3, 4)])
abbrev sn_84 : List se_Nd := []
set_option maxRecDepth 100000 in
theorem sk_84 : se_chk0 se_tt [sc_74, sc_78, sc_83] se_Z 37 se_zt sc_84 sn_84 6 = true := by decide +kernel
theorem sm_84 {ty : Nat → Option Nat} {J : List mm_C → Prop} {kx : Nat} {zs : List mm_Zt} (hO : se_Ok ty J kx zs) (h74 : se_Met ty se_tt J kx zs sc_74) (h78 : se_Met ty se_tt J kx zs sc_78) (h83 : se_Met ty se_tt J kx zs sc_83) : se_Met ty se_tt J kx zs sc_84 := se_sound (C := [sc_74, sc_78, sc_83]) hO.1 hO.2.1 hO.2.2 (fun n hn => by
  rcases List.mem_cons.mp hn with rfl | hn
  · exact h74
  rcases List.mem_cons.mp hn with rfl | hn
  · exact h78
  rcases List.mem_cons.mp hn with rfl | hn
  · exact h83
  exact absurd hn List.not_mem_nil) sk_84 (fun _ hn => absurd hn List.not_mem_nil)
/-- RaftTown$Tape.readAnd -/
def sc_85 : se_C := ((156, 15), ([(((82, 0, 0), 0, (0, 0, 0), (0, 0, 0)), (0, (0, 0, 0), (0, 0, 0))), (((0, 3, 3), 0, (0, 0, 0), (0, 0, 0)), (0, (0, 1, 0), (0, 0, 0)))], [some (1, 0, 0), some (1, 1, 0)], [], []), [([(((0, 0, 1), 0, (0, 0, 0), (0, 0, 0)), (0, (0, 0, 0), (0, 0, 0)))], some (1, 2, 0), [], [])], [(54, 0, 160), (80, 3, 4), (80, 4, 5), (80, 5, 6), (80, 6, 7), (81, 3, 4)])
def sn_85_0 : se_Nd := (8, ([(((82, 0, 0), 0, (0, 0, 0), (0, 0, 0)), (3, (0, 0, 0), (0, 0, 0))), (((0, 3, 3), 0, (0, 0, 0), (0, 0, 0)), (3, (0, 1, 0), (0, 0, 0))), (((0, 0, 1), 0, (0, 0, 0), (0, 0, 0)), (0, (0, 2, 0), (0, 0, 0))), (((0, 0, 160), 0, (0, 0, 0), (0, 0, 0)), (0, (0, 3, 0), (0, 0, 0)))], [some (1, 0, 0), some (1, 1, 0), some (1, 2, 0), some (1, 3, 0)], [], []), [(0, 0, 0), ((-1), 3, 0), (0, 0, 0)])
abbrev sn_85 : List se_Nd := [sn_85_0]
set_option maxRecDepth 100000 in
theorem sk_85 : se_chk0 se_tt [sc_74, sc_84] se_Z 37 se_zt sc_85 sn_85 6 = true := by decide +kernel
set_option maxRecDepth 100000 in
theorem sk_85_0 : se_chkn se_tt [sc_74, sc_84] se_Z 37 se_zt sc_85 sn_85 6 sn_85_0 = true := by decide +kernel
theorem sm_85 {ty : Nat → Option Nat} {J : List mm_C → Prop} {kx : Nat} {zs : List mm_Zt} (hO : se_Ok ty J kx zs) (h74 : se_Met ty se_tt J kx zs sc_74) (h84 : se_Met ty se_tt J kx zs sc_84) : se_Met ty se_tt J kx zs sc_85 := se_sound (C := [sc_74, sc_84]) hO.1 hO.2.1 hO.2.2 (fun n hn => by
  rcases List.mem_cons.mp hn with rfl | hn
  · exact h74
  rcases List.mem_cons.mp hn with rfl | hn
  · exact h84
  exact absurd hn List.not_mem_nil) sk_85 (fun n hn => by
  rcases List.mem_cons.mp hn with rfl | hn
  · exact sk_85_0
  exact absurd hn List.not_mem_nil)
/-- RaftTown$Tape.readOr -/
def sc_86 : se_C := ((155, 16), ([(((82, 0, 0), 0, (0, 0, 0), (0, 0, 0)), (0, (0, 0, 0), (0, 0, 0))), (((0, 3, 3), 0, (0, 0, 0), (0, 0, 0)), (0, (0, 1, 0), (0, 0, 0)))], [some (1, 0, 0), some (1, 1, 0)], [], []), [([(((0, 0, 1), 0, (0, 0, 0), (0, 0, 0)), (0, (0, 0, 0), (0, 0, 0)))], some (1, 2, 0), [], [])], [(54, 0, 160), (80, 3, 4), (80, 4, 5), (80, 5, 6), (80, 6, 7), (81, 3, 4)])
def sn_86_0 : se_Nd := (8, ([(((82, 0, 0), 0, (0, 0, 0), (0, 0, 0)), (3, (0, 0, 0), (0, 0, 0))), (((0, 3, 3), 0, (0, 0, 0), (0, 0, 0)), (3, (0, 1, 0), (0, 0, 0))), (((0, 0, 1), 0, (0, 0, 0), (0, 0, 0)), (0, (0, 2, 0), (0, 0, 0))), (((0, 0, 160), 0, (0, 0, 0), (0, 0, 0)), (0, (0, 3, 0), (0, 0, 0)))], [some (1, 0, 0), some (1, 1, 0), some (1, 2, 0), some (1, 3, 0)], [], []), [(0, 0, 0), ((-1), 3, 0), (0, 0, 0)])
abbrev sn_86 : List se_Nd := [sn_86_0]
set_option maxRecDepth 100000 in
theorem sk_86 : se_chk0 se_tt [sc_74, sc_85] se_Z 37 se_zt sc_86 sn_86 6 = true := by decide +kernel
set_option maxRecDepth 100000 in
theorem sk_86_0 : se_chkn se_tt [sc_74, sc_85] se_Z 37 se_zt sc_86 sn_86 6 sn_86_0 = true := by decide +kernel
theorem sm_86 {ty : Nat → Option Nat} {J : List mm_C → Prop} {kx : Nat} {zs : List mm_Zt} (hO : se_Ok ty J kx zs) (h74 : se_Met ty se_tt J kx zs sc_74) (h85 : se_Met ty se_tt J kx zs sc_85) : se_Met ty se_tt J kx zs sc_86 := se_sound (C := [sc_74, sc_85]) hO.1 hO.2.1 hO.2.2 (fun n hn => by
  rcases List.mem_cons.mp hn with rfl | hn
  · exact h74
  rcases List.mem_cons.mp hn with rfl | hn
  · exact h85
  exact absurd hn List.not_mem_nil) sk_86 (fun n hn => by
  rcases List.mem_cons.mp hn with rfl | hn
  · exact sk_86_0
  exact absurd hn List.not_mem_nil)
/-- RaftTown$Tape.readOne -/
def sc_87 : se_C := ((160, 17), ([(((82, 0, 0), 0, (0, 0, 0), (0, 0, 0)), (0, (0, 0, 0), (0, 0, 0))), (((0, 2, 2), 0, (0, 0, 0), (0, 0, 0)), (0, (0, 1, 0), (0, 0, 0)))], [some (1, 0, 0), some (1, 1, 0)], [], []), [([(((0, 0, 1), 0, (0, 0, 0), (0, 0, 0)), (0, (0, 0, 0), (0, 0, 0)))], some (1, 2, 0), [], [])], [(54, 0, 160), (80, 3, 4), (80, 4, 5), (80, 5, 6), (80, 6, 7), (81, 3, 4)])
abbrev sn_87 : List se_Nd := []
set_option maxRecDepth 100000 in
theorem sk_87 : se_chk0 se_tt [sc_74, sc_86] se_Z 37 se_zt sc_87 sn_87 6 = true := by decide +kernel
theorem sm_87 {ty : Nat → Option Nat} {J : List mm_C → Prop} {kx : Nat} {zs : List mm_Zt} (hO : se_Ok ty J kx zs) (h74 : se_Met ty se_tt J kx zs sc_74) (h86 : se_Met ty se_tt J kx zs sc_86) : se_Met ty se_tt J kx zs sc_87 := se_sound (C := [sc_74, sc_86]) hO.1 hO.2.1 hO.2.2 (fun n hn => by
  rcases List.mem_cons.mp hn with rfl | hn
  · exact h74
  rcases List.mem_cons.mp hn with rfl | hn
  · exact h86
  exact absurd hn List.not_mem_nil) sk_87 (fun _ hn => absurd hn List.not_mem_nil)
/-- RaftTown$Tape.readSum -/
def sc_88 : se_C := ((159, 18), ([(((82, 0, 0), 0, (0, 0, 0), (0, 0, 0)), (0, (0, 0, 0), (0, 0, 0))), (((0, 2, 2), 0, (0, 0, 0), (0, 0, 0)), (0, (0, 1, 0), (0, 0, 0)))], [some (1, 0, 0), some (1, 1, 0)], [], []), [([(((0, 0, 1), 0, (0, 0, 0), (0, 0, 0)), (0, (0, 0, 0), (0, 0, 0)))], some (1, 2, 0), [], [])], [(54, 0, 160), (80, 3, 4), (80, 4, 5), (80, 5, 6), (80, 6, 7), (81, 3, 4)])
def sn_88_0 : se_Nd := (8, ([(((82, 0, 0), 0, (0, 0, 0), (0, 0, 0)), (3, (0, 0, 0), (0, 0, 0))), (((0, 2, 2), 0, (0, 0, 0), (0, 0, 0)), (3, (0, 1, 0), (0, 0, 0))), (((0, 0, 1), 0, (0, 0, 0), (0, 0, 0)), (0, (0, 2, 0), (0, 0, 0))), (((0, 0, 160), 0, (0, 0, 0), (0, 0, 0)), (0, (0, 3, 0), (0, 0, 0)))], [some (1, 0, 0), some (1, 1, 0), some (1, 2, 0), some (1, 3, 0), none], [], []), [(0, 0, 0), ((-1), 3, 0), (0, 0, 0)])
abbrev sn_88 : List se_Nd := [sn_88_0]
set_option maxRecDepth 100000 in
theorem sk_88 : se_chk0 se_tt [sc_74, sc_87] se_Z 37 se_zt sc_88 sn_88 6 = true := by decide +kernel
set_option maxRecDepth 100000 in
theorem sk_88_0 : se_chkn se_tt [sc_74, sc_87] se_Z 37 se_zt sc_88 sn_88 6 sn_88_0 = true := by decide +kernel
theorem sm_88 {ty : Nat → Option Nat} {J : List mm_C → Prop} {kx : Nat} {zs : List mm_Zt} (hO : se_Ok ty J kx zs) (h74 : se_Met ty se_tt J kx zs sc_74) (h87 : se_Met ty se_tt J kx zs sc_87) : se_Met ty se_tt J kx zs sc_88 := se_sound (C := [sc_74, sc_87]) hO.1 hO.2.1 hO.2.2 (fun n hn => by
  rcases List.mem_cons.mp hn with rfl | hn
  · exact h74
  rcases List.mem_cons.mp hn with rfl | hn
  · exact h87
  exact absurd hn List.not_mem_nil) sk_88 (fun n hn => by
  rcases List.mem_cons.mp hn with rfl | hn
  · exact sk_88_0
  exact absurd hn List.not_mem_nil)
/-- RaftTown$Tape.readComparison -/
def sc_89 : se_C := ((158, 19), ([(((82, 0, 0), 0, (0, 0, 0), (0, 0, 0)), (0, (0, 0, 0), (0, 0, 0))), (((0, 2, 2), 0, (0, 0, 0), (0, 0, 0)), (0, (0, 1, 0), (0, 0, 0)))], [some (1, 0, 0), some (1, 1, 0)], [], []), [([(((0, 0, 1), 0, (0, 0, 0), (0, 0, 0)), (0, (0, 0, 0), (0, 0, 0)))], some (1, 2, 0), [], [])], [(54, 0, 160), (80, 3, 4), (80, 4, 5), (80, 5, 6), (80, 6, 7), (81, 3, 4)])
abbrev sn_89 : List se_Nd := []
set_option maxRecDepth 100000 in
theorem sk_89 : se_chk0 se_tt [sc_74, sc_88] se_Z 37 se_zt sc_89 sn_89 6 = true := by decide +kernel
theorem sm_89 {ty : Nat → Option Nat} {J : List mm_C → Prop} {kx : Nat} {zs : List mm_Zt} (hO : se_Ok ty J kx zs) (h74 : se_Met ty se_tt J kx zs sc_74) (h88 : se_Met ty se_tt J kx zs sc_88) : se_Met ty se_tt J kx zs sc_89 := se_sound (C := [sc_74, sc_88]) hO.1 hO.2.1 hO.2.2 (fun n hn => by
  rcases List.mem_cons.mp hn with rfl | hn
  · exact h74
  rcases List.mem_cons.mp hn with rfl | hn
  · exact h88
  exact absurd hn List.not_mem_nil) sk_89 (fun _ hn => absurd hn List.not_mem_nil)
