/-! ===== printed by wip/p2/gen_tab.py: contracts and their checks ===== -/
/-- RaftTown$Tape.standsHere -/
def sc_75 : se_C := ((138, 2), ([(((82, 0, 0), 0, (0, 0, 0), (0, 0, 0)), (0, (0, 0, 0), (0, 0, 0))), (((19, 0, 0), 0, (0, 0, 0), (0, 0, 0)), (0, (0, 1, 0), (0, 0, 0)))], [some (1, 0, 0), some (1, 1, 0)], [], []), [([(((0, 0, 1), 0, (0, 0, 0), (0, 0, 0)), (0, (0, 0, 0), (0, 0, 0)))], some (1, 2, 0), [], [])], [])
def sn_75_0 : se_Nd := (20, ([(((82, 0, 0), 0, (0, 0, 0), (0, 0, 0)), (3, (0, 0, 0), (0, 0, 0))), (((19, 0, 0), 0, (0, 0, 0), (0, 0, 0)), (3, (0, 1, 0), (0, 0, 0))), (((0, 0, 2), 0, (0, 0, 0), (0, 0, 0)), (0, (0, 2, 0), (0, 0, 0)))], [some (1, 0, 0), some (1, 1, 0), some (1, 2, 0)], [], []), [(0, 0, 0), ((-1), 2, 0), (0, 0, 0)])
abbrev sn_75 : List se_Nd := [sn_75_0]
set_option maxRecDepth 100000 in
theorem sk_75 : se_chk0 se_tt [sc_h0] se_Z 37 se_zt sc_75 sn_75 7 = true := by decide +kernel
set_option maxRecDepth 100000 in
theorem sk_75_0 : se_chkn se_tt [sc_h0] se_Z 37 se_zt sc_75 sn_75 7 sn_75_0 = true := by decide +kernel
theorem sm_75 {ty : Nat → Option Nat} {J : List mm_C → Prop} {kx : Nat} {zs : List mm_Zt} (hO : se_Ok ty J kx zs) (hh0 : se_Met ty se_tt J kx zs sc_h0) : se_Met ty se_tt J kx zs sc_75 := se_sound (C := [sc_h0]) hO.1 hO.2.1 hO.2.2 (fun n hn => by
  rcases List.mem_cons.mp hn with rfl | hn
  · exact hh0
  exact absurd hn List.not_mem_nil) sk_75 (fun n hn => by
  rcases List.mem_cons.mp hn with rfl | hn
  · exact sk_75_0
  exact absurd hn List.not_mem_nil)
/-- RaftTown$Tape.standsHere -/
def sc_76 : se_C := ((138, 2), ([(((82, 0, 0), 0, (0, 0, 0), (0, 0, 0)), (0, (0, 0, 0), (0, 0, 0))), (((20, 0, 0), 0, (0, 0, 0), (0, 0, 0)), (0, (0, 1, 0), (0, 0, 0)))], [some (1, 0, 0), some (1, 1, 0)], [], []), [([(((0, 0, 1), 0, (0, 0, 0), (0, 0, 0)), (0, (0, 0, 0), (0, 0, 0)))], some (1, 2, 0), [], [])], [])
def sn_76_0 : se_Nd := (20, ([(((82, 0, 0), 0, (0, 0, 0), (0, 0, 0)), (3, (0, 0, 0), (0, 0, 0))), (((20, 0, 0), 0, (0, 0, 0), (0, 0, 0)), (3, (0, 1, 0), (0, 0, 0))), (((0, 0, 3), 0, (0, 0, 0), (0, 0, 0)), (0, (0, 2, 0), (0, 0, 0)))], [some (1, 0, 0), some (1, 1, 0), some (1, 2, 0)], [], []), [(0, 0, 0), ((-1), 2, 0), (0, 0, 0)])
abbrev sn_76 : List se_Nd := [sn_76_0]
set_option maxRecDepth 100000 in
theorem sk_76 : se_chk0 se_tt [sc_h0] se_Z 37 se_zt sc_76 sn_76 7 = true := by decide +kernel
set_option maxRecDepth 100000 in
theorem sk_76_0 : se_chkn se_tt [sc_h0] se_Z 37 se_zt sc_76 sn_76 7 sn_76_0 = true := by decide +kernel
theorem sm_76 {ty : Nat → Option Nat} {J : List mm_C → Prop} {kx : Nat} {zs : List mm_Zt} (hO : se_Ok ty J kx zs) (hh0 : se_Met ty se_tt J kx zs sc_h0) : se_Met ty se_tt J kx zs sc_76 := se_sound (C := [sc_h0]) hO.1 hO.2.1 hO.2.2 (fun n hn => by
  rcases List.mem_cons.mp hn with rfl | hn
  · exact hh0
  exact absurd hn List.not_mem_nil) sk_76 (fun n hn => by
  rcases List.mem_cons.mp hn with rfl | hn
  · exact sk_76_0
  exact absurd hn List.not_mem_nil)
/-- RaftTown$Tape.standsHere -/
def sc_77 : se_C := ((138, 2), ([(((82, 0, 0), 0, (0, 0, 0), (0, 0, 0)), (0, (0, 0, 0), (0, 0, 0))), (((21, 0, 0), 0, (0, 0, 0), (0, 0, 0)), (0, (0, 1, 0), (0, 0, 0)))], [some (1, 0, 0), some (1, 1, 0)], [], []), [([(((0, 0, 1), 0, (0, 0, 0), (0, 0, 0)), (0, (0, 0, 0), (0, 0, 0)))], some (1, 2, 0), [], [])], [])
def sn_77_0 : se_Nd := (20, ([(((82, 0, 0), 0, (0, 0, 0), (0, 0, 0)), (3, (0, 0, 0), (0, 0, 0))), (((21, 0, 0), 0, (0, 0, 0), (0, 0, 0)), (3, (0, 1, 0), (0, 0, 0))), (((0, 0, 3), 0, (0, 0, 0), (0, 0, 0)), (0, (0, 2, 0), (0, 0, 0)))], [some (1, 0, 0), some (1, 1, 0), some (1, 2, 0)], [], []), [(0, 0, 0), ((-1), 2, 0), (0, 0, 0)])
abbrev sn_77 : List se_Nd := [sn_77_0]
set_option maxRecDepth 100000 in
theorem sk_77 : se_chk0 se_tt [sc_h0] se_Z 37 se_zt sc_77 sn_77 7 = true := by decide +kernel
set_option maxRecDepth 100000 in
theorem sk_77_0 : se_chkn se_tt [sc_h0] se_Z 37 se_zt sc_77 sn_77 7 sn_77_0 = true := by decide +kernel
theorem sm_77 {ty : Nat → Option Nat} {J : List mm_C → Prop} {kx : Nat} {zs : List mm_Zt} (hO : se_Ok ty J kx zs) (hh0 : se_Met ty se_tt J kx zs sc_h0) : se_Met ty se_tt J kx zs sc_77 := se_sound (C := [sc_h0]) hO.1 hO.2.1 hO.2.2 (fun n hn => by
  rcases List.mem_cons.mp hn with rfl | hn
  · exact hh0
  exact absurd hn List.not_mem_nil) sk_77 (fun n hn => by
  rcases List.mem_cons.mp hn with rfl | hn
  · exact sk_77_0
  exact absurd hn List.not_mem_nil)
/-- RaftTown$Tape.nextWord -/
def sc_78 : se_C := ((136, 3), ([(((82, 0, 0), 0, (0, 0, 0), (0, 0, 0)), (0, (0, 0, 0), (0, 0, 0)))], [some (1, 0, 0)], [], []), [([], none, [], [])], [(80, 3, 4), (80, 4, 5)])
def sn_78_0 : se_Nd := (0, ([(((82, 0, 0), 0, (0, 0, 0), (0, 0, 0)), (3, (0, 0, 0), (0, 0, 0))), (((0, 1, 160), 0, (0, 0, 0), (0, 0, 0)), (1, (1, 0, 0), (0, 0, 3)))], [some (1, 0, 0), none], [((1, 0, 0), (0, 0, 3), (1, 1, 0))], []), [(0, 0, 1), ((-1), 1, 0), (0, 0, 0)])
def sn_78_1 : se_Nd := (46, ([(((82, 0, 0), 0, (0, 0, 0), (0, 0, 0)), (3, (0, 0, 0), (0, 0, 0))), (((0, 0, 15), 0, (0, 0, 0), (0, 0, 0)), (0, (0, 1, 0), (0, 0, 0))), (((0, 0, 160), 0, (0, 0, 0), (0, 0, 0)), (1, (1, 0, 0), (0, 0, 3)))], [some (1, 0, 0), some (1, 1, 0)], [((1, 0, 0), (0, 0, 3), (1, 2, 0))], []), [(0, 0, 0), ((-1), 1, 0), (0, 0, 0)])
abbrev sn_78 : List se_Nd := [sn_78_0, sn_78_1]
set_option maxRecDepth 100000 in
theorem sk_78 : se_chk0 se_tt [sc_63, sc_64, sc_65, sc_66, sc_67, sc_68, sc_69, sc_70, sc_71, sc_72, sc_73, sc_74, sc_75, sc_76, sc_77] se_Z 37 se_zt sc_78 sn_78 6 = true := by decide +kernel
set_option maxRecDepth 100000 in
theorem sk_78_0 : se_chkn se_tt [sc_63, sc_64, sc_65, sc_66, sc_67, sc_68, sc_69, sc_70, sc_71, sc_72, sc_73, sc_74, sc_75, sc_76, sc_77] se_Z 37 se_zt sc_78 sn_78 6 sn_78_0 = true := by decide +kernel
set_option maxRecDepth 100000 in
theorem sk_78_1 : se_chkn se_tt [sc_63, sc_64, sc_65, sc_66, sc_67, sc_68, sc_69, sc_70, sc_71, sc_72, sc_73, sc_74, sc_75, sc_76, sc_77] se_Z 37 se_zt sc_78 sn_78 6 sn_78_1 = true := by decide +kernel
theorem sm_78 {ty : Nat → Option Nat} {J : List mm_C → Prop} {kx : Nat} {zs : List mm_Zt} (hO : se_Ok ty J kx zs) (h63 : se_Met ty se_tt J kx zs sc_63) (h64 : se_Met ty se_tt J kx zs sc_64) (h65 : se_Met ty se_tt J kx zs sc_65) (h66 : se_Met ty se_tt J kx zs sc_66) (h67 : se_Met ty se_tt J kx zs sc_67) (h68 : se_Met ty se_tt J kx zs sc_68) (h69 : se_Met ty se_tt J kx zs sc_69) (h70 : se_Met ty se_tt J kx zs sc_70) (h71 : se_Met ty se_tt J kx zs sc_71) (h72 : se_Met ty se_tt J kx zs sc_72) (h73 : se_Met ty se_tt J kx zs sc_73) (h74 : se_Met ty se_tt J kx zs sc_74) (h75 : se_Met ty se_tt J kx zs sc_75) (h76 : se_Met ty se_tt J kx zs sc_76) (h77 : se_Met ty se_tt J kx zs sc_77) : se_Met ty se_tt J kx zs sc_78 := se_sound (C := [sc_63, sc_64, sc_65, sc_66, sc_67, sc_68, sc_69, sc_70, sc_71, sc_72, sc_73, sc_74, sc_75, sc_76, sc_77]) hO.1 hO.2.1 hO.2.2 (fun n hn => by
  rcases List.mem_cons.mp hn with rfl | hn
  · exact h63
  rcases List.mem_cons.mp hn with rfl | hn
  · exact h64
  rcases List.mem_cons.mp hn with rfl | hn
  · exact h65
  rcases List.mem_cons.mp hn with rfl | hn
  · exact h66
  rcases List.mem_cons.mp hn with rfl | hn
  · exact h67
  rcases List.mem_cons.mp hn with rfl | hn
  · exact h68
  rcases List.mem_cons.mp hn with rfl | hn
  · exact h69
  rcases List.mem_cons.mp hn with rfl | hn
  · exact h70
  rcases List.mem_cons.mp hn with rfl | hn
  · exact h71
  rcases List.mem_cons.mp hn with rfl | hn
  · exact h72
  rcases List.mem_cons.mp hn with rfl | hn
  · exact h73
  rcases List.mem_cons.mp hn with rfl | hn
  · exact h74
  rcases List.mem_cons.mp hn with rfl | hn
  · exact h75
  rcases List.mem_cons.mp hn with rfl | hn
  · exact h76
  rcases List.mem_cons.mp hn with rfl | hn
  · exact h77
  exact absurd hn List.not_mem_nil) sk_78 (fun n hn => by
  rcases List.mem_cons.mp hn with rfl | hn
  · exact sk_78_0
  rcases List.mem_cons.mp hn with rfl | hn
  · exact sk_78_1
  exact absurd hn List.not_mem_nil)
/-- RaftTown$Tape.nextNumber -/
def sc_79 : se_C := ((151, 1), ([(((82, 0, 0), 0, (0, 0, 0), (0, 0, 0)), (0, (0, 0, 0), (0, 0, 0)))], [some (1, 0, 0)], [], []), [([], none, [], [])], [(80, 3, 4), (80, 4, 5), (80, 6, 7)])
def sn_79_0 : se_Nd := (5, ([(((82, 0, 0), 0, (0, 0, 0), (0, 0, 0)), (3, (0, 0, 0), (0, 0, 0))), (((0, 0, 160), 0, (0, 0, 0), (0, 0, 0)), (1, (1, 0, 0), (0, 0, 3)))], [some (1, 0, 0)], [((1, 0, 0), (0, 0, 3), (1, 1, 0))], []), [(0, 0, 0), ((-1), 1, 0), (0, 0, 0)])
abbrev sn_79 : List se_Nd := [sn_79_0]
set_option maxRecDepth 100000 in
theorem sk_79 : se_chk0 se_tt [] se_Z 37 se_zt sc_79 sn_79 7 = true := by decide +kernel
set_option maxRecDepth 100000 in
theorem sk_79_0 : se_chkn se_tt [] se_Z 37 se_zt sc_79 sn_79 7 sn_79_0 = true := by decide +kernel
theorem sm_79 {ty : Nat → Option Nat} {J : List mm_C → Prop} {kx : Nat} {zs : List mm_Zt} (hO : se_Ok ty J kx zs) : se_Met ty se_tt J kx zs sc_79 := se_sound (C := []) hO.1 hO.2.1 hO.2.2 (fun _ hn => absurd hn List.not_mem_nil) sk_79 (fun n hn => by
  rcases List.mem_cons.mp hn with rfl | hn
  · exact sk_79_0
  exact absurd hn List.not_mem_nil)
/-- RaftTown$Tape.next -/
def sc_80 : se_C := ((133, 4), ([(((82, 0, 0), 0, (0, 0, 0), (0, 0, 0)), (0, (0, 0, 0), (0, 0, 0)))], [some (1, 0, 0)], [], []), [([], none, [], [])], [(80, 3, 4), (80, 4, 5), (80, 5, 6), (80, 6, 7)])
def sn_80_0 : se_Nd := (0, ([(((82, 0, 0), 0, (0, 0, 0), (0, 0, 0)), (3, (0, 0, 0), (0, 0, 0))), (((0, 1, 160), 0, (0, 0, 0), (0, 0, 0)), (1, (1, 0, 0), (0, 0, 3)))], [some (1, 0, 0), none], [((1, 0, 0), (0, 0, 3), (1, 1, 0))], []), [(0, 0, 0), ((-1), 1, 0), (0, 0, 0)])
abbrev sn_80 : List se_Nd := [sn_80_0]
set_option maxRecDepth 100000 in
theorem sk_80 : se_chk0 se_tt [sc_78, sc_79] se_Z 37 se_zt sc_80 sn_80 7 = true := by decide +kernel
set_option maxRecDepth 100000 in
theorem sk_80_0 : se_chkn se_tt [sc_78, sc_79] se_Z 37 se_zt sc_80 sn_80 7 sn_80_0 = true := by decide +kernel
theorem sm_80 {ty : Nat → Option Nat} {J : List mm_C → Prop} {kx : Nat} {zs : List mm_Zt} (hO : se_Ok ty J kx zs) (h78 : se_Met ty se_tt J kx zs sc_78) (h79 : se_Met ty se_tt J kx zs sc_79) : se_Met ty se_tt J kx zs sc_80 := se_sound (C := [sc_78, sc_79]) hO.1 hO.2.1 hO.2.2 (fun n hn => by
  rcases List.mem_cons.mp hn with rfl | hn
  · exact h78
  rcases List.mem_cons.mp hn with rfl | hn
  · exact h79
  exact absurd hn List.not_mem_nil) sk_80 (fun n hn => by
  rcases List.mem_cons.mp hn with rfl | hn
  · exact sk_80_0
  exact absurd hn List.not_mem_nil)
/-- RaftTown$Text.addNumber -/
def sc_81 : se_C := ((161, 1), ([(((83, 0, 0), 0, (0, 0, 0), (0, 0, 0)), (0, (0, 0, 0), (0, 0, 0))), (((0, (-2147483648), 2147483647), 0, (0, 0, 0), (0, 0, 0)), (0, (0, 1, 0), (0, 0, 0)))], [some (1, 0, 0), some (1, 1, 0)], [], []), [([], none, [], [])], [(54, 0, 160), (81, 3, 4)])
abbrev sn_81 : List se_Nd := []
set_option maxRecDepth 100000 in
theorem sk_81 : se_chk0 se_tt [] se_Z 37 se_zt sc_81 sn_81 5 = true := by decide +kernel
theorem sm_81 {ty : Nat → Option Nat} {J : List mm_C → Prop} {kx : Nat} {zs : List mm_Zt} (hO : se_Ok ty J kx zs) : se_Met ty se_tt J kx zs sc_81 := se_sound (C := []) hO.1 hO.2.1 hO.2.2 (fun _ hn => absurd hn List.not_mem_nil) sk_81 (fun _ hn => absurd hn List.not_mem_nil)
/-- RaftTown$Text.addNumber -/
def sc_82 : se_C := ((161, 1), ([(((112, 0, 0), 0, (0, 0, 0), (0, 0, 0)), (0, (0, 0, 0), (0, 0, 0))), (((0, (-2147483648), 2147483647), 0, (0, 0, 0), (0, 0, 0)), (0, (0, 1, 0), (0, 0, 0)))], [some (1, 0, 0), some (1, 1, 0)], [], []), [([], none, [], [])], [(101, 0, 160), (110, 3, 4)])
abbrev sn_82 : List se_Nd := []
set_option maxRecDepth 100000 in
theorem sk_82 : se_chk0 se_tt [] se_Z 37 se_zt sc_82 sn_82 5 = true := by decide +kernel
theorem sm_82 {ty : Nat → Option Nat} {J : List mm_C → Prop} {kx : Nat} {zs : List mm_Zt} (hO : se_Ok ty J kx zs) : se_Met ty se_tt J kx zs sc_82 := se_sound (C := []) hO.1 hO.2.1 hO.2.2 (fun _ hn => absurd hn List.not_mem_nil) sk_82 (fun _ hn => absurd hn List.not_mem_nil)
/-- RaftTown$Text.addToken -/
def sc_83 : se_C := ((162, 2), ([(((83, 0, 0), 0, (0, 0, 0), (0, 0, 0)), (0, (0, 0, 0), (0, 0, 0))), (((0, (-2147483648), 2147483647), 0, (0, 0, 0), (0, 0, 0)), (0, (0, 1, 0), (0, 0, 0)))], [some (1, 0, 0), some (1, 1, 0)], [], []), [([], none, [], [])], [(54, 0, 160), (81, 3, 4)])
abbrev sn_83 : List se_Nd := []
set_option maxRecDepth 100000 in
theorem sk_83 : se_chk0 se_tt [sc_81] se_Z 37 se_zt sc_83 sn_83 3 = true := by decide +kernel
theorem sm_83 {ty : Nat → Option Nat} {J : List mm_C → Prop} {kx : Nat} {zs : List mm_Zt} (hO : se_Ok ty J kx zs) (h81 : se_Met ty se_tt J kx zs sc_81) : se_Met ty se_tt J kx zs sc_83 := se_sound (C := [sc_81]) hO.1 hO.2.1 hO.2.2 (fun n hn => by
  rcases List.mem_cons.mp hn with rfl | hn
  · exact h81
  exact absurd hn List.not_mem_nil) sk_83 (fun _ hn => absurd hn List.not_mem_nil)
/-- RaftTown$Text.addToken -/
def sc_84 : se_C := ((162, 2), ([(((112, 0, 0), 0, (0, 0, 0), (0, 0, 0)), (0, (0, 0, 0), (0, 0, 0))), (((0, (-2147483648), 2147483647), 0, (0, 0, 0), (0, 0, 0)), (0, (0, 1, 0), (0, 0, 0)))], [some (1, 0, 0), some (1, 1, 0)], [], []), [([], none, [], [])], [(101, 0, 160), (110, 3, 4)])
abbrev sn_84 : List se_Nd := []
set_option maxRecDepth 100000 in
theorem sk_84 : se_chk0 se_tt [sc_82] se_Z 37 se_zt sc_84 sn_84 3 = true := by decide +kernel
theorem sm_84 {ty : Nat → Option Nat} {J : List mm_C → Prop} {kx : Nat} {zs : List mm_Zt} (hO : se_Ok ty J kx zs) (h82 : se_Met ty se_tt J kx zs sc_82) : se_Met ty se_tt J kx zs sc_84 := se_sound (C := [sc_82]) hO.1 hO.2.1 hO.2.2 (fun n hn => by
  rcases List.mem_cons.mp hn with rfl | hn
  · exact h82
  exact absurd hn List.not_mem_nil) sk_84 (fun _ hn => absurd hn List.not_mem_nil)
/-- RaftTown$Tape.readOne -/
def sc_85 : se_C := ((160, 5), ([(((82, 0, 0), 0, (0, 0, 0), (0, 0, 0)), (0, (0, 0, 0), (0, 0, 0))), (((0, 4, 4), 0, (0, 0, 0), (0, 0, 0)), (0, (0, 1, 0), (0, 0, 0)))], [some (1, 0, 0), some (1, 1, 0)], [], []), [([(((0, 0, 1), 0, (0, 0, 0), (0, 0, 0)), (0, (0, 0, 0), (0, 0, 0)))], some (1, 2, 0), [], [])], [(80, 3, 4), (80, 4, 5), (80, 5, 6), (80, 6, 7), (101, 0, 160), (110, 3, 4)])
abbrev sn_85 : List se_Nd := []
set_option maxRecDepth 100000 in
theorem sk_85 : se_chk0 se_tt [sc_80, sc_82, sc_84] se_Z 37 se_zt sc_85 sn_85 5 = true := by decide +kernel
theorem sm_85 {ty : Nat → Option Nat} {J : List mm_C → Prop} {kx : Nat} {zs : List mm_Zt} (hO : se_Ok ty J kx zs) (h80 : se_Met ty se_tt J kx zs sc_80) (h82 : se_Met ty se_tt J kx zs sc_82) (h84 : se_Met ty se_tt J kx zs sc_84) : se_Met ty se_tt J kx zs sc_85 := se_sound (C := [sc_80, sc_82, sc_84]) hO.1 hO.2.1 hO.2.2 (fun n hn => by
  rcases List.mem_cons.mp hn with rfl | hn
  · exact h80
  rcases List.mem_cons.mp hn with rfl | hn
  · exact h82
  rcases List.mem_cons.mp hn with rfl | hn
  · exact h84
  exact absurd hn List.not_mem_nil) sk_85 (fun _ hn => absurd hn List.not_mem_nil)
/-- RaftTown$Tape.readSum -/
def sc_86 : se_C := ((159, 6), ([(((82, 0, 0), 0, (0, 0, 0), (0, 0, 0)), (0, (0, 0, 0), (0, 0, 0))), (((0, 4, 4), 0, (0, 0, 0), (0, 0, 0)), (0, (0, 1, 0), (0, 0, 0)))], [some (1, 0, 0), some (1, 1, 0)], [], []), [([(((0, 0, 1), 0, (0, 0, 0), (0, 0, 0)), (0, (0, 0, 0), (0, 0, 0)))], some (1, 2, 0), [], [])], [(80, 3, 4), (80, 4, 5), (80, 5, 6), (80, 6, 7), (101, 0, 160), (110, 3, 4)])
def sn_86_0 : se_Nd := (8, ([(((82, 0, 0), 0, (0, 0, 0), (0, 0, 0)), (3, (0, 0, 0), (0, 0, 0))), (((0, 4, 4), 0, (0, 0, 0), (0, 0, 0)), (3, (0, 1, 0), (0, 0, 0))), (((0, 0, 1), 0, (0, 0, 0), (0, 0, 0)), (0, (0, 2, 0), (0, 0, 0))), (((0, 0, 160), 0, (0, 0, 0), (0, 0, 0)), (0, (0, 3, 0), (0, 0, 0)))], [some (1, 0, 0), some (1, 1, 0), some (1, 2, 0), some (1, 3, 0), none], [], []), [(0, 0, 0), ((-1), 3, 0), (0, 0, 0)])
abbrev sn_86 : List se_Nd := [sn_86_0]
set_option maxRecDepth 100000 in
theorem sk_86 : se_chk0 se_tt [sc_80, sc_84, sc_85] se_Z 37 se_zt sc_86 sn_86 5 = true := by decide +kernel
set_option maxRecDepth 100000 in
theorem sk_86_0 : se_chkn se_tt [sc_80, sc_84, sc_85] se_Z 37 se_zt sc_86 sn_86 5 sn_86_0 = true := by decide +kernel
theorem sm_86 {ty : Nat → Option Nat} {J : List mm_C → Prop} {kx : Nat} {zs : List mm_Zt} (hO : se_Ok ty J kx zs) (h80 : se_Met ty se_tt J kx zs sc_80) (h84 : se_Met ty se_tt J kx zs sc_84) (h85 : se_Met ty se_tt J kx zs sc_85) : se_Met ty se_tt J kx zs sc_86 := se_sound (C := [sc_80, sc_84, sc_85]) hO.1 hO.2.1 hO.2.2 (fun n hn => by
  rcases List.mem_cons.mp hn with rfl | hn
  · exact h80
  rcases List.mem_cons.mp hn with rfl | hn
  · exact h84
  rcases List.mem_cons.mp hn with rfl | hn
  · exact h85
  exact absurd hn List.not_mem_nil) sk_86 (fun n hn => by
  rcases List.mem_cons.mp hn with rfl | hn
  · exact sk_86_0
  exact absurd hn List.not_mem_nil)
/-- RaftTown$Tape.readComparison -/
def sc_87 : se_C := ((158, 7), ([(((82, 0, 0), 0, (0, 0, 0), (0, 0, 0)), (0, (0, 0, 0), (0, 0, 0))), (((0, 4, 4), 0, (0, 0, 0), (0, 0, 0)), (0, (0, 1, 0), (0, 0, 0)))], [some (1, 0, 0), some (1, 1, 0)], [], []), [([(((0, 0, 1), 0, (0, 0, 0), (0, 0, 0)), (0, (0, 0, 0), (0, 0, 0)))], some (1, 2, 0), [], [])], [(80, 3, 4), (80, 4, 5), (80, 5, 6), (80, 6, 7), (101, 0, 160), (110, 3, 4)])
abbrev sn_87 : List se_Nd := []
set_option maxRecDepth 100000 in
theorem sk_87 : se_chk0 se_tt [sc_80, sc_84, sc_86] se_Z 37 se_zt sc_87 sn_87 5 = true := by decide +kernel
theorem sm_87 {ty : Nat → Option Nat} {J : List mm_C → Prop} {kx : Nat} {zs : List mm_Zt} (hO : se_Ok ty J kx zs) (h80 : se_Met ty se_tt J kx zs sc_80) (h84 : se_Met ty se_tt J kx zs sc_84) (h86 : se_Met ty se_tt J kx zs sc_86) : se_Met ty se_tt J kx zs sc_87 := se_sound (C := [sc_80, sc_84, sc_86]) hO.1 hO.2.1 hO.2.2 (fun n hn => by
  rcases List.mem_cons.mp hn with rfl | hn
  · exact h80
  rcases List.mem_cons.mp hn with rfl | hn
  · exact h84
  rcases List.mem_cons.mp hn with rfl | hn
  · exact h86
  exact absurd hn List.not_mem_nil) sk_87 (fun _ hn => absurd hn List.not_mem_nil)
/-- RaftTown$Tape.readNot -/
def sc_88 : se_C := ((157, 8), ([(((82, 0, 0), 0, (0, 0, 0), (0, 0, 0)), (0, (0, 0, 0), (0, 0, 0))), (((0, 4, 4), 0, (0, 0, 0), (0, 0, 0)), (0, (0, 1, 0), (0, 0, 0)))], [some (1, 0, 0), some (1, 1, 0)], [], []), [([(((0, 0, 1), 0, (0, 0, 0), (0, 0, 0)), (0, (0, 0, 0), (0, 0, 0)))], some (1, 2, 0), [], [])], [(80, 3, 4), (80, 4, 5), (80, 5, 6), (80, 6, 7), (101, 0, 160), (110, 3, 4)])
abbrev sn_88 : List se_Nd := []
set_option maxRecDepth 100000 in
theorem sk_88 : se_chk0 se_tt [sc_87] se_Z 37 se_zt sc_88 sn_88 4 = true := by decide +kernel
theorem sm_88 {ty : Nat → Option Nat} {J : List mm_C → Prop} {kx : Nat} {zs : List mm_Zt} (hO : se_Ok ty J kx zs) (h87 : se_Met ty se_tt J kx zs sc_87) : se_Met ty se_tt J kx zs sc_88 := se_sound (C := [sc_87]) hO.1 hO.2.1 hO.2.2 (fun n hn => by
  rcases List.mem_cons.mp hn with rfl | hn
  · exact h87
  exact absurd hn List.not_mem_nil) sk_88 (fun _ hn => absurd hn List.not_mem_nil)
/-- RaftTown$Tape.readAnd -/
def sc_89 : se_C := ((156, 9), ([(((82, 0, 0), 0, (0, 0, 0), (0, 0, 0)), (0, (0, 0, 0), (0, 0, 0))), (((0, 4, 4), 0, (0, 0, 0), (0, 0, 0)), (0, (0, 1, 0), (0, 0, 0)))], [some (1, 0, 0), some (1, 1, 0)], [], []), [([(((0, 0, 1), 0, (0, 0, 0), (0, 0, 0)), (0, (0, 0, 0), (0, 0, 0)))], some (1, 2, 0), [], [])], [(80, 3, 4), (80, 4, 5), (80, 5, 6), (80, 6, 7), (101, 0, 160), (110, 3, 4)])
def sn_89_0 : se_Nd := (8, ([(((82, 0, 0), 0, (0, 0, 0), (0, 0, 0)), (3, (0, 0, 0), (0, 0, 0))), (((0, 4, 4), 0, (0, 0, 0), (0, 0, 0)), (3, (0, 1, 0), (0, 0, 0))), (((0, 0, 1), 0, (0, 0, 0), (0, 0, 0)), (0, (0, 2, 0), (0, 0, 0))), (((0, 0, 160), 0, (0, 0, 0), (0, 0, 0)), (0, (0, 3, 0), (0, 0, 0)))], [some (1, 0, 0), some (1, 1, 0), some (1, 2, 0), some (1, 3, 0)], [], []), [(0, 0, 0), ((-1), 3, 0), (0, 0, 0)])
abbrev sn_89 : List se_Nd := [sn_89_0]
set_option maxRecDepth 100000 in
theorem sk_89 : se_chk0 se_tt [sc_80, sc_84, sc_88] se_Z 37 se_zt sc_89 sn_89 5 = true := by decide +kernel
set_option maxRecDepth 100000 in
theorem sk_89_0 : se_chkn se_tt [sc_80, sc_84, sc_88] se_Z 37 se_zt sc_89 sn_89 5 sn_89_0 = true := by decide +kernel
theorem sm_89 {ty : Nat → Option Nat} {J : List mm_C → Prop} {kx : Nat} {zs : List mm_Zt} (hO : se_Ok ty J kx zs) (h80 : se_Met ty se_tt J kx zs sc_80) (h84 : se_Met ty se_tt J kx zs sc_84) (h88 : se_Met ty se_tt J kx zs sc_88) : se_Met ty se_tt J kx zs sc_89 := se_sound (C := [sc_80, sc_84, sc_88]) hO.1 hO.2.1 hO.2.2 (fun n hn => by
  rcases List.mem_cons.mp hn with rfl | hn
  · exact h80
  rcases List.mem_cons.mp hn with rfl | hn
  · exact h84
  rcases List.mem_cons.mp hn with rfl | hn
  · exact h88
  exact absurd hn List.not_mem_nil) sk_89 (fun n hn => by
  rcases List.mem_cons.mp hn with rfl | hn
  · exact sk_89_0
  exact absurd hn List.not_mem_nil)
