/-! ===== printed by wip/p2/gen_tab.py: contracts and their checks ===== -/
/-- RaftTown$Tape.readSum -/
def sc_60 : se_C := ((159, 4), ([(((82, 0, 0), 0, (0, 0, 0), (0, 0, 0)), (0, (0, 0, 0), (0, 0, 0))), (((0, 4, 4), 0, (0, 0, 0), (0, 0, 0)), (0, (0, 1, 0), (0, 0, 0)))], [some (1, 0, 0), some (1, 1, 0)], [], []), [([(((0, 0, 1), 0, (0, 0, 0), (0, 0, 0)), (0, (0, 0, 0), (0, 0, 0)))], some (1, 2, 0), [], [])], [(54, 0, 160), (80, 3, 4), (80, 4, 5), (80, 5, 6), (80, 6, 7), (81, 3, 4)])
def sn_60_0 : se_Nd := (8, ([(((82, 0, 0), 0, (0, 0, 0), (0, 0, 0)), (3, (0, 0, 0), (0, 0, 0))), (((0, 4, 4), 0, (0, 0, 0), (0, 0, 0)), (3, (0, 1, 0), (0, 0, 0))), (((0, 0, 1), 0, (0, 0, 0), (0, 0, 0)), (0, (0, 2, 0), (0, 0, 0))), (((0, 0, 160), 0, (0, 0, 0), (0, 0, 0)), (0, (0, 3, 0), (0, 0, 0)))], [some (1, 0, 0), some (1, 1, 0), some (1, 2, 0), some (1, 3, 0), none], [], []), [(0, 0, 0), ((-1), 3, 0), (0, 0, 0)])
abbrev sn_60 : List se_Nd := [sn_60_0]
set_option maxRecDepth 100000 in
theorem sk_60 : se_chk0 se_tt [sc_58, sc_59] se_Z 37 se_zt sc_60 sn_60 6 = true := by decide +kernel
set_option maxRecDepth 100000 in
theorem sk_60_0 : se_chkn se_tt [sc_58, sc_59] se_Z 37 se_zt sc_60 sn_60 6 sn_60_0 = true := by decide +kernel
theorem sm_60 {ty : Nat → Option Nat} {J : List mm_C → Prop} {kx : Nat} {zs : List mm_Zt} (hO : se_Ok ty J kx zs) (h58 : se_Met ty se_tt J kx zs sc_58) (h59 : se_Met ty se_tt J kx zs sc_59) : se_Met ty se_tt J kx zs sc_60 := se_sound (C := [sc_58, sc_59]) hO.1 hO.2.1 hO.2.2 (fun n hn => by
  rcases List.mem_cons.mp hn with rfl | hn
  · exact h58
  rcases List.mem_cons.mp hn with rfl | hn
  · exact h59
  exact absurd hn List.not_mem_nil) sk_60 (fun n hn => by
  rcases List.mem_cons.mp hn with rfl | hn
  · exact sk_60_0
  exact absurd hn List.not_mem_nil)
/-- RaftTown$Tape.readComparison -/
def sc_61 : se_C := ((158, 5), ([(((82, 0, 0), 0, (0, 0, 0), (0, 0, 0)), (0, (0, 0, 0), (0, 0, 0))), (((0, 4, 4), 0, (0, 0, 0), (0, 0, 0)), (0, (0, 1, 0), (0, 0, 0)))], [some (1, 0, 0), some (1, 1, 0)], [], []), [([(((0, 0, 1), 0, (0, 0, 0), (0, 0, 0)), (0, (0, 0, 0), (0, 0, 0)))], some (1, 2, 0), [], [])], [(54, 0, 160), (80, 3, 4), (80, 4, 5), (80, 5, 6), (80, 6, 7), (81, 3, 4)])
abbrev sn_61 : List se_Nd := []
set_option maxRecDepth 100000 in
theorem sk_61 : se_chk0 se_tt [sc_58, sc_60] se_Z 37 se_zt sc_61 sn_61 6 = true := by decide +kernel
theorem sm_61 {ty : Nat → Option Nat} {J : List mm_C → Prop} {kx : Nat} {zs : List mm_Zt} (hO : se_Ok ty J kx zs) (h58 : se_Met ty se_tt J kx zs sc_58) (h60 : se_Met ty se_tt J kx zs sc_60) : se_Met ty se_tt J kx zs sc_61 := se_sound (C := [sc_58, sc_60]) hO.1 hO.2.1 hO.2.2 (fun n hn => by
  rcases List.mem_cons.mp hn with rfl | hn
  · exact h58
  rcases List.mem_cons.mp hn with rfl | hn
  · exact h60
  exact absurd hn List.not_mem_nil) sk_61 (fun _ hn => absurd hn List.not_mem_nil)
/-- RaftTown$Tape.readNot -/
def sc_62 : se_C := ((157, 6), ([(((82, 0, 0), 0, (0, 0, 0), (0, 0, 0)), (0, (0, 0, 0), (0, 0, 0))), (((0, 4, 4), 0, (0, 0, 0), (0, 0, 0)), (0, (0, 1, 0), (0, 0, 0)))], [some (1, 0, 0), some (1, 1, 0)], [], []), [([(((0, 0, 1), 0, (0, 0, 0), (0, 0, 0)), (0, (0, 0, 0), (0, 0, 0)))], some (1, 2, 0), [], [])], [(54, 0, 160), (80, 3, 4), (80, 4, 5), (80, 5, 6), (80, 6, 7), (81, 3, 4)])
abbrev sn_62 : List se_Nd := []
set_option maxRecDepth 100000 in
theorem sk_62 : se_chk0 se_tt [sc_61] se_Z 37 se_zt sc_62 sn_62 4 = true := by decide +kernel
theorem sm_62 {ty : Nat → Option Nat} {J : List mm_C → Prop} {kx : Nat} {zs : List mm_Zt} (hO : se_Ok ty J kx zs) (h61 : se_Met ty se_tt J kx zs sc_61) : se_Met ty se_tt J kx zs sc_62 := se_sound (C := [sc_61]) hO.1 hO.2.1 hO.2.2 (fun n hn => by
  rcases List.mem_cons.mp hn with rfl | hn
  · exact h61
  exact absurd hn List.not_mem_nil) sk_62 (fun _ hn => absurd hn List.not_mem_nil)
/-- RaftTown$Tape.readAnd -/
def sc_63 : se_C := ((156, 7), ([(((82, 0, 0), 0, (0, 0, 0), (0, 0, 0)), (0, (0, 0, 0), (0, 0, 0))), (((0, 4, 4), 0, (0, 0, 0), (0, 0, 0)), (0, (0, 1, 0), (0, 0, 0)))], [some (1, 0, 0), some (1, 1, 0)], [], []), [([(((0, 0, 1), 0, (0, 0, 0), (0, 0, 0)), (0, (0, 0, 0), (0, 0, 0)))], some (1, 2, 0), [], [])], [(54, 0, 160), (80, 3, 4), (80, 4, 5), (80, 5, 6), (80, 6, 7), (81, 3, 4)])
def sn_63_0 : se_Nd := (8, ([(((82, 0, 0), 0, (0, 0, 0), (0, 0, 0)), (3, (0, 0, 0), (0, 0, 0))), (((0, 4, 4), 0, (0, 0, 0), (0, 0, 0)), (3, (0, 1, 0), (0, 0, 0))), (((0, 0, 1), 0, (0, 0, 0), (0, 0, 0)), (0, (0, 2, 0), (0, 0, 0))), (((0, 0, 160), 0, (0, 0, 0), (0, 0, 0)), (0, (0, 3, 0), (0, 0, 0)))], [some (1, 0, 0), some (1, 1, 0), some (1, 2, 0), some (1, 3, 0)], [], []), [(0, 0, 0), ((-1), 3, 0), (0, 0, 0)])
abbrev sn_63 : List se_Nd := [sn_63_0]
set_option maxRecDepth 100000 in
theorem sk_63 : se_chk0 se_tt [sc_58, sc_62] se_Z 37 se_zt sc_63 sn_63 6 = true := by decide +kernel
set_option maxRecDepth 100000 in
theorem sk_63_0 : se_chkn se_tt [sc_58, sc_62] se_Z 37 se_zt sc_63 sn_63 6 sn_63_0 = true := by decide +kernel
theorem sm_63 {ty : Nat → Option Nat} {J : List mm_C → Prop} {kx : Nat} {zs : List mm_Zt} (hO : se_Ok ty J kx zs) (h58 : se_Met ty se_tt J kx zs sc_58) (h62 : se_Met ty se_tt J kx zs sc_62) : se_Met ty se_tt J kx zs sc_63 := se_sound (C := [sc_58, sc_62]) hO.1 hO.2.1 hO.2.2 (fun n hn => by
  rcases List.mem_cons.mp hn with rfl | hn
  · exact h58
  rcases List.mem_cons.mp hn with rfl | hn
  · exact h62
  exact absurd hn List.not_mem_nil) sk_63 (fun n hn => by
  rcases List.mem_cons.mp hn with rfl | hn
  · exact sk_63_0
  exact absurd hn List.not_mem_nil)
/-- RaftTown$Tape.readOr -/
def sc_64 : se_C := ((155, 8), ([(((82, 0, 0), 0, (0, 0, 0), (0, 0, 0)), (0, (0, 0, 0), (0, 0, 0))), (((0, 4, 4), 0, (0, 0, 0), (0, 0, 0)), (0, (0, 1, 0), (0, 0, 0)))], [some (1, 0, 0), some (1, 1, 0)], [], []), [([(((0, 0, 1), 0, (0, 0, 0), (0, 0, 0)), (0, (0, 0, 0), (0, 0, 0)))], some (1, 2, 0), [], [])], [(54, 0, 160), (80, 3, 4), (80, 4, 5), (80, 5, 6), (80, 6, 7), (81, 3, 4)])
def sn_64_0 : se_Nd := (8, ([(((82, 0, 0), 0, (0, 0, 0), (0, 0, 0)), (3, (0, 0, 0), (0, 0, 0))), (((0, 4, 4), 0, (0, 0, 0), (0, 0, 0)), (3, (0, 1, 0), (0, 0, 0))), (((0, 0, 1), 0, (0, 0, 0), (0, 0, 0)), (0, (0, 2, 0), (0, 0, 0))), (((0, 0, 160), 0, (0, 0, 0), (0, 0, 0)), (0, (0, 3, 0), (0, 0, 0)))], [some (1, 0, 0), some (1, 1, 0), some (1, 2, 0), some (1, 3, 0)], [], []), [(0, 0, 0), ((-1), 3, 0), (0, 0, 0)])
abbrev sn_64 : List se_Nd := [sn_64_0]
set_option maxRecDepth 100000 in
theorem sk_64 : se_chk0 se_tt [sc_58, sc_63] se_Z 37 se_zt sc_64 sn_64 6 = true := by decide +kernel
set_option maxRecDepth 100000 in
theorem sk_64_0 : se_chkn se_tt [sc_58, sc_63] se_Z 37 se_zt sc_64 sn_64 6 sn_64_0 = true := by decide +kernel
theorem sm_64 {ty : Nat → Option Nat} {J : List mm_C → Prop} {kx : Nat} {zs : List mm_Zt} (hO : se_Ok ty J kx zs) (h58 : se_Met ty se_tt J kx zs sc_58) (h63 : se_Met ty se_tt J kx zs sc_63) : se_Met ty se_tt J kx zs sc_64 := se_sound (C := [sc_58, sc_63]) hO.1 hO.2.1 hO.2.2 (fun n hn => by
  rcases List.mem_cons.mp hn with rfl | hn
  · exact h58
  rcases List.mem_cons.mp hn with rfl | hn
  · exact h63
  exact absurd hn List.not_mem_nil) sk_64 (fun n hn => by
  rcases List.mem_cons.mp hn with rfl | hn
  · exact sk_64_0
  exact absurd hn List.not_mem_nil)
/-- RaftTown$Tape.readOne -/
def sc_65 : se_C := ((160, 9), ([(((82, 0, 0), 0, (0, 0, 0), (0, 0, 0)), (0, (0, 0, 0), (0, 0, 0))), (((0, 3, 3), 0, (0, 0, 0), (0, 0, 0)), (0, (0, 1, 0), (0, 0, 0)))], [some (1, 0, 0), some (1, 1, 0)], [], []), [([(((0, 0, 1), 0, (0, 0, 0), (0, 0, 0)), (0, (0, 0, 0), (0, 0, 0)))], some (1, 2, 0), [], [])], [(54, 0, 160), (80, 3, 4), (80, 4, 5), (80, 5, 6), (80, 6, 7), (81, 3, 4)])
abbrev sn_65 : List se_Nd := []
set_option maxRecDepth 100000 in
theorem sk_65 : se_chk0 se_tt [sc_58, sc_64] se_Z 37 se_zt sc_65 sn_65 6 = true := by decide +kernel
theorem sm_65 {ty : Nat → Option Nat} {J : List mm_C → Prop} {kx : Nat} {zs : List mm_Zt} (hO : se_Ok ty J kx zs) (h58 : se_Met ty se_tt J kx zs sc_58) (h64 : se_Met ty se_tt J kx zs sc_64) : se_Met ty se_tt J kx zs sc_65 := se_sound (C := [sc_58, sc_64]) hO.1 hO.2.1 hO.2.2 (fun n hn => by
  rcases List.mem_cons.mp hn with rfl | hn
  · exact h58
  rcases List.mem_cons.mp hn with rfl | hn
  · exact h64
  exact absurd hn List.not_mem_nil) sk_65 (fun _ hn => absurd hn List.not_mem_nil)
/-- RaftTown$Tape.readSum -/
def sc_66 : se_C := ((159, 10), ([(((82, 0, 0), 0, (0, 0, 0), (0, 0, 0)), (0, (0, 0, 0), (0, 0, 0))), (((0, 3, 3), 0, (0, 0, 0), (0, 0, 0)), (0, (0, 1, 0), (0, 0, 0)))], [some (1, 0, 0), some (1, 1, 0)], [], []), [([(((0, 0, 1), 0, (0, 0, 0), (0, 0, 0)), (0, (0, 0, 0), (0, 0, 0)))], some (1, 2, 0), [], [])], [(54, 0, 160), (80, 3, 4), (80, 4, 5), (80, 5, 6), (80, 6, 7), (81, 3, 4)])
def sn_66_0 : se_Nd := (8, ([(((82, 0, 0), 0, (0, 0, 0), (0, 0, 0)), (3, (0, 0, 0), (0, 0, 0))), (((0, 3, 3), 0, (0, 0, 0), (0, 0, 0)), (3, (0, 1, 0), (0, 0, 0))), (((0, 0, 1), 0, (0, 0, 0), (0, 0, 0)), (0, (0, 2, 0), (0, 0, 0))), (((0, 0, 160), 0, (0, 0, 0), (0, 0, 0)), (0, (0, 3, 0), (0, 0, 0)))], [some (1, 0, 0), some (1, 1, 0), some (1, 2, 0), some (1, 3, 0), none], [], []), [(0, 0, 0), ((-1), 3, 0), (0, 0, 0)])
abbrev sn_66 : List se_Nd := [sn_66_0]
set_option maxRecDepth 100000 in
theorem sk_66 : se_chk0 se_tt [sc_58, sc_65] se_Z 37 se_zt sc_66 sn_66 6 = true := by decide +kernel
set_option maxRecDepth 100000 in
theorem sk_66_0 : se_chkn se_tt [sc_58, sc_65] se_Z 37 se_zt sc_66 sn_66 6 sn_66_0 = true := by decide +kernel
theorem sm_66 {ty : Nat → Option Nat} {J : List mm_C → Prop} {kx : Nat} {zs : List mm_Zt} (hO : se_Ok ty J kx zs) (h58 : se_Met ty se_tt J kx zs sc_58) (h65 : se_Met ty se_tt J kx zs sc_65) : se_Met ty se_tt J kx zs sc_66 := se_sound (C := [sc_58, sc_65]) hO.1 hO.2.1 hO.2.2 (fun n hn => by
  rcases List.mem_cons.mp hn with rfl | hn
  · exact h58
  rcases List.mem_cons.mp hn with rfl | hn
  · exact h65
  exact absurd hn List.not_mem_nil) sk_66 (fun n hn => by
  rcases List.mem_cons.mp hn with rfl | hn
  · exact sk_66_0
  exact absurd hn List.not_mem_nil)
/-- RaftTown$Tape.readComparison -/
def sc_67 : se_C := ((158, 11), ([(((82, 0, 0), 0, (0, 0, 0), (0, 0, 0)), (0, (0, 0, 0), (0, 0, 0))), (((0, 3, 3), 0, (0, 0, 0), (0, 0, 0)), (0, (0, 1, 0), (0, 0, 0)))], [some (1, 0, 0), some (1, 1, 0)], [], []), [([(((0, 0, 1), 0, (0, 0, 0), (0, 0, 0)), (0, (0, 0, 0), (0, 0, 0)))], some (1, 2, 0), [], [])], [(54, 0, 160), (80, 3, 4), (80, 4, 5), (80, 5, 6), (80, 6, 7), (81, 3, 4)])
abbrev sn_67 : List se_Nd := []
set_option maxRecDepth 100000 in
theorem sk_67 : se_chk0 se_tt [sc_58, sc_66] se_Z 37 se_zt sc_67 sn_67 6 = true := by decide +kernel
theorem sm_67 {ty : Nat → Option Nat} {J : List mm_C → Prop} {kx : Nat} {zs : List mm_Zt} (hO : se_Ok ty J kx zs) (h58 : se_Met ty se_tt J kx zs sc_58) (h66 : se_Met ty se_tt J kx zs sc_66) : se_Met ty se_tt J kx zs sc_67 := se_sound (C := [sc_58, sc_66]) hO.1 hO.2.1 hO.2.2 (fun n hn => by
  rcases List.mem_cons.mp hn with rfl | hn
  · exact h58
  rcases List.mem_cons.mp hn with rfl | hn
  · exact h66
  exact absurd hn List.not_mem_nil) sk_67 (fun _ hn => absurd hn List.not_mem_nil)
/-- RaftTown$Tape.readNot -/
def sc_68 : se_C := ((157, 12), ([(((82, 0, 0), 0, (0, 0, 0), (0, 0, 0)), (0, (0, 0, 0), (0, 0, 0))), (((0, 3, 3), 0, (0, 0, 0), (0, 0, 0)), (0, (0, 1, 0), (0, 0, 0)))], [some (1, 0, 0), some (1, 1, 0)], [], []), [([(((0, 0, 1), 0, (0, 0, 0), (0, 0, 0)), (0, (0, 0, 0), (0, 0, 0)))], some (1, 2, 0), [], [])], [(54, 0, 160), (80, 3, 4), (80, 4, 5), (80, 5, 6), (80, 6, 7), (81, 3, 4)])
abbrev sn_68 : List se_Nd := []
set_option maxRecDepth 100000 in
theorem sk_68 : se_chk0 se_tt [sc_58, sc_62, sc_67] se_Z 37 se_zt sc_68 sn_68 6 = true := by decide +kernel
theorem sm_68 {ty : Nat → Option Nat} {J : List mm_C → Prop} {kx : Nat} {zs : List mm_Zt} (hO : se_Ok ty J kx zs) (h58 : se_Met ty se_tt J kx zs sc_58) (h62 : se_Met ty se_tt J kx zs sc_62) (h67 : se_Met ty se_tt J kx zs sc_67) : se_Met ty se_tt J kx zs sc_68 := se_sound (C := [sc_58, sc_62, sc_67]) hO.1 hO.2.1 hO.2.2 (fun n hn => by
  rcases List.mem_cons.mp hn with rfl | hn
  · exact h58
  rcases List.mem_cons.mp hn with rfl | hn
  · exact h62
  rcases List.mem_cons.mp hn with rfl | hn
  · exact h67
  exact absurd hn List.not_mem_nil) sk_68 (fun _ hn => absurd hn List.not_mem_nil)
/-- RaftTown$Tape.readAnd -/
def sc_69 : se_C := ((156, 13), ([(((82, 0, 0), 0, (0, 0, 0), (0, 0, 0)), (0, (0, 0, 0), (0, 0, 0))), (((0, 3, 3), 0, (0, 0, 0), (0, 0, 0)), (0, (0, 1, 0), (0, 0, 0)))], [some (1, 0, 0), some (1, 1, 0)], [], []), [([(((0, 0, 1), 0, (0, 0, 0), (0, 0, 0)), (0, (0, 0, 0), (0, 0, 0)))], some (1, 2, 0), [], [])], [(54, 0, 160), (80, 3, 4), (80, 4, 5), (80, 5, 6), (80, 6, 7), (81, 3, 4)])
def sn_69_0 : se_Nd := (8, ([(((82, 0, 0), 0, (0, 0, 0), (0, 0, 0)), (3, (0, 0, 0), (0, 0, 0))), (((0, 3, 3), 0, (0, 0, 0), (0, 0, 0)), (3, (0, 1, 0), (0, 0, 0))), (((0, 0, 1), 0, (0, 0, 0), (0, 0, 0)), (0, (0, 2, 0), (0, 0, 0))), (((0, 0, 160), 0, (0, 0, 0), (0, 0, 0)), (0, (0, 3, 0), (0, 0, 0)))], [some (1, 0, 0), some (1, 1, 0), some (1, 2, 0), some (1, 3, 0)], [], []), [(0, 0, 0), ((-1), 3, 0), (0, 0, 0)])
abbrev sn_69 : List se_Nd := [sn_69_0]
set_option maxRecDepth 100000 in
theorem sk_69 : se_chk0 se_tt [sc_58, sc_68] se_Z 37 se_zt sc_69 sn_69 6 = true := by decide +kernel
set_option maxRecDepth 100000 in
theorem sk_69_0 : se_chkn se_tt [sc_58, sc_68] se_Z 37 se_zt sc_69 sn_69 6 sn_69_0 = true := by decide +kernel
theorem sm_69 {ty : Nat → Option Nat} {J : List mm_C → Prop} {kx : Nat} {zs : List mm_Zt} (hO : se_Ok ty J kx zs) (h58 : se_Met ty se_tt J kx zs sc_58) (h68 : se_Met ty se_tt J kx zs sc_68) : se_Met ty se_tt J kx zs sc_69 := se_sound (C := [sc_58, sc_68]) hO.1 hO.2.1 hO.2.2 (fun n hn => by
  rcases List.mem_cons.mp hn with rfl | hn
  · exact h58
  rcases List.mem_cons.mp hn with rfl | hn
  · exact h68
  exact absurd hn List.not_mem_nil) sk_69 (fun n hn => by
  rcases List.mem_cons.mp hn with rfl | hn
  · exact sk_69_0
  exact absurd hn List.not_mem_nil)
/-- RaftTown$Tape.readOr -/
def sc_70 : se_C := ((155, 14), ([(((82, 0, 0), 0, (0, 0, 0), (0, 0, 0)), (0, (0, 0, 0), (0, 0, 0))), (((0, 3, 3), 0, (0, 0, 0), (0, 0, 0)), (0, (0, 1, 0), (0, 0, 0)))], [some (1, 0, 0), some (1, 1, 0)], [], []), [([(((0, 0, 1), 0, (0, 0, 0), (0, 0, 0)), (0, (0, 0, 0), (0, 0, 0)))], some (1, 2, 0), [], [])], [(54, 0, 160), (80, 3, 4), (80, 4, 5), (80, 5, 6), (80, 6, 7), (81, 3, 4)])
def sn_70_0 : se_Nd := (8, ([(((82, 0, 0), 0, (0, 0, 0), (0, 0, 0)), (3, (0, 0, 0), (0, 0, 0))), (((0, 3, 3), 0, (0, 0, 0), (0, 0, 0)), (3, (0, 1, 0), (0, 0, 0))), (((0, 0, 1), 0, (0, 0, 0), (0, 0, 0)), (0, (0, 2, 0), (0, 0, 0))), (((0, 0, 160), 0, (0, 0, 0), (0, 0, 0)), (0, (0, 3, 0), (0, 0, 0)))], [some (1, 0, 0), some (1, 1, 0), some (1, 2, 0), some (1, 3, 0)], [], []), [(0, 0, 0), ((-1), 3, 0), (0, 0, 0)])
abbrev sn_70 : List se_Nd := [sn_70_0]
set_option maxRecDepth 100000 in
theorem sk_70 : se_chk0 se_tt [sc_58, sc_69] se_Z 37 se_zt sc_70 sn_70 6 = true := by decide +kernel
set_option maxRecDepth 100000 in
theorem sk_70_0 : se_chkn se_tt [sc_58, sc_69] se_Z 37 se_zt sc_70 sn_70 6 sn_70_0 = true := by decide +kernel
theorem sm_70 {ty : Nat → Option Nat} {J : List mm_C → Prop} {kx : Nat} {zs : List mm_Zt} (hO : se_Ok ty J kx zs) (h58 : se_Met ty se_tt J kx zs sc_58) (h69 : se_Met ty se_tt J kx zs sc_69) : se_Met ty se_tt J kx zs sc_70 := se_sound (C := [sc_58, sc_69]) hO.1 hO.2.1 hO.2.2 (fun n hn => by
  rcases List.mem_cons.mp hn with rfl | hn
  · exact h58
  rcases List.mem_cons.mp hn with rfl | hn
  · exact h69
  exact absurd hn List.not_mem_nil) sk_70 (fun n hn => by
  rcases List.mem_cons.mp hn with rfl | hn
  · exact sk_70_0
  exact absurd hn List.not_mem_nil)
/-- RaftTown$Tape.readOne -/
def sc_71 : se_C := ((160, 15), ([(((82, 0, 0), 0, (0, 0, 0), (0, 0, 0)), (0, (0, 0, 0), (0, 0, 0))), (((0, 2, 2), 0, (0, 0, 0), (0, 0, 0)), (0, (0, 1, 0), (0, 0, 0)))], [some (1, 0, 0), some (1, 1, 0)], [], []), [([(((0, 0, 1), 0, (0, 0, 0), (0, 0, 0)), (0, (0, 0, 0), (0, 0, 0)))], some (1, 2, 0), [], [])], [(54, 0, 160), (80, 3, 4), (80, 4, 5), (80, 5, 6), (80, 6, 7), (81, 3, 4)])
abbrev sn_71 : List se_Nd := []
set_option maxRecDepth 100000 in
theorem sk_71 : se_chk0 se_tt [sc_58, sc_70] se_Z 37 se_zt sc_71 sn_71 6 = true := by decide +kernel
theorem sm_71 {ty : Nat → Option Nat} {J : List mm_C → Prop} {kx : Nat} {zs : List mm_Zt} (hO : se_Ok ty J kx zs) (h58 : se_Met ty se_tt J kx zs sc_58) (h70 : se_Met ty se_tt J kx zs sc_70) : se_Met ty se_tt J kx zs sc_71 := se_sound (C := [sc_58, sc_70]) hO.1 hO.2.1 hO.2.2 (fun n hn => by
  rcases List.mem_cons.mp hn with rfl | hn
  · exact h58
  rcases List.mem_cons.mp hn with rfl | hn
  · exact h70
  exact absurd hn List.not_mem_nil) sk_71 (fun _ hn => absurd hn List.not_mem_nil)
/-- RaftTown$Tape.readSum -/
def sc_72 : se_C := ((159, 16), ([(((82, 0, 0), 0, (0, 0, 0), (0, 0, 0)), (0, (0, 0, 0), (0, 0, 0))), (((0, 2, 2), 0, (0, 0, 0), (0, 0, 0)), (0, (0, 1, 0), (0, 0, 0)))], [some (1, 0, 0), some (1, 1, 0)], [], []), [([(((0, 0, 1), 0, (0, 0, 0), (0, 0, 0)), (0, (0, 0, 0), (0, 0, 0)))], some (1, 2, 0), [], [])], [(54, 0, 160), (80, 3, 4), (80, 4, 5), (80, 5, 6), (80, 6, 7), (81, 3, 4)])
def sn_72_0 : se_Nd := (8, ([(((82, 0, 0), 0, (0, 0, 0), (0, 0, 0)), (3, (0, 0, 0), (0, 0, 0))), (((0, 2, 2), 0, (0, 0, 0), (0, 0, 0)), (3, (0, 1, 0), (0, 0, 0))), (((0, 0, 1), 0, (0, 0, 0), (0, 0, 0)), (0, (0, 2, 0), (0, 0, 0))), (((0, 0, 160), 0, (0, 0, 0), (0, 0, 0)), (0, (0, 3, 0), (0, 0, 0)))], [some (1, 0, 0), some (1, 1, 0), some (1, 2, 0), some (1, 3, 0), none], [], []), [(0, 0, 0), ((-1), 3, 0), (0, 0, 0)])
abbrev sn_72 : List se_Nd := [sn_72_0]
set_option maxRecDepth 100000 in
theorem sk_72 : se_chk0 se_tt [sc_58, sc_71] se_Z 37 se_zt sc_72 sn_72 6 = true := by decide +kernel
set_option maxRecDepth 100000 in
theorem sk_72_0 : se_chkn se_tt [sc_58, sc_71] se_Z 37 se_zt sc_72 sn_72 6 sn_72_0 = true := by decide +kernel
theorem sm_72 {ty : Nat → Option Nat} {J : List mm_C → Prop} {kx : Nat} {zs : List mm_Zt} (hO : se_Ok ty J kx zs) (h58 : se_Met ty se_tt J kx zs sc_58) (h71 : se_Met ty se_tt J kx zs sc_71) : se_Met ty se_tt J kx zs sc_72 := se_sound (C := [sc_58, sc_71]) hO.1 hO.2.1 hO.2.2 (fun n hn => by
  rcases List.mem_cons.mp hn with rfl | hn
  · exact h58
  rcases List.mem_cons.mp hn with rfl | hn
  · exact h71
  exact absurd hn List.not_mem_nil) sk_72 (fun n hn => by
  rcases List.mem_cons.mp hn with rfl | hn
  · exact sk_72_0
  exact absurd hn List.not_mem_nil)
/-- RaftTown$Tape.readComparison -/
def sc_73 : se_C := ((158, 17), ([(((82, 0, 0), 0, (0, 0, 0), (0, 0, 0)), (0, (0, 0, 0), (0, 0, 0))), (((0, 2, 2), 0, (0, 0, 0), (0, 0, 0)), (0, (0, 1, 0), (0, 0, 0)))], [some (1, 0, 0), some (1, 1, 0)], [], []), [([(((0, 0, 1), 0, (0, 0, 0), (0, 0, 0)), (0, (0, 0, 0), (0, 0, 0)))], some (1, 2, 0), [], [])], [(54, 0, 160), (80, 3, 4), (80, 4, 5), (80, 5, 6), (80, 6, 7), (81, 3, 4)])
abbrev sn_73 : List se_Nd := []
set_option maxRecDepth 100000 in
theorem sk_73 : se_chk0 se_tt [sc_58, sc_72] se_Z 37 se_zt sc_73 sn_73 6 = true := by decide +kernel
theorem sm_73 {ty : Nat → Option Nat} {J : List mm_C → Prop} {kx : Nat} {zs : List mm_Zt} (hO : se_Ok ty J kx zs) (h58 : se_Met ty se_tt J kx zs sc_58) (h72 : se_Met ty se_tt J kx zs sc_72) : se_Met ty se_tt J kx zs sc_73 := se_sound (C := [sc_58, sc_72]) hO.1 hO.2.1 hO.2.2 (fun n hn => by
  rcases List.mem_cons.mp hn with rfl | hn
  · exact h58
  rcases List.mem_cons.mp hn with rfl | hn
  · exact h72
  exact absurd hn List.not_mem_nil) sk_73 (fun _ hn => absurd hn List.not_mem_nil)
/-- RaftTown$Tape.readNot -/
def sc_74 : se_C := ((157, 18), ([(((82, 0, 0), 0, (0, 0, 0), (0, 0, 0)), (0, (0, 0, 0), (0, 0, 0))), (((0, 2, 2), 0, (0, 0, 0), (0, 0, 0)), (0, (0, 1, 0), (0, 0, 0)))], [some (1, 0, 0), some (1, 1, 0)], [], []), [([(((0, 0, 1), 0, (0, 0, 0), (0, 0, 0)), (0, (0, 0, 0), (0, 0, 0)))], some (1, 2, 0), [], [])], [(54, 0, 160), (80, 3, 4), (80, 4, 5), (80, 5, 6), (80, 6, 7), (81, 3, 4)])
abbrev sn_74 : List se_Nd := []
set_option maxRecDepth 100000 in
theorem sk_74 : se_chk0 se_tt [sc_58, sc_68, sc_73] se_Z 37 se_zt sc_74 sn_74 6 = true := by decide +kernel
theorem sm_74 {ty : Nat → Option Nat} {J : List mm_C → Prop} {kx : Nat} {zs : List mm_Zt} (hO : se_Ok ty J kx zs) (h58 : se_Met ty se_tt J kx zs sc_58) (h68 : se_Met ty se_tt J kx zs sc_68) (h73 : se_Met ty se_tt J kx zs sc_73) : se_Met ty se_tt J kx zs sc_74 := se_sound (C := [sc_58, sc_68, sc_73]) hO.1 hO.2.1 hO.2.2 (fun n hn => by
  rcases List.mem_cons.mp hn with rfl | hn
  · exact h58
  rcases List.mem_cons.mp hn with rfl | hn
  · exact h68
  rcases List.mem_cons.mp hn with rfl | hn
  · exact h73
  exact absurd hn List.not_mem_nil) sk_74 (fun _ hn => absurd hn List.not_mem_nil)
