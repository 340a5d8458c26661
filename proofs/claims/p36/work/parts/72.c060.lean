/-! ===== printed by wip/p2/gen_tab.py: contracts and their checks ===== -/
/-- RaftTown$Tape.standsHere -/
def sc_60 : se_C := ((138, 2), ([(((82, 0, 0), 0, (0, 0, 0), (0, 0, 0)), (0, (0, 0, 0), (0, 0, 0))), (((10, 0, 0), 0, (0, 0, 0), (0, 0, 0)), (0, (0, 1, 0), (0, 0, 0)))], [some (1, 0, 0), some (1, 1, 0)], [], []), [([(((0, 0, 1), 0, (0, 0, 0), (0, 0, 0)), (0, (0, 0, 0), (0, 0, 0)))], some (1, 2, 0), [], [])], [])
def sn_60_0 : se_Nd := (20, ([(((82, 0, 0), 0, (0, 0, 0), (0, 0, 0)), (3, (0, 0, 0), (0, 0, 0))), (((10, 0, 0), 0, (0, 0, 0), (0, 0, 0)), (3, (0, 1, 0), (0, 0, 0))), (((0, 0, 3), 0, (0, 0, 0), (0, 0, 0)), (0, (0, 2, 0), (0, 0, 0)))], [some (1, 0, 0), some (1, 1, 0), some (1, 2, 0)], [], []), [(0, 0, 0), ((-1), 2, 0), (0, 0, 0)])
abbrev sn_60 : List se_Nd := [sn_60_0]
set_option maxRecDepth 100000 in
theorem sk_60 : se_chk0 se_tt [sc_h0] se_Z 37 se_zt sc_60 sn_60 7 = true := by decide +kernel
set_option maxRecDepth 100000 in
theorem sk_60_0 : se_chkn se_tt [sc_h0] se_Z 37 se_zt sc_60 sn_60 7 sn_60_0 = true := by decide +kernel
theorem sm_60 {ty : Nat → Option Nat} {J : List mm_C → Prop} {kx : Nat} {zs : List mm_Zt} (hO : se_Ok ty J kx zs) (hh0 : se_Met ty se_tt J kx zs sc_h0) : se_Met ty se_tt J kx zs sc_60 := se_sound (C := [sc_h0]) hO.1 hO.2.1 hO.2.2 (fun n hn => by
  rcases List.mem_cons.mp hn with rfl | hn
  · exact hh0
  exact absurd hn List.not_mem_nil) sk_60 (fun n hn => by
  rcases List.mem_cons.mp hn with rfl | hn
  · exact sk_60_0
  exact absurd hn List.not_mem_nil)
/-- RaftTown$Tape.standsHere -/
def sc_61 : se_C := ((138, 2), ([(((82, 0, 0), 0, (0, 0, 0), (0, 0, 0)), (0, (0, 0, 0), (0, 0, 0))), (((11, 0, 0), 0, (0, 0, 0), (0, 0, 0)), (0, (0, 1, 0), (0, 0, 0)))], [some (1, 0, 0), some (1, 1, 0)], [], []), [([(((0, 0, 1), 0, (0, 0, 0), (0, 0, 0)), (0, (0, 0, 0), (0, 0, 0)))], some (1, 2, 0), [], [])], [])
def sn_61_0 : se_Nd := (20, ([(((82, 0, 0), 0, (0, 0, 0), (0, 0, 0)), (3, (0, 0, 0), (0, 0, 0))), (((11, 0, 0), 0, (0, 0, 0), (0, 0, 0)), (3, (0, 1, 0), (0, 0, 0))), (((0, 0, 3), 0, (0, 0, 0), (0, 0, 0)), (0, (0, 2, 0), (0, 0, 0)))], [some (1, 0, 0), some (1, 1, 0), some (1, 2, 0)], [], []), [(0, 0, 0), ((-1), 2, 0), (0, 0, 0)])
abbrev sn_61 : List se_Nd := [sn_61_0]
set_option maxRecDepth 100000 in
theorem sk_61 : se_chk0 se_tt [sc_h0] se_Z 37 se_zt sc_61 sn_61 7 = true := by decide +kernel
set_option maxRecDepth 100000 in
theorem sk_61_0 : se_chkn se_tt [sc_h0] se_Z 37 se_zt sc_61 sn_61 7 sn_61_0 = true := by decide +kernel
theorem sm_61 {ty : Nat → Option Nat} {J : List mm_C → Prop} {kx : Nat} {zs : List mm_Zt} (hO : se_Ok ty J kx zs) (hh0 : se_Met ty se_tt J kx zs sc_h0) : se_Met ty se_tt J kx zs sc_61 := se_sound (C := [sc_h0]) hO.1 hO.2.1 hO.2.2 (fun n hn => by
  rcases List.mem_cons.mp hn with rfl | hn
  · exact hh0
  exact absurd hn List.not_mem_nil) sk_61 (fun n hn => by
  rcases List.mem_cons.mp hn with rfl | hn
  · exact sk_61_0
  exact absurd hn List.not_mem_nil)
/-- RaftTown$Tape.standsHere -/
def sc_62 : se_C := ((138, 2), ([(((82, 0, 0), 0, (0, 0, 0), (0, 0, 0)), (0, (0, 0, 0), (0, 0, 0))), (((12, 0, 0), 0, (0, 0, 0), (0, 0, 0)), (0, (0, 1, 0), (0, 0, 0)))], [some (1, 0, 0), some (1, 1, 0)], [], []), [([(((0, 0, 1), 0, (0, 0, 0), (0, 0, 0)), (0, (0, 0, 0), (0, 0, 0)))], some (1, 2, 0), [], [])], [])
def sn_62_0 : se_Nd := (20, ([(((82, 0, 0), 0, (0, 0, 0), (0, 0, 0)), (3, (0, 0, 0), (0, 0, 0))), (((12, 0, 0), 0, (0, 0, 0), (0, 0, 0)), (3, (0, 1, 0), (0, 0, 0))), (((0, 0, 5), 0, (0, 0, 0), (0, 0, 0)), (0, (0, 2, 0), (0, 0, 0)))], [some (1, 0, 0), some (1, 1, 0), some (1, 2, 0)], [], []), [(0, 0, 0), ((-1), 2, 0), (0, 0, 0)])
abbrev sn_62 : List se_Nd := [sn_62_0]
set_option maxRecDepth 100000 in
theorem sk_62 : se_chk0 se_tt [sc_h0] se_Z 37 se_zt sc_62 sn_62 7 = true := by decide +kernel
set_option maxRecDepth 100000 in
theorem sk_62_0 : se_chkn se_tt [sc_h0] se_Z 37 se_zt sc_62 sn_62 7 sn_62_0 = true := by decide +kernel
theorem sm_62 {ty : Nat → Option Nat} {J : List mm_C → Prop} {kx : Nat} {zs : List mm_Zt} (hO : se_Ok ty J kx zs) (hh0 : se_Met ty se_tt J kx zs sc_h0) : se_Met ty se_tt J kx zs sc_62 := se_sound (C := [sc_h0]) hO.1 hO.2.1 hO.2.2 (fun n hn => by
  rcases List.mem_cons.mp hn with rfl | hn
  · exact hh0
  exact absurd hn List.not_mem_nil) sk_62 (fun n hn => by
  rcases List.mem_cons.mp hn with rfl | hn
  · exact sk_62_0
  exact absurd hn List.not_mem_nil)
/-- RaftTown$Tape.standsHere -/
def sc_63 : se_C := ((138, 2), ([(((82, 0, 0), 0, (0, 0, 0), (0, 0, 0)), (0, (0, 0, 0), (0, 0, 0))), (((13, 0, 0), 0, (0, 0, 0), (0, 0, 0)), (0, (0, 1, 0), (0, 0, 0)))], [some (1, 0, 0), some (1, 1, 0)], [], []), [([(((0, 0, 1), 0, (0, 0, 0), (0, 0, 0)), (0, (0, 0, 0), (0, 0, 0)))], some (1, 2, 0), [], [])], [])
def sn_63_0 : se_Nd := (20, ([(((82, 0, 0), 0, (0, 0, 0), (0, 0, 0)), (3, (0, 0, 0), (0, 0, 0))), (((13, 0, 0), 0, (0, 0, 0), (0, 0, 0)), (3, (0, 1, 0), (0, 0, 0))), (((0, 0, 5), 0, (0, 0, 0), (0, 0, 0)), (0, (0, 2, 0), (0, 0, 0)))], [some (1, 0, 0), some (1, 1, 0), some (1, 2, 0)], [], []), [(0, 0, 0), ((-1), 2, 0), (0, 0, 0)])
abbrev sn_63 : List se_Nd := [sn_63_0]
set_option maxRecDepth 100000 in
theorem sk_63 : se_chk0 se_tt [sc_h0] se_Z 37 se_zt sc_63 sn_63 7 = true := by decide +kernel
set_option maxRecDepth 100000 in
theorem sk_63_0 : se_chkn se_tt [sc_h0] se_Z 37 se_zt sc_63 sn_63 7 sn_63_0 = true := by decide +kernel
theorem sm_63 {ty : Nat → Option Nat} {J : List mm_C → Prop} {kx : Nat} {zs : List mm_Zt} (hO : se_Ok ty J kx zs) (hh0 : se_Met ty se_tt J kx zs sc_h0) : se_Met ty se_tt J kx zs sc_63 := se_sound (C := [sc_h0]) hO.1 hO.2.1 hO.2.2 (fun n hn => by
  rcases List.mem_cons.mp hn with rfl | hn
  · exact hh0
  exact absurd hn List.not_mem_nil) sk_63 (fun n hn => by
  rcases List.mem_cons.mp hn with rfl | hn
  · exact sk_63_0
  exact absurd hn List.not_mem_nil)
/-- RaftTown$Tape.standsHere -/
def sc_64 : se_C := ((138, 2), ([(((82, 0, 0), 0, (0, 0, 0), (0, 0, 0)), (0, (0, 0, 0), (0, 0, 0))), (((14, 0, 0), 0, (0, 0, 0), (0, 0, 0)), (0, (0, 1, 0), (0, 0, 0)))], [some (1, 0, 0), some (1, 1, 0)], [], []), [([(((0, 0, 1), 0, (0, 0, 0), (0, 0, 0)), (0, (0, 0, 0), (0, 0, 0)))], some (1, 2, 0), [], [])], [])
def sn_64_0 : se_Nd := (20, ([(((82, 0, 0), 0, (0, 0, 0), (0, 0, 0)), (3, (0, 0, 0), (0, 0, 0))), (((14, 0, 0), 0, (0, 0, 0), (0, 0, 0)), (3, (0, 1, 0), (0, 0, 0))), (((0, 0, 3), 0, (0, 0, 0), (0, 0, 0)), (0, (0, 2, 0), (0, 0, 0)))], [some (1, 0, 0), some (1, 1, 0), some (1, 2, 0)], [], []), [(0, 0, 0), ((-1), 2, 0), (0, 0, 0)])
abbrev sn_64 : List se_Nd := [sn_64_0]
set_option maxRecDepth 100000 in
theorem sk_64 : se_chk0 se_tt [sc_h0] se_Z 37 se_zt sc_64 sn_64 7 = true := by decide +kernel
set_option maxRecDepth 100000 in
theorem sk_64_0 : se_chkn se_tt [sc_h0] se_Z 37 se_zt sc_64 sn_64 7 sn_64_0 = true := by decide +kernel
theorem sm_64 {ty : Nat → Option Nat} {J : List mm_C → Prop} {kx : Nat} {zs : List mm_Zt} (hO : se_Ok ty J kx zs) (hh0 : se_Met ty se_tt J kx zs sc_h0) : se_Met ty se_tt J kx zs sc_64 := se_sound (C := [sc_h0]) hO.1 hO.2.1 hO.2.2 (fun n hn => by
  rcases List.mem_cons.mp hn with rfl | hn
  · exact hh0
  exact absurd hn List.not_mem_nil) sk_64 (fun n hn => by
  rcases List.mem_cons.mp hn with rfl | hn
  · exact sk_64_0
  exact absurd hn List.not_mem_nil)
/-- RaftTown$Tape.standsHere -/
def sc_65 : se_C := ((138, 2), ([(((82, 0, 0), 0, (0, 0, 0), (0, 0, 0)), (0, (0, 0, 0), (0, 0, 0))), (((15, 0, 0), 0, (0, 0, 0), (0, 0, 0)), (0, (0, 1, 0), (0, 0, 0)))], [some (1, 0, 0), some (1, 1, 0)], [], []), [([(((0, 0, 1), 0, (0, 0, 0), (0, 0, 0)), (0, (0, 0, 0), (0, 0, 0)))], some (1, 2, 0), [], [])], [])
def sn_65_0 : se_Nd := (20, ([(((82, 0, 0), 0, (0, 0, 0), (0, 0, 0)), (3, (0, 0, 0), (0, 0, 0))), (((15, 0, 0), 0, (0, 0, 0), (0, 0, 0)), (3, (0, 1, 0), (0, 0, 0))), (((0, 0, 4), 0, (0, 0, 0), (0, 0, 0)), (0, (0, 2, 0), (0, 0, 0)))], [some (1, 0, 0), some (1, 1, 0), some (1, 2, 0)], [], []), [(0, 0, 0), ((-1), 2, 0), (0, 0, 0)])
abbrev sn_65 : List se_Nd := [sn_65_0]
set_option maxRecDepth 100000 in
theorem sk_65 : se_chk0 se_tt [sc_h0] se_Z 37 se_zt sc_65 sn_65 7 = true := by decide +kernel
set_option maxRecDepth 100000 in
theorem sk_65_0 : se_chkn se_tt [sc_h0] se_Z 37 se_zt sc_65 sn_65 7 sn_65_0 = true := by decide +kernel
theorem sm_65 {ty : Nat → Option Nat} {J : List mm_C → Prop} {kx : Nat} {zs : List mm_Zt} (hO : se_Ok ty J kx zs) (hh0 : se_Met ty se_tt J kx zs sc_h0) : se_Met ty se_tt J kx zs sc_65 := se_sound (C := [sc_h0]) hO.1 hO.2.1 hO.2.2 (fun n hn => by
  rcases List.mem_cons.mp hn with rfl | hn
  · exact hh0
  exact absurd hn List.not_mem_nil) sk_65 (fun n hn => by
  rcases List.mem_cons.mp hn with rfl | hn
  · exact sk_65_0
  exact absurd hn List.not_mem_nil)
/-- RaftTown$Tape.standsHere -/
def sc_66 : se_C := ((138, 2), ([(((82, 0, 0), 0, (0, 0, 0), (0, 0, 0)), (0, (0, 0, 0), (0, 0, 0))), (((16, 0, 0), 0, (0, 0, 0), (0, 0, 0)), (0, (0, 1, 0), (0, 0, 0)))], [some (1, 0, 0), some (1, 1, 0)], [], []), [([(((0, 0, 1), 0, (0, 0, 0), (0, 0, 0)), (0, (0, 0, 0), (0, 0, 0)))], some (1, 2, 0), [], [])], [])
def sn_66_0 : se_Nd := (20, ([(((82, 0, 0), 0, (0, 0, 0), (0, 0, 0)), (3, (0, 0, 0), (0, 0, 0))), (((16, 0, 0), 0, (0, 0, 0), (0, 0, 0)), (3, (0, 1, 0), (0, 0, 0))), (((0, 0, 3), 0, (0, 0, 0), (0, 0, 0)), (0, (0, 2, 0), (0, 0, 0)))], [some (1, 0, 0), some (1, 1, 0), some (1, 2, 0)], [], []), [(0, 0, 0), ((-1), 2, 0), (0, 0, 0)])
abbrev sn_66 : List se_Nd := [sn_66_0]
set_option maxRecDepth 100000 in
theorem sk_66 : se_chk0 se_tt [sc_h0] se_Z 37 se_zt sc_66 sn_66 7 = true := by decide +kernel
set_option maxRecDepth 100000 in
theorem sk_66_0 : se_chkn se_tt [sc_h0] se_Z 37 se_zt sc_66 sn_66 7 sn_66_0 = true := by decide +kernel
theorem sm_66 {ty : Nat → Option Nat} {J : List mm_C → Prop} {kx : Nat} {zs : List mm_Zt} (hO : se_Ok ty J kx zs) (hh0 : se_Met ty se_tt J kx zs sc_h0) : se_Met ty se_tt J kx zs sc_66 := se_sound (C := [sc_h0]) hO.1 hO.2.1 hO.2.2 (fun n hn => by
  rcases List.mem_cons.mp hn with rfl | hn
  · exact hh0
  exact absurd hn List.not_mem_nil) sk_66 (fun n hn => by
  rcases List.mem_cons.mp hn with rfl | hn
  · exact sk_66_0
  exact absurd hn List.not_mem_nil)
/-- RaftTown$Tape.standsHere -/
def sc_67 : se_C := ((138, 2), ([(((82, 0, 0), 0, (0, 0, 0), (0, 0, 0)), (0, (0, 0, 0), (0, 0, 0))), (((17, 0, 0), 0, (0, 0, 0), (0, 0, 0)), (0, (0, 1, 0), (0, 0, 0)))], [some (1, 0, 0), some (1, 1, 0)], [], []), [([(((0, 0, 1), 0, (0, 0, 0), (0, 0, 0)), (0, (0, 0, 0), (0, 0, 0)))], some (1, 2, 0), [], [])], [])
def sn_67_0 : se_Nd := (20, ([(((82, 0, 0), 0, (0, 0, 0), (0, 0, 0)), (3, (0, 0, 0), (0, 0, 0))), (((17, 0, 0), 0, (0, 0, 0), (0, 0, 0)), (3, (0, 1, 0), (0, 0, 0))), (((0, 0, 3), 0, (0, 0, 0), (0, 0, 0)), (0, (0, 2, 0), (0, 0, 0)))], [some (1, 0, 0), some (1, 1, 0), some (1, 2, 0)], [], []), [(0, 0, 0), ((-1), 2, 0), (0, 0, 0)])
abbrev sn_67 : List se_Nd := [sn_67_0]
set_option maxRecDepth 100000 in
theorem sk_67 : se_chk0 se_tt [sc_h0] se_Z 37 se_zt sc_67 sn_67 7 = true := by decide +kernel
set_option maxRecDepth 100000 in
theorem sk_67_0 : se_chkn se_tt [sc_h0] se_Z 37 se_zt sc_67 sn_67 7 sn_67_0 = true := by decide +kernel
theorem sm_67 {ty : Nat → Option Nat} {J : List mm_C → Prop} {kx : Nat} {zs : List mm_Zt} (hO : se_Ok ty J kx zs) (hh0 : se_Met ty se_tt J kx zs sc_h0) : se_Met ty se_tt J kx zs sc_67 := se_sound (C := [sc_h0]) hO.1 hO.2.1 hO.2.2 (fun n hn => by
  rcases List.mem_cons.mp hn with rfl | hn
  · exact hh0
  exact absurd hn List.not_mem_nil) sk_67 (fun n hn => by
  rcases List.mem_cons.mp hn with rfl | hn
  · exact sk_67_0
  exact absurd hn List.not_mem_nil)
/-- RaftTown$Tape.standsHere -/
def sc_68 : se_C := ((138, 2), ([(((82, 0, 0), 0, (0, 0, 0), (0, 0, 0)), (0, (0, 0, 0), (0, 0, 0))), (((18, 0, 0), 0, (0, 0, 0), (0, 0, 0)), (0, (0, 1, 0), (0, 0, 0)))], [some (1, 0, 0), some (1, 1, 0)], [], []), [([(((0, 0, 1), 0, (0, 0, 0), (0, 0, 0)), (0, (0, 0, 0), (0, 0, 0)))], some (1, 2, 0), [], [])], [])
def sn_68_0 : se_Nd := (20, ([(((82, 0, 0), 0, (0, 0, 0), (0, 0, 0)), (3, (0, 0, 0), (0, 0, 0))), (((18, 0, 0), 0, (0, 0, 0), (0, 0, 0)), (3, (0, 1, 0), (0, 0, 0))), (((0, 0, 5), 0, (0, 0, 0), (0, 0, 0)), (0, (0, 2, 0), (0, 0, 0)))], [some (1, 0, 0), some (1, 1, 0), some (1, 2, 0)], [], []), [(0, 0, 0), ((-1), 2, 0), (0, 0, 0)])
abbrev sn_68 : List se_Nd := [sn_68_0]
set_option maxRecDepth 100000 in
theorem sk_68 : se_chk0 se_tt [sc_h0] se_Z 37 se_zt sc_68 sn_68 7 = true := by decide +kernel
set_option maxRecDepth 100000 in
theorem sk_68_0 : se_chkn se_tt [sc_h0] se_Z 37 se_zt sc_68 sn_68 7 sn_68_0 = true := by decide +kernel
theorem sm_68 {ty : Nat → Option Nat} {J : List mm_C → Prop} {kx : Nat} {zs : List mm_Zt} (hO : se_Ok ty J kx zs) (hh0 : se_Met ty se_tt J kx zs sc_h0) : se_Met ty se_tt J kx zs sc_68 := se_sound (C := [sc_h0]) hO.1 hO.2.1 hO.2.2 (fun n hn => by
  rcases List.mem_cons.mp hn with rfl | hn
  · exact hh0
  exact absurd hn List.not_mem_nil) sk_68 (fun n hn => by
  rcases List.mem_cons.mp hn with rfl | hn
  · exact sk_68_0
  exact absurd hn List.not_mem_nil)
/-- RaftTown$Tape.standsHere -/
def sc_69 : se_C := ((138, 2), ([(((82, 0, 0), 0, (0, 0, 0), (0, 0, 0)), (0, (0, 0, 0), (0, 0, 0))), (((19, 0, 0), 0, (0, 0, 0), (0, 0, 0)), (0, (0, 1, 0), (0, 0, 0)))], [some (1, 0, 0), some (1, 1, 0)], [], []), [([(((0, 0, 1), 0, (0, 0, 0), (0, 0, 0)), (0, (0, 0, 0), (0, 0, 0)))], some (1, 2, 0), [], [])], [])
def sn_69_0 : se_Nd := (20, ([(((82, 0, 0), 0, (0, 0, 0), (0, 0, 0)), (3, (0, 0, 0), (0, 0, 0))), (((19, 0, 0), 0, (0, 0, 0), (0, 0, 0)), (3, (0, 1, 0), (0, 0, 0))), (((0, 0, 2), 0, (0, 0, 0), (0, 0, 0)), (0, (0, 2, 0), (0, 0, 0)))], [some (1, 0, 0), some (1, 1, 0), some (1, 2, 0)], [], []), [(0, 0, 0), ((-1), 2, 0), (0, 0, 0)])
abbrev sn_69 : List se_Nd := [sn_69_0]
set_option maxRecDepth 100000 in
theorem sk_69 : se_chk0 se_tt [sc_h0] se_Z 37 se_zt sc_69 sn_69 7 = true := by decide +kernel
set_option maxRecDepth 100000 in
theorem sk_69_0 : se_chkn se_tt [sc_h0] se_Z 37 se_zt sc_69 sn_69 7 sn_69_0 = true := by decide +kernel
theorem sm_69 {ty : Nat → Option Nat} {J : List mm_C → Prop} {kx : Nat} {zs : List mm_Zt} (hO : se_Ok ty J kx zs) (hh0 : se_Met ty se_tt J kx zs sc_h0) : se_Met ty se_tt J kx zs sc_69 := se_sound (C := [sc_h0]) hO.1 hO.2.1 hO.2.2 (fun n hn => by
  rcases List.mem_cons.mp hn with rfl | hn
  · exact hh0
  exact absurd hn List.not_mem_nil) sk_69 (fun n hn => by
  rcases List.mem_cons.mp hn with rfl | hn
  · exact sk_69_0
  exact absurd hn List.not_mem_nil)
/-- RaftTown$Tape.standsHere -/
def sc_70 : se_C := ((138, 2), ([(((82, 0, 0), 0, (0, 0, 0), (0, 0, 0)), (0, (0, 0, 0), (0, 0, 0))), (((20, 0, 0), 0, (0, 0, 0), (0, 0, 0)), (0, (0, 1, 0), (0, 0, 0)))], [some (1, 0, 0), some (1, 1, 0)], [], []), [([(((0, 0, 1), 0, (0, 0, 0), (0, 0, 0)), (0, (0, 0, 0), (0, 0, 0)))], some (1, 2, 0), [], [])], [])
def sn_70_0 : se_Nd := (20, ([(((82, 0, 0), 0, (0, 0, 0), (0, 0, 0)), (3, (0, 0, 0), (0, 0, 0))), (((20, 0, 0), 0, (0, 0, 0), (0, 0, 0)), (3, (0, 1, 0), (0, 0, 0))), (((0, 0, 3), 0, (0, 0, 0), (0, 0, 0)), (0, (0, 2, 0), (0, 0, 0)))], [some (1, 0, 0), some (1, 1, 0), some (1, 2, 0)], [], []), [(0, 0, 0), ((-1), 2, 0), (0, 0, 0)])
abbrev sn_70 : List se_Nd := [sn_70_0]
set_option maxRecDepth 100000 in
theorem sk_70 : se_chk0 se_tt [sc_h0] se_Z 37 se_zt sc_70 sn_70 7 = true := by decide +kernel
set_option maxRecDepth 100000 in
theorem sk_70_0 : se_chkn se_tt [sc_h0] se_Z 37 se_zt sc_70 sn_70 7 sn_70_0 = true := by decide +kernel
theorem sm_70 {ty : Nat → Option Nat} {J : List mm_C → Prop} {kx : Nat} {zs : List mm_Zt} (hO : se_Ok ty J kx zs) (hh0 : se_Met ty se_tt J kx zs sc_h0) : se_Met ty se_tt J kx zs sc_70 := se_sound (C := [sc_h0]) hO.1 hO.2.1 hO.2.2 (fun n hn => by
  rcases List.mem_cons.mp hn with rfl | hn
  · exact hh0
  exact absurd hn List.not_mem_nil) sk_70 (fun n hn => by
  rcases List.mem_cons.mp hn with rfl | hn
  · exact sk_70_0
  exact absurd hn List.not_mem_nil)
/-- RaftTown$Tape.standsHere -/
def sc_71 : se_C := ((138, 2), ([(((82, 0, 0), 0, (0, 0, 0), (0, 0, 0)), (0, (0, 0, 0), (0, 0, 0))), (((21, 0, 0), 0, (0, 0, 0), (0, 0, 0)), (0, (0, 1, 0), (0, 0, 0)))], [some (1, 0, 0), some (1, 1, 0)], [], []), [([(((0, 0, 1), 0, (0, 0, 0), (0, 0, 0)), (0, (0, 0, 0), (0, 0, 0)))], some (1, 2, 0), [], [])], [])
def sn_71_0 : se_Nd := (20, ([(((82, 0, 0), 0, (0, 0, 0), (0, 0, 0)), (3, (0, 0, 0), (0, 0, 0))), (((21, 0, 0), 0, (0, 0, 0), (0, 0, 0)), (3, (0, 1, 0), (0, 0, 0))), (((0, 0, 3), 0, (0, 0, 0), (0, 0, 0)), (0, (0, 2, 0), (0, 0, 0)))], [some (1, 0, 0), some (1, 1, 0), some (1, 2, 0)], [], []), [(0, 0, 0), ((-1), 2, 0), (0, 0, 0)])
abbrev sn_71 : List se_Nd := [sn_71_0]
set_option maxRecDepth 100000 in
theorem sk_71 : se_chk0 se_tt [sc_h0] se_Z 37 se_zt sc_71 sn_71 7 = true := by decide +kernel
set_option maxRecDepth 100000 in
theorem sk_71_0 : se_chkn se_tt [sc_h0] se_Z 37 se_zt sc_71 sn_71 7 sn_71_0 = true := by decide +kernel
theorem sm_71 {ty : Nat → Option Nat} {J : List mm_C → Prop} {kx : Nat} {zs : List mm_Zt} (hO : se_Ok ty J kx zs) (hh0 : se_Met ty se_tt J kx zs sc_h0) : se_Met ty se_tt J kx zs sc_71 := se_sound (C := [sc_h0]) hO.1 hO.2.1 hO.2.2 (fun n hn => by
  rcases List.mem_cons.mp hn with rfl | hn
  · exact hh0
  exact absurd hn List.not_mem_nil) sk_71 (fun n hn => by
  rcases List.mem_cons.mp hn with rfl | hn
  · exact sk_71_0
  exact absurd hn List.not_mem_nil)
/-- RaftTown$Tape.nextWord -/
def sc_72 : se_C := ((136, 3), ([(((82, 0, 0), 0, (0, 0, 0), (0, 0, 0)), (0, (0, 0, 0), (0, 0, 0)))], [some (1, 0, 0)], [], []), [([], none, [], [])], [(80, 3, 4), (80, 4, 5)])
def sn_72_0 : se_Nd := (0, ([(((82, 0, 0), 0, (0, 0, 0), (0, 0, 0)), (3, (0, 0, 0), (0, 0, 0))), (((0, 1, 160), 0, (0, 0, 0), (0, 0, 0)), (1, (1, 0, 0), (0, 0, 3)))], [some (1, 0, 0), none], [((1, 0, 0), (0, 0, 3), (1, 1, 0))], []), [(0, 0, 1), ((-1), 1, 0), (0, 0, 0)])
def sn_72_1 : se_Nd := (46, ([(((82, 0, 0), 0, (0, 0, 0), (0, 0, 0)), (3, (0, 0, 0), (0, 0, 0))), (((0, 0, 15), 0, (0, 0, 0), (0, 0, 0)), (0, (0, 1, 0), (0, 0, 0))), (((0, 0, 160), 0, (0, 0, 0), (0, 0, 0)), (1, (1, 0, 0), (0, 0, 3)))], [some (1, 0, 0), some (1, 1, 0)], [((1, 0, 0), (0, 0, 3), (1, 2, 0))], []), [(0, 0, 0), ((-1), 1, 0), (0, 0, 0)])
abbrev sn_72 : List se_Nd := [sn_72_0, sn_72_1]
set_option maxRecDepth 100000 in
theorem sk_72 : se_chk0 se_tt [sc_57, sc_58, sc_59, sc_60, sc_61, sc_62, sc_63, sc_64, sc_65, sc_66, sc_67, sc_68, sc_69, sc_70, sc_71] se_Z 37 se_zt sc_72 sn_72 6 = true := by decide +kernel
set_option maxRecDepth 100000 in
theorem sk_72_0 : se_chkn se_tt [sc_57, sc_58, sc_59, sc_60, sc_61, sc_62, sc_63, sc_64, sc_65, sc_66, sc_67, sc_68, sc_69, sc_70, sc_71] se_Z 37 se_zt sc_72 sn_72 6 sn_72_0 = true := by decide +kernel
set_option maxRecDepth 100000 in
theorem sk_72_1 : se_chkn se_tt [sc_57, sc_58, sc_59, sc_60, sc_61, sc_62, sc_63, sc_64, sc_65, sc_66, sc_67, sc_68, sc_69, sc_70, sc_71] se_Z 37 se_zt sc_72 sn_72 6 sn_72_1 = true := by decide +kernel
theorem sm_72 {ty : Nat → Option Nat} {J : List mm_C → Prop} {kx : Nat} {zs : List mm_Zt} (hO : se_Ok ty J kx zs) (h57 : se_Met ty se_tt J kx zs sc_57) (h58 : se_Met ty se_tt J kx zs sc_58) (h59 : se_Met ty se_tt J kx zs sc_59) (h60 : se_Met ty se_tt J kx zs sc_60) (h61 : se_Met ty se_tt J kx zs sc_61) (h62 : se_Met ty se_tt J kx zs sc_62) (h63 : se_Met ty se_tt J kx zs sc_63) (h64 : se_Met ty se_tt J kx zs sc_64) (h65 : se_Met ty se_tt J kx zs sc_65) (h66 : se_Met ty se_tt J kx zs sc_66) (h67 : se_Met ty se_tt J kx zs sc_67) (h68 : se_Met ty se_tt J kx zs sc_68) (h69 : se_Met ty se_tt J kx zs sc_69) (h70 : se_Met ty se_tt J kx zs sc_70) (h71 : se_Met ty se_tt J kx zs sc_71) : se_Met ty se_tt J kx zs sc_72 := se_sound (C := [sc_57, sc_58, sc_59, sc_60, sc_61, sc_62, sc_63, sc_64, sc_65, sc_66, sc_67, sc_68, sc_69, sc_70, sc_71]) hO.1 hO.2.1 hO.2.2 (fun n hn => by
  rcases List.mem_cons.mp hn with rfl | hn
  · exact h57
  rcases List.mem_cons.mp hn with rfl | hn
  · exact h58
  rcases List.mem_cons.mp hn with rfl | hn
  · exact h59
  rcases List.mem_cons.mp hn with rfl | hn
  · exact h60
  rcases List.mem_cons.mp hn with rfl | hn
  · exact h61
  rcases List.mem_cons.mp hn with rfl | hn
  · exact h62
  rcases List.mem_cons.mp hn with rfl | hn
  · exact h63
  rcases List.mem_cons.mp hn with rfl | hn
  · exact h64
  rcases List.mem_cons.mp hn with rfl | hn
  · exact h65
  rcases List.mem_cons.mp hn with rfl | hn
  · exact h66
  rcases List.mem_cons.mp hn with rfl | hn
  · exact h67
  rcases List.mem_cons.mp hn with rfl | hn
  · exact h68
  rcases List.mem_cons.mp hn with rfl | hn
  · exact h69
  rcases List.mem_cons.mp hn with rfl | hn
  · exact h70
  rcases List.mem_cons.mp hn with rfl | hn
  · exact h71
  exact absurd hn List.not_mem_nil) sk_72 (fun n hn => by
  rcases List.mem_cons.mp hn with rfl | hn
  · exact sk_72_0
  rcases List.mem_cons.mp hn with rfl | hn
  · exact sk_72_1
  exact absurd hn List.not_mem_nil)
/-- RaftTown$Tape.nextNumber -/
def sc_73 : se_C := ((151, 1), ([(((82, 0, 0), 0, (0, 0, 0), (0, 0, 0)), (0, (0, 0, 0), (0, 0, 0)))], [some (1, 0, 0)], [], []), [([], none, [], [])], [(80, 3, 4), (80, 4, 5), (80, 6, 7)])
def sn_73_0 : se_Nd := (5, ([(((82, 0, 0), 0, (0, 0, 0), (0, 0, 0)), (3, (0, 0, 0), (0, 0, 0))), (((0, 0, 160), 0, (0, 0, 0), (0, 0, 0)), (1, (1, 0, 0), (0, 0, 3)))], [some (1, 0, 0)], [((1, 0, 0), (0, 0, 3), (1, 1, 0))], []), [(0, 0, 0), ((-1), 1, 0), (0, 0, 0)])
abbrev sn_73 : List se_Nd := [sn_73_0]
set_option maxRecDepth 100000 in
theorem sk_73 : se_chk0 se_tt [] se_Z 37 se_zt sc_73 sn_73 7 = true := by decide +kernel
set_option maxRecDepth 100000 in
theorem sk_73_0 : se_chkn se_tt [] se_Z 37 se_zt sc_73 sn_73 7 sn_73_0 = true := by decide +kernel
theorem sm_73 {ty : Nat → Option Nat} {J : List mm_C → Prop} {kx : Nat} {zs : List mm_Zt} (hO : se_Ok ty J kx zs) : se_Met ty se_tt J kx zs sc_73 := se_sound (C := []) hO.1 hO.2.1 hO.2.2 (fun _ hn => absurd hn List.not_mem_nil) sk_73 (fun n hn => by
  rcases List.mem_cons.mp hn with rfl | hn
  · exact sk_73_0
  exact absurd hn List.not_mem_nil)
/-- RaftTown$Tape.next -/
def sc_74 : se_C := ((133, 4), ([(((82, 0, 0), 0, (0, 0, 0), (0, 0, 0)), (0, (0, 0, 0), (0, 0, 0)))], [some (1, 0, 0)], [], []), [([], none, [], [])], [(80, 3, 4), (80, 4, 5), (80, 5, 6), (80, 6, 7)])
def sn_74_0 : se_Nd := (0, ([(((82, 0, 0), 0, (0, 0, 0), (0, 0, 0)), (3, (0, 0, 0), (0, 0, 0))), (((0, 1, 160), 0, (0, 0, 0), (0, 0, 0)), (1, (1, 0, 0), (0, 0, 3)))], [some (1, 0, 0), none], [((1, 0, 0), (0, 0, 3), (1, 1, 0))], []), [(0, 0, 0), ((-1), 1, 0), (0, 0, 0)])
abbrev sn_74 : List se_Nd := [sn_74_0]
set_option maxRecDepth 100000 in
theorem sk_74 : se_chk0 se_tt [sc_72, sc_73] se_Z 37 se_zt sc_74 sn_74 7 = true := by decide +kernel
set_option maxRecDepth 100000 in
theorem sk_74_0 : se_chkn se_tt [sc_72, sc_73] se_Z 37 se_zt sc_74 sn_74 7 sn_74_0 = true := by decide +kernel
theorem sm_74 {ty : Nat → Option Nat} {J : List mm_C → Prop} {kx : Nat} {zs : List mm_Zt} (hO : se_Ok ty J kx zs) (h72 : se_Met ty se_tt J kx zs sc_72) (h73 : se_Met ty se_tt J kx zs sc_73) : se_Met ty se_tt J kx zs sc_74 := se_sound (C := [sc_72, sc_73]) hO.1 hO.2.1 hO.2.2 (fun n hn => by
  rcases List.mem_cons.mp hn with rfl | hn
  · exact h72
  rcases List.mem_cons.mp hn with rfl | hn
  · exact h73
  exact absurd hn List.not_mem_nil) sk_74 (fun n hn => by
  rcases List.mem_cons.mp hn with rfl | hn
  · exact sk_74_0
  exact absurd hn List.not_mem_nil)
