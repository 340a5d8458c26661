/-! ===== printed by wip/p2/gen_tab.py: contracts and their checks ===== -/
/-- RaftTown.feed -/
def sc_60 : se_C := ((127, 2), ([(((90, 0, 0), 0, (0, 0, 0), (0, 0, 0)), (0, (0, 0, 0), (0, 0, 0))), (((0, (-2147483648), 2147483647), 0, (0, 0, 0), (0, 0, 0)), (0, (0, 1, 0), (0, 0, 0))), (((1, 0, 0), 0, (0, 0, 0), (0, 0, 0)), (0, (0, 2, 0), (0, 0, 0)))], [some (1, 0, 0), some (1, 1, 0), some (1, 2, 0), none], [], []), [([(((0, (-100005), 160), 0, (0, 0, 0), (0, 0, 0)), (0, (0, 0, 0), (0, 0, 0)))], some (1, 3, 0), [], [])], [(53, 0, 160), (80, 1, 2), (88, 7, 8)])
abbrev sn_60 : List se_Nd := []
set_option maxRecDepth 100000 in
theorem sk_60 : se_chk0 se_tt [sc_59] se_Z 37 se_zt sc_60 sn_60 6 = true := by decide +kernel
theorem sm_60 {ty : Nat → Option Nat} {J : List mm_C → Prop} {kx : Nat} {zs : List mm_Zt} (hO : se_Ok ty J kx zs) (h59 : se_Met ty se_tt J kx zs sc_59) : se_Met ty se_tt J kx zs sc_60 := se_sound (C := [sc_59]) hO.1 hO.2.1 hO.2.2 (fun n hn => by
  rcases List.mem_cons.mp hn with rfl | hn
  · exact h59
  exact absurd hn List.not_mem_nil) sk_60 (fun _ hn => absurd hn List.not_mem_nil)
/-- RaftTown$Text.clear -/
def sc_61 : se_C := ((132, 1), ([(((83, 0, 0), 0, (0, 0, 0), (0, 0, 0)), (0, (0, 0, 0), (0, 0, 0)))], [some (1, 0, 0)], [], []), [([], none, [], [])], [(81, 0, 1), (81, 3, 4)])
abbrev sn_61 : List se_Nd := []
set_option maxRecDepth 100000 in
theorem sk_61 : se_chk0 se_tt [] se_Z 37 se_zt sc_61 sn_61 3 = true := by decide +kernel
theorem sm_61 {ty : Nat → Option Nat} {J : List mm_C → Prop} {kx : Nat} {zs : List mm_Zt} (hO : se_Ok ty J kx zs) : se_Met ty se_tt J kx zs sc_61 := se_sound (C := []) hO.1 hO.2.1 hO.2.2 (fun _ hn => absurd hn List.not_mem_nil) sk_61 (fun _ hn => absurd hn List.not_mem_nil)
/-- RaftTown$Text.clear -/
def sc_62 : se_C := ((132, 1), ([(((112, 0, 0), 0, (0, 0, 0), (0, 0, 0)), (0, (0, 0, 0), (0, 0, 0)))], [some (1, 0, 0)], [], []), [([], none, [], [])], [(110, 0, 1), (110, 3, 4)])
abbrev sn_62 : List se_Nd := []
set_option maxRecDepth 100000 in
theorem sk_62 : se_chk0 se_tt [] se_Z 37 se_zt sc_62 sn_62 3 = true := by decide +kernel
theorem sm_62 {ty : Nat → Option Nat} {J : List mm_C → Prop} {kx : Nat} {zs : List mm_Zt} (hO : se_Ok ty J kx zs) : se_Met ty se_tt J kx zs sc_62 := se_sound (C := []) hO.1 hO.2.1 hO.2.2 (fun _ hn => absurd hn List.not_mem_nil) sk_62 (fun _ hn => absurd hn List.not_mem_nil)
/-- RaftTown$Tape.standsHere -/
def sc_63 : se_C := ((138, 2), ([(((82, 0, 0), 0, (0, 0, 0), (0, 0, 0)), (0, (0, 0, 0), (0, 0, 0))), (((7, 0, 0), 0, (0, 0, 0), (0, 0, 0)), (0, (0, 1, 0), (0, 0, 0)))], [some (1, 0, 0), some (1, 1, 0)], [], []), [([(((0, 0, 1), 0, (0, 0, 0), (0, 0, 0)), (0, (0, 0, 0), (0, 0, 0)))], some (1, 2, 0), [], [])], [])
def sn_63_0 : se_Nd := (20, ([(((82, 0, 0), 0, (0, 0, 0), (0, 0, 0)), (3, (0, 0, 0), (0, 0, 0))), (((7, 0, 0), 0, (0, 0, 0), (0, 0, 0)), (3, (0, 1, 0), (0, 0, 0))), (((0, 0, 5), 0, (0, 0, 0), (0, 0, 0)), (0, (0, 2, 0), (0, 0, 0)))], [some (1, 0, 0), some (1, 1, 0), some (1, 2, 0)], [], []), [(0, 0, 0), ((-1), 2, 0), (0, 0, 0)])
abbrev sn_63 : List se_Nd := [sn_63_0]
set_option maxRecDepth 100000 in
theorem sk_63 : se_chk0 se_tt [sc_h0] se_Z 37 se_zt sc_63 sn_63 7 = true := by decide +kernel
set_option maxRecDepth 100000 in
theorem sk_63_0 : se_chkn se_tt [sc_h0] se_Z 37 se_zt sc_63 sn_63 7 sn_63_0 = true := by decide +kernel
theorem sm_63 {ty : Nat → Option Nat} {J : List mm_C → Prop} {kx : Nat} {zs : List mm_Zt} (hO : se_Ok ty J kx zs) (hh0 : se_Met ty se_tt J kx zs sc_h0) : se_Met ty se_tt J kx zs sc_63 := se_sound (C := [sc_h0]) hO.1 hO.2.1 hO.2.2 (fun n hn => by
  rcases List.mem_cons.mp hn with rfl | hn
  · exact hh0
  exact absurd hn List.not_mem_nil) sk_63 (fun n hn => by
  rcases List.mem_cons.mp hn with rfl | hn
  · exact sk_63_0
  exact absurd hn List.not_mem_nil)
/-- RaftTown$Tape.standsHere -/
def sc_64 : se_C := ((138, 2), ([(((82, 0, 0), 0, (0, 0, 0), (0, 0, 0)), (0, (0, 0, 0), (0, 0, 0))), (((8, 0, 0), 0, (0, 0, 0), (0, 0, 0)), (0, (0, 1, 0), (0, 0, 0)))], [some (1, 0, 0), some (1, 1, 0)], [], []), [([(((0, 0, 1), 0, (0, 0, 0), (0, 0, 0)), (0, (0, 0, 0), (0, 0, 0)))], some (1, 2, 0), [], [])], [])
def sn_64_0 : se_Nd := (20, ([(((82, 0, 0), 0, (0, 0, 0), (0, 0, 0)), (3, (0, 0, 0), (0, 0, 0))), (((8, 0, 0), 0, (0, 0, 0), (0, 0, 0)), (3, (0, 1, 0), (0, 0, 0))), (((0, 0, 4), 0, (0, 0, 0), (0, 0, 0)), (0, (0, 2, 0), (0, 0, 0)))], [some (1, 0, 0), some (1, 1, 0), some (1, 2, 0)], [], []), [(0, 0, 0), ((-1), 2, 0), (0, 0, 0)])
abbrev sn_64 : List se_Nd := [sn_64_0]
set_option maxRecDepth 100000 in
theorem sk_64 : se_chk0 se_tt [sc_h0] se_Z 37 se_zt sc_64 sn_64 7 = true := by decide +kernel
set_option maxRecDepth 100000 in
theorem sk_64_0 : se_chkn se_tt [sc_h0] se_Z 37 se_zt sc_64 sn_64 7 sn_64_0 = true := by decide +kernel
theorem sm_64 {ty : Nat → Option Nat} {J : List mm_C → Prop} {kx : Nat} {zs : List mm_Zt} (hO : se_Ok ty J kx zs) (hh0 : se_Met ty se_tt J kx zs sc_h0) : se_Met ty se_tt J kx zs sc_64 := se_sound (C := [sc_h0]) hO.1 hO.2.1 hO.2.2 (fun n hn => by
  rcases List.mem_cons.mp hn with rfl | hn
  · exact hh0
  exact absurd hn List.not_mem_nil) sk_64 (fun n hn => by
  rcases List.mem_cons.mp hn with rfl | hn
  · exact sk_64_0
  exact absurd hn List.not_mem_nil)
/-- RaftTown$Tape.standsHere -/
def sc_65 : se_C := ((138, 2), ([(((82, 0, 0), 0, (0, 0, 0), (0, 0, 0)), (0, (0, 0, 0), (0, 0, 0))), (((9, 0, 0), 0, (0, 0, 0), (0, 0, 0)), (0, (0, 1, 0), (0, 0, 0)))], [some (1, 0, 0), some (1, 1, 0)], [], []), [([(((0, 0, 1), 0, (0, 0, 0), (0, 0, 0)), (0, (0, 0, 0), (0, 0, 0)))], some (1, 2, 0), [], [])], [])
def sn_65_0 : se_Nd := (20, ([(((82, 0, 0), 0, (0, 0, 0), (0, 0, 0)), (3, (0, 0, 0), (0, 0, 0))), (((9, 0, 0), 0, (0, 0, 0), (0, 0, 0)), (3, (0, 1, 0), (0, 0, 0))), (((0, 0, 8), 0, (0, 0, 0), (0, 0, 0)), (0, (0, 2, 0), (0, 0, 0)))], [some (1, 0, 0), some (1, 1, 0), some (1, 2, 0)], [], []), [(0, 0, 0), ((-1), 2, 0), (0, 0, 0)])
abbrev sn_65 : List se_Nd := [sn_65_0]
set_option maxRecDepth 100000 in
theorem sk_65 : se_chk0 se_tt [sc_h0] se_Z 37 se_zt sc_65 sn_65 7 = true := by decide +kernel
set_option maxRecDepth 100000 in
theorem sk_65_0 : se_chkn se_tt [sc_h0] se_Z 37 se_zt sc_65 sn_65 7 sn_65_0 = true := by decide +kernel
theorem sm_65 {ty : Nat → Option Nat} {J : List mm_C → Prop} {kx : Nat} {zs : List mm_Zt} (hO : se_Ok ty J kx zs) (hh0 : se_Met ty se_tt J kx zs sc_h0) : se_Met ty se_tt J kx zs sc_65 := se_sound (C := [sc_h0]) hO.1 hO.2.1 hO.2.2 (fun n hn => by
  rcases List.mem_cons.mp hn with rfl | hn
  · exact hh0
  exact absurd hn List.not_mem_nil) sk_65 (fun n hn => by
  rcases List.mem_cons.mp hn with rfl | hn
  · exact sk_65_0
  exact absurd hn List.not_mem_nil)
/-- RaftTown$Tape.standsHere -/
def sc_66 : se_C := ((138, 2), ([(((82, 0, 0), 0, (0, 0, 0), (0, 0, 0)), (0, (0, 0, 0), (0, 0, 0))), (((10, 0, 0), 0, (0, 0, 0), (0, 0, 0)), (0, (0, 1, 0), (0, 0, 0)))], [some (1, 0, 0), some (1, 1, 0)], [], []), [([(((0, 0, 1), 0, (0, 0, 0), (0, 0, 0)), (0, (0, 0, 0), (0, 0, 0)))], some (1, 2, 0), [], [])], [])
def sn_66_0 : se_Nd := (20, ([(((82, 0, 0), 0, (0, 0, 0), (0, 0, 0)), (3, (0, 0, 0), (0, 0, 0))), (((10, 0, 0), 0, (0, 0, 0), (0, 0, 0)), (3, (0, 1, 0), (0, 0, 0))), (((0, 0, 3), 0, (0, 0, 0), (0, 0, 0)), (0, (0, 2, 0), (0, 0, 0)))], [some (1, 0, 0), some (1, 1, 0), some (1, 2, 0)], [], []), [(0, 0, 0), ((-1), 2, 0), (0, 0, 0)])
abbrev sn_66 : List se_Nd := [sn_66_0]
set_option maxRecDepth 100000 in
theorem sk_66 : se_chk0 se_tt [sc_h0] se_Z 37 se_zt sc_66 sn_66 7 = true := by decide +kernel
set_option maxRecDepth 100000 in
theorem sk_66_0 : se_chkn se_tt [sc_h0] se_Z 37 se_zt sc_66 sn_66 7 sn_66_0 = true := by decide +kernel
theorem sm_66 {ty : Nat → Option Nat} {J : List mm_C → Prop} {kx : Nat} {zs : List mm_Zt} (hO : se_Ok ty J kx zs) (hh0 : se_Met ty se_tt J kx zs sc_h0) : se_Met ty se_tt J kx zs sc_66 := se_sound (C := [sc_h0]) hO.1 hO.2.1 hO.2.2 (fun n hn => by
  rcases List.mem_cons.mp hn with rfl | hn
  · exact hh0
  exact absurd hn List.not_mem_nil) sk_66 (fun n hn => by
  rcases List.mem_cons.mp hn with rfl | hn
  · exact sk_66_0
  exact absurd hn List.not_mem_nil)
/-- RaftTown$Tape.standsHere -/
def sc_67 : se_C := ((138, 2), ([(((82, 0, 0), 0, (0, 0, 0), (0, 0, 0)), (0, (0, 0, 0), (0, 0, 0))), (((11, 0, 0), 0, (0, 0, 0), (0, 0, 0)), (0, (0, 1, 0), (0, 0, 0)))], [some (1, 0, 0), some (1, 1, 0)], [], []), [([(((0, 0, 1), 0, (0, 0, 0), (0, 0, 0)), (0, (0, 0, 0), (0, 0, 0)))], some (1, 2, 0), [], [])], [])
def sn_67_0 : se_Nd := (20, ([(((82, 0, 0), 0, (0, 0, 0), (0, 0, 0)), (3, (0, 0, 0), (0, 0, 0))), (((11, 0, 0), 0, (0, 0, 0), (0, 0, 0)), (3, (0, 1, 0), (0, 0, 0))), (((0, 0, 3), 0, (0, 0, 0), (0, 0, 0)), (0, (0, 2, 0), (0, 0, 0)))], [some (1, 0, 0), some (1, 1, 0), some (1, 2, 0)], [], []), [(0, 0, 0), ((-1), 2, 0), (0, 0, 0)])
abbrev sn_67 : List se_Nd := [sn_67_0]
set_option maxRecDepth 100000 in
theorem sk_67 : se_chk0 se_tt [sc_h0] se_Z 37 se_zt sc_67 sn_67 7 = true := by decide +kernel
set_option maxRecDepth 100000 in
theorem sk_67_0 : se_chkn se_tt [sc_h0] se_Z 37 se_zt sc_67 sn_67 7 sn_67_0 = true := by decide +kernel
theorem sm_67 {ty : Nat → Option Nat} {J : List mm_C → Prop} {kx : Nat} {zs : List mm_Zt} (hO : se_Ok ty J kx zs) (hh0 : se_Met ty se_tt J kx zs sc_h0) : se_Met ty se_tt J kx zs sc_67 := se_sound (C := [sc_h0]) hO.1 hO.2.1 hO.2.2 (fun n hn => by
  rcases List.mem_cons.mp hn with rfl | hn
  · exact hh0
  exact absurd hn List.not_mem_nil) sk_67 (fun n hn => by
  rcases List.mem_cons.mp hn with rfl | hn
  · exact sk_67_0
  exact absurd hn List.not_mem_nil)
/-- RaftTown$Tape.standsHere -/
def sc_68 : se_C := ((138, 2), ([(((82, 0, 0), 0, (0, 0, 0), (0, 0, 0)), (0, (0, 0, 0), (0, 0, 0))), (((12, 0, 0), 0, (0, 0, 0), (0, 0, 0)), (0, (0, 1, 0), (0, 0, 0)))], [some (1, 0, 0), some (1, 1, 0)], [], []), [([(((0, 0, 1), 0, (0, 0, 0), (0, 0, 0)), (0, (0, 0, 0), (0, 0, 0)))], some (1, 2, 0), [], [])], [])
def sn_68_0 : se_Nd := (20, ([(((82, 0, 0), 0, (0, 0, 0), (0, 0, 0)), (3, (0, 0, 0), (0, 0, 0))), (((12, 0, 0), 0, (0, 0, 0), (0, 0, 0)), (3, (0, 1, 0), (0, 0, 0))), (((0, 0, 5), 0, (0, 0, 0), (0, 0, 0)), (0, (0, 2, 0), (0, 0, 0)))], [some (1, 0, 0), some (1, 1, 0), some (1, 2, 0)], [], []), [(0, 0, 0), ((-1), 2, 0), (0, 0, 0)])
abbrev sn_68 : List se_Nd := [sn_68_0]
set_option maxRecDepth 100000 in
theorem sk_68 : se_chk0 se_tt [sc_h0] se_Z 37 se_zt sc_68 sn_68 7 = true := by decide +kernel
set_option maxRecDepth 100000 in
theorem sk_68_0 : se_chkn se_tt [sc_h0] se_Z 37 se_zt sc_68 sn_68 7 sn_68_0 = true := by decide +kernel
theorem sm_68 {ty : Nat → Option Nat} {J : List mm_C → Prop} {kx : Nat} {zs : List mm_Zt} (hO : se_Ok ty J kx zs) (hh0 : se_Met ty se_tt J kx zs sc_h0) : se_Met ty se_tt J kx zs sc_68 := se_sound (C := [sc_h0]) hO.1 hO.2.1 hO.2.2 (fun n hn => by
  rcases List.mem_cons.mp hn with rfl | hn
  · exact hh0
  exact absurd hn List.not_mem_nil) sk_68 (fun n hn => by
  rcases List.mem_cons.mp hn with rfl | hn
  · exact sk_68_0
  exact absurd hn List.not_mem_nil)
/-- RaftTown$Tape.standsHere -/
def sc_69 : se_C := ((138, 2), ([(((82, 0, 0), 0, (0, 0, 0), (0, 0, 0)), (0, (0, 0, 0), (0, 0, 0))), (((13, 0, 0), 0, (0, 0, 0), (0, 0, 0)), (0, (0, 1, 0), (0, 0, 0)))], [some (1, 0, 0), some (1, 1, 0)], [], []), [([(((0, 0, 1), 0, (0, 0, 0), (0, 0, 0)), (0, (0, 0, 0), (0, 0, 0)))], some (1, 2, 0), [], [])], [])
def sn_69_0 : se_Nd := (20, ([(((82, 0, 0), 0, (0, 0, 0), (0, 0, 0)), (3, (0, 0, 0), (0, 0, 0))), (((13, 0, 0), 0, (0, 0, 0), (0, 0, 0)), (3, (0, 1, 0), (0, 0, 0))), (((0, 0, 5), 0, (0, 0, 0), (0, 0, 0)), (0, (0, 2, 0), (0, 0, 0)))], [some (1, 0, 0), some (1, 1, 0), some (1, 2, 0)], [], []), [(0, 0, 0), ((-1), 2, 0), (0, 0, 0)])
abbrev sn_69 : List se_Nd := [sn_69_0]
set_option maxRecDepth 100000 in
theorem sk_69 : se_chk0 se_tt [sc_h0] se_Z 37 se_zt sc_69 sn_69 7 = true := by decide +kernel
set_option maxRecDepth 100000 in
theorem sk_69_0 : se_chkn se_tt [sc_h0] se_Z 37 se_zt sc_69 sn_69 7 sn_69_0 = true := by decide +kernel
theorem sm_69 {ty : Nat → Option Nat} {J : List mm_C → Prop} {kx : Nat} {zs : List mm_Zt} (hO : se_Ok ty J kx zs) (hh0 : se_Met ty se_tt J kx zs sc_h0) : se_Met ty se_tt J kx zs sc_69 := se_sound (C := [sc_h0]) hO.1 hO.2.1 hO.2.2 (fun n hn => by
  rcases List.mem_cons.mp hn with rfl | hn
  · exact hh0
  exact absurd hn List.not_mem_nil) sk_69 (fun n hn => by
  rcases List.mem_cons.mp hn with rfl | hn
  · exact sk_69_0
  exact absurd hn List.not_mem_nil)
/-- RaftTown$Tape.standsHere -/
def sc_70 : se_C := ((138, 2), ([(((82, 0, 0), 0, (0, 0, 0), (0, 0, 0)), (0, (0, 0, 0), (0, 0, 0))), (((14, 0, 0), 0, (0, 0, 0), (0, 0, 0)), (0, (0, 1, 0), (0, 0, 0)))], [some (1, 0, 0), some (1, 1, 0)], [], []), [([(((0, 0, 1), 0, (0, 0, 0), (0, 0, 0)), (0, (0, 0, 0), (0, 0, 0)))], some (1, 2, 0), [], [])], [])
def sn_70_0 : se_Nd := (20, ([(((82, 0, 0), 0, (0, 0, 0), (0, 0, 0)), (3, (0, 0, 0), (0, 0, 0))), (((14, 0, 0), 0, (0, 0, 0), (0, 0, 0)), (3, (0, 1, 0), (0, 0, 0))), (((0, 0, 3), 0, (0, 0, 0), (0, 0, 0)), (0, (0, 2, 0), (0, 0, 0)))], [some (1, 0, 0), some (1, 1, 0), some (1, 2, 0)], [], []), [(0, 0, 0), ((-1), 2, 0), (0, 0, 0)])
abbrev sn_70 : List se_Nd := [sn_70_0]
set_option maxRecDepth 100000 in
theorem sk_70 : se_chk0 se_tt [sc_h0] se_Z 37 se_zt sc_70 sn_70 7 = true := by decide +kernel
set_option maxRecDepth 100000 in
theorem sk_70_0 : se_chkn se_tt [sc_h0] se_Z 37 se_zt sc_70 sn_70 7 sn_70_0 = true := by decide +kernel
theorem sm_70 {ty : Nat → Option Nat} {J : List mm_C → Prop} {kx : Nat} {zs : List mm_Zt} (hO : se_Ok ty J kx zs) (hh0 : se_Met ty se_tt J kx zs sc_h0) : se_Met ty se_tt J kx zs sc_70 := se_sound (C := [sc_h0]) hO.1 hO.2.1 hO.2.2 (fun n hn => by
  rcases List.mem_cons.mp hn with rfl | hn
  · exact hh0
  exact absurd hn List.not_mem_nil) sk_70 (fun n hn => by
  rcases List.mem_cons.mp hn with rfl | hn
  · exact sk_70_0
  exact absurd hn List.not_mem_nil)
/-- RaftTown$Tape.standsHere -/
def sc_71 : se_C := ((138, 2), ([(((82, 0, 0), 0, (0, 0, 0), (0, 0, 0)), (0, (0, 0, 0), (0, 0, 0))), (((15, 0, 0), 0, (0, 0, 0), (0, 0, 0)), (0, (0, 1, 0), (0, 0, 0)))], [some (1, 0, 0), some (1, 1, 0)], [], []), [([(((0, 0, 1), 0, (0, 0, 0), (0, 0, 0)), (0, (0, 0, 0), (0, 0, 0)))], some (1, 2, 0), [], [])], [])
def sn_71_0 : se_Nd := (20, ([(((82, 0, 0), 0, (0, 0, 0), (0, 0, 0)), (3, (0, 0, 0), (0, 0, 0))), (((15, 0, 0), 0, (0, 0, 0), (0, 0, 0)), (3, (0, 1, 0), (0, 0, 0))), (((0, 0, 4), 0, (0, 0, 0), (0, 0, 0)), (0, (0, 2, 0), (0, 0, 0)))], [some (1, 0, 0), some (1, 1, 0), some (1, 2, 0)], [], []), [(0, 0, 0), ((-1), 2, 0), (0, 0, 0)])
abbrev sn_71 : List se_Nd := [sn_71_0]
set_option maxRecDepth 100000 in
theorem sk_71 : se_chk0 se_tt [sc_h0] se_Z 37 se_zt sc_71 sn_71 7 = true := by decide +kernel
set_option maxRecDepth 100000 in
theorem sk_71_0 : se_chkn se_tt [sc_h0] se_Z 37 se_zt sc_71 sn_71 7 sn_71_0 = true := by decide +kernel
theorem sm_71 {ty : Nat → Option Nat} {J : List mm_C → Prop} {kx : Nat} {zs : List mm_Zt} (hO : se_Ok ty J kx zs) (hh0 : se_Met ty se_tt J kx zs sc_h0) : se_Met ty se_tt J kx zs sc_71 := se_sound (C := [sc_h0]) hO.1 hO.2.1 hO.2.2 (fun n hn => by
  rcases List.mem_cons.mp hn with rfl | hn
  · exact hh0
  exact absurd hn List.not_mem_nil) sk_71 (fun n hn => by
  rcases List.mem_cons.mp hn with rfl | hn
  · exact sk_71_0
  exact absurd hn List.not_mem_nil)
/-- RaftTown$Tape.standsHere -/
def sc_72 : se_C := ((138, 2), ([(((82, 0, 0), 0, (0, 0, 0), (0, 0, 0)), (0, (0, 0, 0), (0, 0, 0))), (((16, 0, 0), 0, (0, 0, 0), (0, 0, 0)), (0, (0, 1, 0), (0, 0, 0)))], [some (1, 0, 0), some (1, 1, 0)], [], []), [([(((0, 0, 1), 0, (0, 0, 0), (0, 0, 0)), (0, (0, 0, 0), (0, 0, 0)))], some (1, 2, 0), [], [])], [])
def sn_72_0 : se_Nd := (20, ([(((82, 0, 0), 0, (0, 0, 0), (0, 0, 0)), (3, (0, 0, 0), (0, 0, 0))), (((16, 0, 0), 0, (0, 0, 0), (0, 0, 0)), (3, (0, 1, 0), (0, 0, 0))), (((0, 0, 3), 0, (0, 0, 0), (0, 0, 0)), (0, (0, 2, 0), (0, 0, 0)))], [some (1, 0, 0), some (1, 1, 0), some (1, 2, 0)], [], []), [(0, 0, 0), ((-1), 2, 0), (0, 0, 0)])
abbrev sn_72 : List se_Nd := [sn_72_0]
set_option maxRecDepth 100000 in
theorem sk_72 : se_chk0 se_tt [sc_h0] se_Z 37 se_zt sc_72 sn_72 7 = true := by decide +kernel
set_option maxRecDepth 100000 in
theorem sk_72_0 : se_chkn se_tt [sc_h0] se_Z 37 se_zt sc_72 sn_72 7 sn_72_0 = true := by decide +kernel
theorem sm_72 {ty : Nat → Option Nat} {J : List mm_C → Prop} {kx : Nat} {zs : List mm_Zt} (hO : se_Ok ty J kx zs) (hh0 : se_Met ty se_tt J kx zs sc_h0) : se_Met ty se_tt J kx zs sc_72 := se_sound (C := [sc_h0]) hO.1 hO.2.1 hO.2.2 (fun n hn => by
  rcases List.mem_cons.mp hn with rfl | hn
  · exact hh0
  exact absurd hn List.not_mem_nil) sk_72 (fun n hn => by
  rcases List.mem_cons.mp hn with rfl | hn
  · exact sk_72_0
  exact absurd hn List.not_mem_nil)
/-- RaftTown$Tape.standsHere -/
def sc_73 : se_C := ((138, 2), ([(((82, 0, 0), 0, (0, 0, 0), (0, 0, 0)), (0, (0, 0, 0), (0, 0, 0))), (((17, 0, 0), 0, (0, 0, 0), (0, 0, 0)), (0, (0, 1, 0), (0, 0, 0)))], [some (1, 0, 0), some (1, 1, 0)], [], []), [([(((0, 0, 1), 0, (0, 0, 0), (0, 0, 0)), (0, (0, 0, 0), (0, 0, 0)))], some (1, 2, 0), [], [])], [])
def sn_73_0 : se_Nd := (20, ([(((82, 0, 0), 0, (0, 0, 0), (0, 0, 0)), (3, (0, 0, 0), (0, 0, 0))), (((17, 0, 0), 0, (0, 0, 0), (0, 0, 0)), (3, (0, 1, 0), (0, 0, 0))), (((0, 0, 3), 0, (0, 0, 0), (0, 0, 0)), (0, (0, 2, 0), (0, 0, 0)))], [some (1, 0, 0), some (1, 1, 0), some (1, 2, 0)], [], []), [(0, 0, 0), ((-1), 2, 0), (0, 0, 0)])
abbrev sn_73 : List se_Nd := [sn_73_0]
set_option maxRecDepth 100000 in
theorem sk_73 : se_chk0 se_tt [sc_h0] se_Z 37 se_zt sc_73 sn_73 7 = true := by decide +kernel
set_option maxRecDepth 100000 in
theorem sk_73_0 : se_chkn se_tt [sc_h0] se_Z 37 se_zt sc_73 sn_73 7 sn_73_0 = true := by decide +kernel
theorem sm_73 {ty : Nat → Option Nat} {J : List mm_C → Prop} {kx : Nat} {zs : List mm_Zt} (hO : se_Ok ty J kx zs) (hh0 : se_Met ty se_tt J kx zs sc_h0) : se_Met ty se_tt J kx zs sc_73 := se_sound (C := [sc_h0]) hO.1 hO.2.1 hO.2.2 (fun n hn => by
  rcases List.mem_cons.mp hn with rfl | hn
  · exact hh0
  exact absurd hn List.not_mem_nil) sk_73 (fun n hn => by
  rcases List.mem_cons.mp hn with rfl | hn
  · exact sk_73_0
  exact absurd hn List.not_mem_nil)
/-- RaftTown$Tape.standsHere -/
def sc_74 : se_C := ((138, 2), ([(((82, 0, 0), 0, (0, 0, 0), (0, 0, 0)), (0, (0, 0, 0), (0, 0, 0))), (((18, 0, 0), 0, (0, 0, 0), (0, 0, 0)), (0, (0, 1, 0), (0, 0, 0)))], [some (1, 0, 0), some (1, 1, 0)], [], []), [([(((0, 0, 1), 0, (0, 0, 0), (0, 0, 0)), (0, (0, 0, 0), (0, 0, 0)))], some (1, 2, 0), [], [])], [])
def sn_74_0 : se_Nd := (20, ([(((82, 0, 0), 0, (0, 0, 0), (0, 0, 0)), (3, (0, 0, 0), (0, 0, 0))), (((18, 0, 0), 0, (0, 0, 0), (0, 0, 0)), (3, (0, 1, 0), (0, 0, 0))), (((0, 0, 5), 0, (0, 0, 0), (0, 0, 0)), (0, (0, 2, 0), (0, 0, 0)))], [some (1, 0, 0), some (1, 1, 0), some (1, 2, 0)], [], []), [(0, 0, 0), ((-1), 2, 0), (0, 0, 0)])
abbrev sn_74 : List se_Nd := [sn_74_0]
set_option maxRecDepth 100000 in
theorem sk_74 : se_chk0 se_tt [sc_h0] se_Z 37 se_zt sc_74 sn_74 7 = true := by decide +kernel
set_option maxRecDepth 100000 in
theorem sk_74_0 : se_chkn se_tt [sc_h0] se_Z 37 se_zt sc_74 sn_74 7 sn_74_0 = true := by decide +kernel
theorem sm_74 {ty : Nat → Option Nat} {J : List mm_C → Prop} {kx : Nat} {zs : List mm_Zt} (hO : se_Ok ty J kx zs) (hh0 : se_Met ty se_tt J kx zs sc_h0) : se_Met ty se_tt J kx zs sc_74 := se_sound (C := [sc_h0]) hO.1 hO.2.1 hO.2.2 (fun n hn => by
  rcases List.mem_cons.mp hn with rfl | hn
  · exact hh0
  exact absurd hn List.not_mem_nil) sk_74 (fun n hn => by
  rcases List.mem_cons.mp hn with rfl | hn
  · exact sk_74_0
  exact absurd hn List.not_mem_nil)
