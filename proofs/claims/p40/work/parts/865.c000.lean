/-! ===== printed by wip/p37/gen_law4.py: contracts by region ===== -/
/-- RaftTown$Sheet.rule -/
def sc_r0_0 : se_C := ((200, 1), ([(((81, 0, 0), 0, (0, 0, 0), (0, 0, 0)), (0, (0, 0, 0), (0, 0, 0))), (((0, 0, 0), 0, (0, 0, 0), (0, 0, 0)), (0, (0, 1, 0), (0, 0, 0))), (((0, 0, 20), 0, (0, 0, 0), (0, 0, 0)), (0, (0, 2, 0), (0, 0, 0)))], [some (1, 0, 0), some (1, 1, 0), some (1, 2, 0)], [], []), [([], some (0, 0, 0), [((1, 0, 0), (0, 0, 0), (1, 1, 0)), ((1, 0, 0), (0, 0, 1), (0, 0, 0))], [])], [(52, 0, 20), (79, 0, 1), (79, 1, 2)])
def sn_r0_0_0 : se_Nd := (20, ([(((81, 0, 0), 0, (0, 0, 0), (0, 0, 0)), (3, (0, 0, 0), (0, 0, 0))), (((0, 0, 0), 0, (0, 0, 0), (0, 0, 0)), (3, (0, 1, 0), (0, 0, 0))), (((0, 0, 20), 0, (0, 0, 0), (0, 0, 0)), (3, (0, 2, 0), (0, 0, 0))), (((0, 0, 20), 0, (0, 0, 0), (0, 0, 0)), (0, (0, 3, 0), (0, 0, 0)))], [some (1, 0, 0), some (1, 1, 0), some (1, 2, 0), some (1, 3, 0)], [((1, 0, 0), (0, 0, 0), (1, 1, 0)), ((1, 0, 0), (0, 0, 1), (0, 0, 0))], []), [(0, 0, 0), ((-1), 3, 0), (0, 0, 0)])
abbrev sn_r0_0 : List se_Nd := [sn_r0_0_0]
set_option maxRecDepth 100000 in
theorem sk_r0_0 : se_chk0 se_tt [] se_Z 37 se_zt sc_r0_0 sn_r0_0 4 = true := by decide +kernel
set_option maxRecDepth 100000 in
theorem sk_r0_0_0 : se_chkn se_tt [] se_Z 37 se_zt sc_r0_0 sn_r0_0 4 sn_r0_0_0 = true := by decide +kernel
theorem sm_r0_0 {ty : Nat → Option Nat} {J : List mm_C → Prop} {kx : Nat} {zs : List mm_Zt} (hO : se_Ok ty J kx zs) : se_Met ty se_tt J kx zs sc_r0_0 := se_sound (C := []) hO.1 hO.2.1 hO.2.2 (fun _ hn => absurd hn List.not_mem_nil) sk_r0_0 (fun n hn => by
  rcases List.mem_cons.mp hn with rfl | hn
  · exact sk_r0_0_0
  exact absurd hn List.not_mem_nil)
/-- RaftTown$Sheet.rule -/
def sc_r0_8 : se_C := ((200, 1), ([(((81, 0, 0), 0, (0, 0, 0), (0, 0, 0)), (0, (0, 0, 0), (0, 0, 0))), (((0, 8, 8), 0, (0, 0, 0), (0, 0, 0)), (0, (0, 1, 0), (0, 0, 0))), (((0, 0, 20), 0, (0, 0, 0), (0, 0, 0)), (0, (0, 2, 0), (0, 0, 0)))], [some (1, 0, 0), some (1, 1, 0), some (1, 2, 0)], [], []), [([], some (1, 2, 0), [((1, 0, 0), (0, 0, 0), (1, 1, 0)), ((1, 0, 0), (0, 0, 1), (1, 2, 0))], [])], [(52, 0, 20), (79, 0, 1), (79, 1, 2)])
def sn_r0_8_0 : se_Nd := (20, ([(((81, 0, 0), 0, (0, 0, 0), (0, 0, 0)), (3, (0, 0, 0), (0, 0, 0))), (((0, 8, 8), 0, (0, 0, 0), (0, 0, 0)), (3, (0, 1, 0), (0, 0, 0))), (((0, 0, 20), 0, (0, 0, 0), (0, 0, 0)), (3, (0, 2, 0), (0, 0, 0))), (((0, 0, 20), 0, (0, 0, 0), (0, 0, 0)), (0, (0, 3, 0), (0, 0, 0)))], [some (1, 0, 0), some (1, 1, 0), some (1, 2, 0), some (1, 3, 0)], [((1, 0, 0), (0, 0, 0), (1, 1, 0)), ((1, 0, 0), (0, 0, 1), (1, 2, 0))], []), [(0, 0, 0), ((-1), 3, 0), (0, 0, 0)])
abbrev sn_r0_8 : List se_Nd := [sn_r0_8_0]
set_option maxRecDepth 100000 in
theorem sk_r0_8 : se_chk0 se_tt [] se_Z 37 se_zt sc_r0_8 sn_r0_8 4 = true := by decide +kernel
set_option maxRecDepth 100000 in
theorem sk_r0_8_0 : se_chkn se_tt [] se_Z 37 se_zt sc_r0_8 sn_r0_8 4 sn_r0_8_0 = true := by decide +kernel
theorem sm_r0_8 {ty : Nat → Option Nat} {J : List mm_C → Prop} {kx : Nat} {zs : List mm_Zt} (hO : se_Ok ty J kx zs) : se_Met ty se_tt J kx zs sc_r0_8 := se_sound (C := []) hO.1 hO.2.1 hO.2.2 (fun _ hn => absurd hn List.not_mem_nil) sk_r0_8 (fun n hn => by
  rcases List.mem_cons.mp hn with rfl | hn
  · exact sk_r0_8_0
  exact absurd hn List.not_mem_nil)
/-- RaftTown$Sheet.rule -/
def sc_r0_16 : se_C := ((200, 1), ([(((81, 0, 0), 0, (0, 0, 0), (0, 0, 0)), (0, (0, 0, 0), (0, 0, 0))), (((0, 16, 16), 0, (0, 0, 0), (0, 0, 0)), (0, (0, 1, 0), (0, 0, 0))), (((0, 0, 20), 0, (0, 0, 0), (0, 0, 0)), (0, (0, 2, 0), (0, 0, 0)))], [some (1, 0, 0), some (1, 1, 0), some (1, 2, 0)], [], []), [([], some (1, 2, 0), [((1, 0, 0), (0, 0, 0), (1, 1, 0)), ((1, 0, 0), (0, 0, 1), (1, 2, 0))], [])], [(52, 0, 20), (79, 0, 1), (79, 1, 2)])
def sn_r0_16_0 : se_Nd := (20, ([(((81, 0, 0), 0, (0, 0, 0), (0, 0, 0)), (3, (0, 0, 0), (0, 0, 0))), (((0, 16, 16), 0, (0, 0, 0), (0, 0, 0)), (3, (0, 1, 0), (0, 0, 0))), (((0, 0, 20), 0, (0, 0, 0), (0, 0, 0)), (3, (0, 2, 0), (0, 0, 0))), (((0, 0, 20), 0, (0, 0, 0), (0, 0, 0)), (0, (0, 3, 0), (0, 0, 0)))], [some (1, 0, 0), some (1, 1, 0), some (1, 2, 0), some (1, 3, 0)], [((1, 0, 0), (0, 0, 0), (1, 1, 0)), ((1, 0, 0), (0, 0, 1), (1, 2, 0))], []), [(0, 0, 0), ((-1), 3, 0), (0, 0, 0)])
abbrev sn_r0_16 : List se_Nd := [sn_r0_16_0]
set_option maxRecDepth 100000 in
theorem sk_r0_16 : se_chk0 se_tt [] se_Z 37 se_zt sc_r0_16 sn_r0_16 4 = true := by decide +kernel
set_option maxRecDepth 100000 in
theorem sk_r0_16_0 : se_chkn se_tt [] se_Z 37 se_zt sc_r0_16 sn_r0_16 4 sn_r0_16_0 = true := by decide +kernel
theorem sm_r0_16 {ty : Nat → Option Nat} {J : List mm_C → Prop} {kx : Nat} {zs : List mm_Zt} (hO : se_Ok ty J kx zs) : se_Met ty se_tt J kx zs sc_r0_16 := se_sound (C := []) hO.1 hO.2.1 hO.2.2 (fun _ hn => absurd hn List.not_mem_nil) sk_r0_16 (fun n hn => by
  rcases List.mem_cons.mp hn with rfl | hn
  · exact sk_r0_16_0
  exact absurd hn List.not_mem_nil)
/-- RaftTown$Sheet.rule -/
def sc_r0_32 : se_C := ((200, 1), ([(((81, 0, 0), 0, (0, 0, 0), (0, 0, 0)), (0, (0, 0, 0), (0, 0, 0))), (((0, 32, 32), 0, (0, 0, 0), (0, 0, 0)), (0, (0, 1, 0), (0, 0, 0))), (((0, 0, 20), 0, (0, 0, 0), (0, 0, 0)), (0, (0, 2, 0), (0, 0, 0)))], [some (1, 0, 0), some (1, 1, 0), some (1, 2, 0)], [], []), [([], some (1, 2, 0), [((1, 0, 0), (0, 0, 0), (1, 1, 0)), ((1, 0, 0), (0, 0, 1), (1, 2, 0))], [])], [(52, 0, 20), (79, 0, 1), (79, 1, 2)])
def sn_r0_32_0 : se_Nd := (20, ([(((81, 0, 0), 0, (0, 0, 0), (0, 0, 0)), (3, (0, 0, 0), (0, 0, 0))), (((0, 32, 32), 0, (0, 0, 0), (0, 0, 0)), (3, (0, 1, 0), (0, 0, 0))), (((0, 0, 20), 0, (0, 0, 0), (0, 0, 0)), (3, (0, 2, 0), (0, 0, 0))), (((0, 0, 20), 0, (0, 0, 0), (0, 0, 0)), (0, (0, 3, 0), (0, 0, 0)))], [some (1, 0, 0), some (1, 1, 0), some (1, 2, 0), some (1, 3, 0)], [((1, 0, 0), (0, 0, 0), (1, 1, 0)), ((1, 0, 0), (0, 0, 1), (1, 2, 0))], []), [(0, 0, 0), ((-1), 3, 0), (0, 0, 0)])
abbrev sn_r0_32 : List se_Nd := [sn_r0_32_0]
set_option maxRecDepth 100000 in
theorem sk_r0_32 : se_chk0 se_tt [] se_Z 37 se_zt sc_r0_32 sn_r0_32 4 = true := by decide +kernel
set_option maxRecDepth 100000 in
theorem sk_r0_32_0 : se_chkn se_tt [] se_Z 37 se_zt sc_r0_32 sn_r0_32 4 sn_r0_32_0 = true := by decide +kernel
theorem sm_r0_32 {ty : Nat → Option Nat} {J : List mm_C → Prop} {kx : Nat} {zs : List mm_Zt} (hO : se_Ok ty J kx zs) : se_Met ty se_tt J kx zs sc_r0_32 := se_sound (C := []) hO.1 hO.2.1 hO.2.2 (fun _ hn => absurd hn List.not_mem_nil) sk_r0_32 (fun n hn => by
  rcases List.mem_cons.mp hn with rfl | hn
  · exact sk_r0_32_0
  exact absurd hn List.not_mem_nil)
/-- RaftTown$Sheet.rule -/
def sc_r1_0 : se_C := ((200, 1), ([(((121, 0, 0), 0, (0, 0, 0), (0, 0, 0)), (0, (0, 0, 0), (0, 0, 0))), (((0, 0, 0), 0, (0, 0, 0), (0, 0, 0)), (0, (0, 1, 0), (0, 0, 0))), (((0, 0, 20), 0, (0, 0, 0), (0, 0, 0)), (0, (0, 2, 0), (0, 0, 0)))], [some (1, 0, 0), some (1, 1, 0), some (1, 2, 0)], [], []), [([], some (0, 0, 0), [((1, 0, 0), (0, 0, 0), (1, 1, 0)), ((1, 0, 0), (0, 0, 1), (0, 0, 0))], [])], [(116, 0, 20), (119, 0, 1), (119, 1, 2)])
def sn_r1_0_0 : se_Nd := (20, ([(((121, 0, 0), 0, (0, 0, 0), (0, 0, 0)), (3, (0, 0, 0), (0, 0, 0))), (((0, 0, 0), 0, (0, 0, 0), (0, 0, 0)), (3, (0, 1, 0), (0, 0, 0))), (((0, 0, 20), 0, (0, 0, 0), (0, 0, 0)), (3, (0, 2, 0), (0, 0, 0))), (((0, 0, 20), 0, (0, 0, 0), (0, 0, 0)), (0, (0, 3, 0), (0, 0, 0)))], [some (1, 0, 0), some (1, 1, 0), some (1, 2, 0), some (1, 3, 0)], [((1, 0, 0), (0, 0, 0), (1, 1, 0)), ((1, 0, 0), (0, 0, 1), (0, 0, 0))], []), [(0, 0, 0), ((-1), 3, 0), (0, 0, 0)])
abbrev sn_r1_0 : List se_Nd := [sn_r1_0_0]
set_option maxRecDepth 100000 in
theorem sk_r1_0 : se_chk0 se_tt [] se_Z 37 se_zt sc_r1_0 sn_r1_0 4 = true := by decide +kernel
set_option maxRecDepth 100000 in
theorem sk_r1_0_0 : se_chkn se_tt [] se_Z 37 se_zt sc_r1_0 sn_r1_0 4 sn_r1_0_0 = true := by decide +kernel
theorem sm_r1_0 {ty : Nat → Option Nat} {J : List mm_C → Prop} {kx : Nat} {zs : List mm_Zt} (hO : se_Ok ty J kx zs) : se_Met ty se_tt J kx zs sc_r1_0 := se_sound (C := []) hO.1 hO.2.1 hO.2.2 (fun _ hn => absurd hn List.not_mem_nil) sk_r1_0 (fun n hn => by
  rcases List.mem_cons.mp hn with rfl | hn
  · exact sk_r1_0_0
  exact absurd hn List.not_mem_nil)
/-- RaftTown$Sheet.rule -/
def sc_r1_8 : se_C := ((200, 1), ([(((121, 0, 0), 0, (0, 0, 0), (0, 0, 0)), (0, (0, 0, 0), (0, 0, 0))), (((0, 8, 8), 0, (0, 0, 0), (0, 0, 0)), (0, (0, 1, 0), (0, 0, 0))), (((0, 0, 20), 0, (0, 0, 0), (0, 0, 0)), (0, (0, 2, 0), (0, 0, 0)))], [some (1, 0, 0), some (1, 1, 0), some (1, 2, 0)], [], []), [([], some (1, 2, 0), [((1, 0, 0), (0, 0, 0), (1, 1, 0)), ((1, 0, 0), (0, 0, 1), (1, 2, 0))], [])], [(116, 0, 20), (119, 0, 1), (119, 1, 2)])
def sn_r1_8_0 : se_Nd := (20, ([(((121, 0, 0), 0, (0, 0, 0), (0, 0, 0)), (3, (0, 0, 0), (0, 0, 0))), (((0, 8, 8), 0, (0, 0, 0), (0, 0, 0)), (3, (0, 1, 0), (0, 0, 0))), (((0, 0, 20), 0, (0, 0, 0), (0, 0, 0)), (3, (0, 2, 0), (0, 0, 0))), (((0, 0, 20), 0, (0, 0, 0), (0, 0, 0)), (0, (0, 3, 0), (0, 0, 0)))], [some (1, 0, 0), some (1, 1, 0), some (1, 2, 0), some (1, 3, 0)], [((1, 0, 0), (0, 0, 0), (1, 1, 0)), ((1, 0, 0), (0, 0, 1), (1, 2, 0))], []), [(0, 0, 0), ((-1), 3, 0), (0, 0, 0)])
abbrev sn_r1_8 : List se_Nd := [sn_r1_8_0]
set_option maxRecDepth 100000 in
theorem sk_r1_8 : se_chk0 se_tt [] se_Z 37 se_zt sc_r1_8 sn_r1_8 4 = true := by decide +kernel
set_option maxRecDepth 100000 in
theorem sk_r1_8_0 : se_chkn se_tt [] se_Z 37 se_zt sc_r1_8 sn_r1_8 4 sn_r1_8_0 = true := by decide +kernel
theorem sm_r1_8 {ty : Nat → Option Nat} {J : List mm_C → Prop} {kx : Nat} {zs : List mm_Zt} (hO : se_Ok ty J kx zs) : se_Met ty se_tt J kx zs sc_r1_8 := se_sound (C := []) hO.1 hO.2.1 hO.2.2 (fun _ hn => absurd hn List.not_mem_nil) sk_r1_8 (fun n hn => by
  rcases List.mem_cons.mp hn with rfl | hn
  · exact sk_r1_8_0
  exact absurd hn List.not_mem_nil)
/-- RaftTown$Sheet.rule -/
def sc_r1_16 : se_C := ((200, 1), ([(((121, 0, 0), 0, (0, 0, 0), (0, 0, 0)), (0, (0, 0, 0), (0, 0, 0))), (((0, 16, 16), 0, (0, 0, 0), (0, 0, 0)), (0, (0, 1, 0), (0, 0, 0))), (((0, 0, 20), 0, (0, 0, 0), (0, 0, 0)), (0, (0, 2, 0), (0, 0, 0)))], [some (1, 0, 0), some (1, 1, 0), some (1, 2, 0)], [], []), [([], some (1, 2, 0), [((1, 0, 0), (0, 0, 0), (1, 1, 0)), ((1, 0, 0), (0, 0, 1), (1, 2, 0))], [])], [(116, 0, 20), (119, 0, 1), (119, 1, 2)])
def sn_r1_16_0 : se_Nd := (20, ([(((121, 0, 0), 0, (0, 0, 0), (0, 0, 0)), (3, (0, 0, 0), (0, 0, 0))), (((0, 16, 16), 0, (0, 0, 0), (0, 0, 0)), (3, (0, 1, 0), (0, 0, 0))), (((0, 0, 20), 0, (0, 0, 0), (0, 0, 0)), (3, (0, 2, 0), (0, 0, 0))), (((0, 0, 20), 0, (0, 0, 0), (0, 0, 0)), (0, (0, 3, 0), (0, 0, 0)))], [some (1, 0, 0), some (1, 1, 0), some (1, 2, 0), some (1, 3, 0)], [((1, 0, 0), (0, 0, 0), (1, 1, 0)), ((1, 0, 0), (0, 0, 1), (1, 2, 0))], []), [(0, 0, 0), ((-1), 3, 0), (0, 0, 0)])
abbrev sn_r1_16 : List se_Nd := [sn_r1_16_0]
set_option maxRecDepth 100000 in
theorem sk_r1_16 : se_chk0 se_tt [] se_Z 37 se_zt sc_r1_16 sn_r1_16 4 = true := by decide +kernel
set_option maxRecDepth 100000 in
theorem sk_r1_16_0 : se_chkn se_tt [] se_Z 37 se_zt sc_r1_16 sn_r1_16 4 sn_r1_16_0 = true := by decide +kernel
theorem sm_r1_16 {ty : Nat → Option Nat} {J : List mm_C → Prop} {kx : Nat} {zs : List mm_Zt} (hO : se_Ok ty J kx zs) : se_Met ty se_tt J kx zs sc_r1_16 := se_sound (C := []) hO.1 hO.2.1 hO.2.2 (fun _ hn => absurd hn List.not_mem_nil) sk_r1_16 (fun n hn => by
  rcases List.mem_cons.mp hn with rfl | hn
  · exact sk_r1_16_0
  exact absurd hn List.not_mem_nil)
/-- RaftTown$Sheet.rule -/
def sc_r1_32 : se_C := ((200, 1), ([(((121, 0, 0), 0, (0, 0, 0), (0, 0, 0)), (0, (0, 0, 0), (0, 0, 0))), (((0, 32, 32), 0, (0, 0, 0), (0, 0, 0)), (0, (0, 1, 0), (0, 0, 0))), (((0, 0, 20), 0, (0, 0, 0), (0, 0, 0)), (0, (0, 2, 0), (0, 0, 0)))], [some (1, 0, 0), some (1, 1, 0), some (1, 2, 0)], [], []), [([], some (1, 2, 0), [((1, 0, 0), (0, 0, 0), (1, 1, 0)), ((1, 0, 0), (0, 0, 1), (1, 2, 0))], [])], [(116, 0, 20), (119, 0, 1), (119, 1, 2)])
def sn_r1_32_0 : se_Nd := (20, ([(((121, 0, 0), 0, (0, 0, 0), (0, 0, 0)), (3, (0, 0, 0), (0, 0, 0))), (((0, 32, 32), 0, (0, 0, 0), (0, 0, 0)), (3, (0, 1, 0), (0, 0, 0))), (((0, 0, 20), 0, (0, 0, 0), (0, 0, 0)), (3, (0, 2, 0), (0, 0, 0))), (((0, 0, 20), 0, (0, 0, 0), (0, 0, 0)), (0, (0, 3, 0), (0, 0, 0)))], [some (1, 0, 0), some (1, 1, 0), some (1, 2, 0), some (1, 3, 0)], [((1, 0, 0), (0, 0, 0), (1, 1, 0)), ((1, 0, 0), (0, 0, 1), (1, 2, 0))], []), [(0, 0, 0), ((-1), 3, 0), (0, 0, 0)])
abbrev sn_r1_32 : List se_Nd := [sn_r1_32_0]
set_option maxRecDepth 100000 in
theorem sk_r1_32 : se_chk0 se_tt [] se_Z 37 se_zt sc_r1_32 sn_r1_32 4 = true := by decide +kernel
set_option maxRecDepth 100000 in
theorem sk_r1_32_0 : se_chkn se_tt [] se_Z 37 se_zt sc_r1_32 sn_r1_32 4 sn_r1_32_0 = true := by decide +kernel
theorem sm_r1_32 {ty : Nat → Option Nat} {J : List mm_C → Prop} {kx : Nat} {zs : List mm_Zt} (hO : se_Ok ty J kx zs) : se_Met ty se_tt J kx zs sc_r1_32 := se_sound (C := []) hO.1 hO.2.1 hO.2.2 (fun _ hn => absurd hn List.not_mem_nil) sk_r1_32 (fun n hn => by
  rcases List.mem_cons.mp hn with rfl | hn
  · exact sk_r1_32_0
  exact absurd hn List.not_mem_nil)
/-- RaftTown$Sheet.rule -/
def sc_r2_0 : se_C := ((200, 1), ([(((122, 0, 0), 0, (0, 0, 0), (0, 0, 0)), (0, (0, 0, 0), (0, 0, 0))), (((0, 0, 0), 0, (0, 0, 0), (0, 0, 0)), (0, (0, 1, 0), (0, 0, 0))), (((0, 0, 20), 0, (0, 0, 0), (0, 0, 0)), (0, (0, 2, 0), (0, 0, 0)))], [some (1, 0, 0), some (1, 1, 0), some (1, 2, 0)], [], []), [([], some (0, 0, 0), [((1, 0, 0), (0, 0, 0), (1, 1, 0)), ((1, 0, 0), (0, 0, 1), (0, 0, 0))], [])], [(117, 0, 20), (120, 0, 1), (120, 1, 2)])
def sn_r2_0_0 : se_Nd := (20, ([(((122, 0, 0), 0, (0, 0, 0), (0, 0, 0)), (3, (0, 0, 0), (0, 0, 0))), (((0, 0, 0), 0, (0, 0, 0), (0, 0, 0)), (3, (0, 1, 0), (0, 0, 0))), (((0, 0, 20), 0, (0, 0, 0), (0, 0, 0)), (3, (0, 2, 0), (0, 0, 0))), (((0, 0, 20), 0, (0, 0, 0), (0, 0, 0)), (0, (0, 3, 0), (0, 0, 0)))], [some (1, 0, 0), some (1, 1, 0), some (1, 2, 0), some (1, 3, 0)], [((1, 0, 0), (0, 0, 0), (1, 1, 0)), ((1, 0, 0), (0, 0, 1), (0, 0, 0))], []), [(0, 0, 0), ((-1), 3, 0), (0, 0, 0)])
abbrev sn_r2_0 : List se_Nd := [sn_r2_0_0]
set_option maxRecDepth 100000 in
theorem sk_r2_0 : se_chk0 se_tt [] se_Z 37 se_zt sc_r2_0 sn_r2_0 4 = true := by decide +kernel
set_option maxRecDepth 100000 in
theorem sk_r2_0_0 : se_chkn se_tt [] se_Z 37 se_zt sc_r2_0 sn_r2_0 4 sn_r2_0_0 = true := by decide +kernel
theorem sm_r2_0 {ty : Nat → Option Nat} {J : List mm_C → Prop} {kx : Nat} {zs : List mm_Zt} (hO : se_Ok ty J kx zs) : se_Met ty se_tt J kx zs sc_r2_0 := se_sound (C := []) hO.1 hO.2.1 hO.2.2 (fun _ hn => absurd hn List.not_mem_nil) sk_r2_0 (fun n hn => by
  rcases List.mem_cons.mp hn with rfl | hn
  · exact sk_r2_0_0
  exact absurd hn List.not_mem_nil)
/-- RaftTown$Sheet.rule -/
def sc_r2_8 : se_C := ((200, 1), ([(((122, 0, 0), 0, (0, 0, 0), (0, 0, 0)), (0, (0, 0, 0), (0, 0, 0))), (((0, 8, 8), 0, (0, 0, 0), (0, 0, 0)), (0, (0, 1, 0), (0, 0, 0))), (((0, 0, 20), 0, (0, 0, 0), (0, 0, 0)), (0, (0, 2, 0), (0, 0, 0)))], [some (1, 0, 0), some (1, 1, 0), some (1, 2, 0)], [], []), [([], some (1, 2, 0), [((1, 0, 0), (0, 0, 0), (1, 1, 0)), ((1, 0, 0), (0, 0, 1), (1, 2, 0))], [])], [(117, 0, 20), (120, 0, 1), (120, 1, 2)])
def sn_r2_8_0 : se_Nd := (20, ([(((122, 0, 0), 0, (0, 0, 0), (0, 0, 0)), (3, (0, 0, 0), (0, 0, 0))), (((0, 8, 8), 0, (0, 0, 0), (0, 0, 0)), (3, (0, 1, 0), (0, 0, 0))), (((0, 0, 20), 0, (0, 0, 0), (0, 0, 0)), (3, (0, 2, 0), (0, 0, 0))), (((0, 0, 20), 0, (0, 0, 0), (0, 0, 0)), (0, (0, 3, 0), (0, 0, 0)))], [some (1, 0, 0), some (1, 1, 0), some (1, 2, 0), some (1, 3, 0)], [((1, 0, 0), (0, 0, 0), (1, 1, 0)), ((1, 0, 0), (0, 0, 1), (1, 2, 0))], []), [(0, 0, 0), ((-1), 3, 0), (0, 0, 0)])
abbrev sn_r2_8 : List se_Nd := [sn_r2_8_0]
set_option maxRecDepth 100000 in
theorem sk_r2_8 : se_chk0 se_tt [] se_Z 37 se_zt sc_r2_8 sn_r2_8 4 = true := by decide +kernel
set_option maxRecDepth 100000 in
theorem sk_r2_8_0 : se_chkn se_tt [] se_Z 37 se_zt sc_r2_8 sn_r2_8 4 sn_r2_8_0 = true := by decide +kernel
theorem sm_r2_8 {ty : Nat → Option Nat} {J : List mm_C → Prop} {kx : Nat} {zs : List mm_Zt} (hO : se_Ok ty J kx zs) : se_Met ty se_tt J kx zs sc_r2_8 := se_sound (C := []) hO.1 hO.2.1 hO.2.2 (fun _ hn => absurd hn List.not_mem_nil) sk_r2_8 (fun n hn => by
  rcases List.mem_cons.mp hn with rfl | hn
  · exact sk_r2_8_0
  exact absurd hn List.not_mem_nil)
/-- RaftTown$Sheet.rule -/
def sc_r2_16 : se_C := ((200, 1), ([(((122, 0, 0), 0, (0, 0, 0), (0, 0, 0)), (0, (0, 0, 0), (0, 0, 0))), (((0, 16, 16), 0, (0, 0, 0), (0, 0, 0)), (0, (0, 1, 0), (0, 0, 0))), (((0, 0, 20), 0, (0, 0, 0), (0, 0, 0)), (0, (0, 2, 0), (0, 0, 0)))], [some (1, 0, 0), some (1, 1, 0), some (1, 2, 0)], [], []), [([], some (1, 2, 0), [((1, 0, 0), (0, 0, 0), (1, 1, 0)), ((1, 0, 0), (0, 0, 1), (1, 2, 0))], [])], [(117, 0, 20), (120, 0, 1), (120, 1, 2)])
def sn_r2_16_0 : se_Nd := (20, ([(((122, 0, 0), 0, (0, 0, 0), (0, 0, 0)), (3, (0, 0, 0), (0, 0, 0))), (((0, 16, 16), 0, (0, 0, 0), (0, 0, 0)), (3, (0, 1, 0), (0, 0, 0))), (((0, 0, 20), 0, (0, 0, 0), (0, 0, 0)), (3, (0, 2, 0), (0, 0, 0))), (((0, 0, 20), 0, (0, 0, 0), (0, 0, 0)), (0, (0, 3, 0), (0, 0, 0)))], [some (1, 0, 0), some (1, 1, 0), some (1, 2, 0), some (1, 3, 0)], [((1, 0, 0), (0, 0, 0), (1, 1, 0)), ((1, 0, 0), (0, 0, 1), (1, 2, 0))], []), [(0, 0, 0), ((-1), 3, 0), (0, 0, 0)])
abbrev sn_r2_16 : List se_Nd := [sn_r2_16_0]
set_option maxRecDepth 100000 in
theorem sk_r2_16 : se_chk0 se_tt [] se_Z 37 se_zt sc_r2_16 sn_r2_16 4 = true := by decide +kernel
set_option maxRecDepth 100000 in
theorem sk_r2_16_0 : se_chkn se_tt [] se_Z 37 se_zt sc_r2_16 sn_r2_16 4 sn_r2_16_0 = true := by decide +kernel
theorem sm_r2_16 {ty : Nat → Option Nat} {J : List mm_C → Prop} {kx : Nat} {zs : List mm_Zt} (hO : se_Ok ty J kx zs) : se_Met ty se_tt J kx zs sc_r2_16 := se_sound (C := []) hO.1 hO.2.1 hO.2.2 (fun _ hn => absurd hn List.not_mem_nil) sk_r2_16 (fun n hn => by
  rcases List.mem_cons.mp hn with rfl | hn
  · exact sk_r2_16_0
  exact absurd hn List.not_mem_nil)
/-- RaftTown$Sheet.rule -/
def sc_r2_32 : se_C := ((200, 1), ([(((122, 0, 0), 0, (0, 0, 0), (0, 0, 0)), (0, (0, 0, 0), (0, 0, 0))), (((0, 32, 32), 0, (0, 0, 0), (0, 0, 0)), (0, (0, 1, 0), (0, 0, 0))), (((0, 0, 20), 0, (0, 0, 0), (0, 0, 0)), (0, (0, 2, 0), (0, 0, 0)))], [some (1, 0, 0), some (1, 1, 0), some (1, 2, 0)], [], []), [([], some (1, 2, 0), [((1, 0, 0), (0, 0, 0), (1, 1, 0)), ((1, 0, 0), (0, 0, 1), (1, 2, 0))], [])], [(117, 0, 20), (120, 0, 1), (120, 1, 2)])
def sn_r2_32_0 : se_Nd := (20, ([(((122, 0, 0), 0, (0, 0, 0), (0, 0, 0)), (3, (0, 0, 0), (0, 0, 0))), (((0, 32, 32), 0, (0, 0, 0), (0, 0, 0)), (3, (0, 1, 0), (0, 0, 0))), (((0, 0, 20), 0, (0, 0, 0), (0, 0, 0)), (3, (0, 2, 0), (0, 0, 0))), (((0, 0, 20), 0, (0, 0, 0), (0, 0, 0)), (0, (0, 3, 0), (0, 0, 0)))], [some (1, 0, 0), some (1, 1, 0), some (1, 2, 0), some (1, 3, 0)], [((1, 0, 0), (0, 0, 0), (1, 1, 0)), ((1, 0, 0), (0, 0, 1), (1, 2, 0))], []), [(0, 0, 0), ((-1), 3, 0), (0, 0, 0)])
abbrev sn_r2_32 : List se_Nd := [sn_r2_32_0]
set_option maxRecDepth 100000 in
theorem sk_r2_32 : se_chk0 se_tt [] se_Z 37 se_zt sc_r2_32 sn_r2_32 4 = true := by decide +kernel
set_option maxRecDepth 100000 in
theorem sk_r2_32_0 : se_chkn se_tt [] se_Z 37 se_zt sc_r2_32 sn_r2_32 4 sn_r2_32_0 = true := by decide +kernel
theorem sm_r2_32 {ty : Nat → Option Nat} {J : List mm_C → Prop} {kx : Nat} {zs : List mm_Zt} (hO : se_Ok ty J kx zs) : se_Met ty se_tt J kx zs sc_r2_32 := se_sound (C := []) hO.1 hO.2.1 hO.2.2 (fun _ hn => absurd hn List.not_mem_nil) sk_r2_32 (fun n hn => by
  rcases List.mem_cons.mp hn with rfl | hn
  · exact sk_r2_32_0
  exact absurd hn List.not_mem_nil)
/-- RaftTown$Sheet.rule -/
def sc_r3_0 : se_C := ((200, 1), ([(((123, 0, 0), 0, (0, 0, 0), (0, 0, 0)), (0, (0, 0, 0), (0, 0, 0))), (((0, 0, 0), 0, (0, 0, 0), (0, 0, 0)), (0, (0, 1, 0), (0, 0, 0))), (((0, 0, 20), 0, (0, 0, 0), (0, 0, 0)), (0, (0, 2, 0), (0, 0, 0)))], [some (1, 0, 0), some (1, 1, 0), some (1, 2, 0)], [], []), [([], some (0, 0, 0), [((1, 0, 0), (0, 0, 0), (1, 1, 0)), ((1, 0, 0), (0, 0, 1), (0, 0, 0))], [])], [(118, 0, 20), (121, 0, 1), (121, 1, 2)])
def sn_r3_0_0 : se_Nd := (20, ([(((123, 0, 0), 0, (0, 0, 0), (0, 0, 0)), (3, (0, 0, 0), (0, 0, 0))), (((0, 0, 0), 0, (0, 0, 0), (0, 0, 0)), (3, (0, 1, 0), (0, 0, 0))), (((0, 0, 20), 0, (0, 0, 0), (0, 0, 0)), (3, (0, 2, 0), (0, 0, 0))), (((0, 0, 20), 0, (0, 0, 0), (0, 0, 0)), (0, (0, 3, 0), (0, 0, 0)))], [some (1, 0, 0), some (1, 1, 0), some (1, 2, 0), some (1, 3, 0)], [((1, 0, 0), (0, 0, 0), (1, 1, 0)), ((1, 0, 0), (0, 0, 1), (0, 0, 0))], []), [(0, 0, 0), ((-1), 3, 0), (0, 0, 0)])
abbrev sn_r3_0 : List se_Nd := [sn_r3_0_0]
set_option maxRecDepth 100000 in
theorem sk_r3_0 : se_chk0 se_tt [] se_Z 37 se_zt sc_r3_0 sn_r3_0 4 = true := by decide +kernel
set_option maxRecDepth 100000 in
theorem sk_r3_0_0 : se_chkn se_tt [] se_Z 37 se_zt sc_r3_0 sn_r3_0 4 sn_r3_0_0 = true := by decide +kernel
theorem sm_r3_0 {ty : Nat → Option Nat} {J : List mm_C → Prop} {kx : Nat} {zs : List mm_Zt} (hO : se_Ok ty J kx zs) : se_Met ty se_tt J kx zs sc_r3_0 := se_sound (C := []) hO.1 hO.2.1 hO.2.2 (fun _ hn => absurd hn List.not_mem_nil) sk_r3_0 (fun n hn => by
  rcases List.mem_cons.mp hn with rfl | hn
  · exact sk_r3_0_0
  exact absurd hn List.not_mem_nil)
/-- RaftTown$Sheet.rule -/
def sc_r3_8 : se_C := ((200, 1), ([(((123, 0, 0), 0, (0, 0, 0), (0, 0, 0)), (0, (0, 0, 0), (0, 0, 0))), (((0, 8, 8), 0, (0, 0, 0), (0, 0, 0)), (0, (0, 1, 0), (0, 0, 0))), (((0, 0, 20), 0, (0, 0, 0), (0, 0, 0)), (0, (0, 2, 0), (0, 0, 0)))], [some (1, 0, 0), some (1, 1, 0), some (1, 2, 0)], [], []), [([], some (1, 2, 0), [((1, 0, 0), (0, 0, 0), (1, 1, 0)), ((1, 0, 0), (0, 0, 1), (1, 2, 0))], [])], [(118, 0, 20), (121, 0, 1), (121, 1, 2)])
def sn_r3_8_0 : se_Nd := (20, ([(((123, 0, 0), 0, (0, 0, 0), (0, 0, 0)), (3, (0, 0, 0), (0, 0, 0))), (((0, 8, 8), 0, (0, 0, 0), (0, 0, 0)), (3, (0, 1, 0), (0, 0, 0))), (((0, 0, 20), 0, (0, 0, 0), (0, 0, 0)), (3, (0, 2, 0), (0, 0, 0))), (((0, 0, 20), 0, (0, 0, 0), (0, 0, 0)), (0, (0, 3, 0), (0, 0, 0)))], [some (1, 0, 0), some (1, 1, 0), some (1, 2, 0), some (1, 3, 0)], [((1, 0, 0), (0, 0, 0), (1, 1, 0)), ((1, 0, 0), (0, 0, 1), (1, 2, 0))], []), [(0, 0, 0), ((-1), 3, 0), (0, 0, 0)])
abbrev sn_r3_8 : List se_Nd := [sn_r3_8_0]
set_option maxRecDepth 100000 in
theorem sk_r3_8 : se_chk0 se_tt [] se_Z 37 se_zt sc_r3_8 sn_r3_8 4 = true := by decide +kernel
set_option maxRecDepth 100000 in
theorem sk_r3_8_0 : se_chkn se_tt [] se_Z 37 se_zt sc_r3_8 sn_r3_8 4 sn_r3_8_0 = true := by decide +kernel
theorem sm_r3_8 {ty : Nat → Option Nat} {J : List mm_C → Prop} {kx : Nat} {zs : List mm_Zt} (hO : se_Ok ty J kx zs) : se_Met ty se_tt J kx zs sc_r3_8 := se_sound (C := []) hO.1 hO.2.1 hO.2.2 (fun _ hn => absurd hn List.not_mem_nil) sk_r3_8 (fun n hn => by
  rcases List.mem_cons.mp hn with rfl | hn
  · exact sk_r3_8_0
  exact absurd hn List.not_mem_nil)
/-- RaftTown$Sheet.rule -/
def sc_r3_16 : se_C := ((200, 1), ([(((123, 0, 0), 0, (0, 0, 0), (0, 0, 0)), (0, (0, 0, 0), (0, 0, 0))), (((0, 16, 16), 0, (0, 0, 0), (0, 0, 0)), (0, (0, 1, 0), (0, 0, 0))), (((0, 0, 20), 0, (0, 0, 0), (0, 0, 0)), (0, (0, 2, 0), (0, 0, 0)))], [some (1, 0, 0), some (1, 1, 0), some (1, 2, 0)], [], []), [([], some (1, 2, 0), [((1, 0, 0), (0, 0, 0), (1, 1, 0)), ((1, 0, 0), (0, 0, 1), (1, 2, 0))], [])], [(118, 0, 20), (121, 0, 1), (121, 1, 2)])
def sn_r3_16_0 : se_Nd := (20, ([(((123, 0, 0), 0, (0, 0, 0), (0, 0, 0)), (3, (0, 0, 0), (0, 0, 0))), (((0, 16, 16), 0, (0, 0, 0), (0, 0, 0)), (3, (0, 1, 0), (0, 0, 0))), (((0, 0, 20), 0, (0, 0, 0), (0, 0, 0)), (3, (0, 2, 0), (0, 0, 0))), (((0, 0, 20), 0, (0, 0, 0), (0, 0, 0)), (0, (0, 3, 0), (0, 0, 0)))], [some (1, 0, 0), some (1, 1, 0), some (1, 2, 0), some (1, 3, 0)], [((1, 0, 0), (0, 0, 0), (1, 1, 0)), ((1, 0, 0), (0, 0, 1), (1, 2, 0))], []), [(0, 0, 0), ((-1), 3, 0), (0, 0, 0)])
abbrev sn_r3_16 : List se_Nd := [sn_r3_16_0]
set_option maxRecDepth 100000 in
theorem sk_r3_16 : se_chk0 se_tt [] se_Z 37 se_zt sc_r3_16 sn_r3_16 4 = true := by decide +kernel
set_option maxRecDepth 100000 in
theorem sk_r3_16_0 : se_chkn se_tt [] se_Z 37 se_zt sc_r3_16 sn_r3_16 4 sn_r3_16_0 = true := by decide +kernel
theorem sm_r3_16 {ty : Nat → Option Nat} {J : List mm_C → Prop} {kx : Nat} {zs : List mm_Zt} (hO : se_Ok ty J kx zs) : se_Met ty se_tt J kx zs sc_r3_16 := se_sound (C := []) hO.1 hO.2.1 hO.2.2 (fun _ hn => absurd hn List.not_mem_nil) sk_r3_16 (fun n hn => by
  rcases List.mem_cons.mp hn with rfl | hn
  · exact sk_r3_16_0
  exact absurd hn List.not_mem_nil)
/-- RaftTown$Sheet.rule -/
def sc_r3_32 : se_C := ((200, 1), ([(((123, 0, 0), 0, (0, 0, 0), (0, 0, 0)), (0, (0, 0, 0), (0, 0, 0))), (((0, 32, 32), 0, (0, 0, 0), (0, 0, 0)), (0, (0, 1, 0), (0, 0, 0))), (((0, 0, 20), 0, (0, 0, 0), (0, 0, 0)), (0, (0, 2, 0), (0, 0, 0)))], [some (1, 0, 0), some (1, 1, 0), some (1, 2, 0)], [], []), [([], some (1, 2, 0), [((1, 0, 0), (0, 0, 0), (1, 1, 0)), ((1, 0, 0), (0, 0, 1), (1, 2, 0))], [])], [(118, 0, 20), (121, 0, 1), (121, 1, 2)])
def sn_r3_32_0 : se_Nd := (20, ([(((123, 0, 0), 0, (0, 0, 0), (0, 0, 0)), (3, (0, 0, 0), (0, 0, 0))), (((0, 32, 32), 0, (0, 0, 0), (0, 0, 0)), (3, (0, 1, 0), (0, 0, 0))), (((0, 0, 20), 0, (0, 0, 0), (0, 0, 0)), (3, (0, 2, 0), (0, 0, 0))), (((0, 0, 20), 0, (0, 0, 0), (0, 0, 0)), (0, (0, 3, 0), (0, 0, 0)))], [some (1, 0, 0), some (1, 1, 0), some (1, 2, 0), some (1, 3, 0)], [((1, 0, 0), (0, 0, 0), (1, 1, 0)), ((1, 0, 0), (0, 0, 1), (1, 2, 0))], []), [(0, 0, 0), ((-1), 3, 0), (0, 0, 0)])
abbrev sn_r3_32 : List se_Nd := [sn_r3_32_0]
set_option maxRecDepth 100000 in
theorem sk_r3_32 : se_chk0 se_tt [] se_Z 37 se_zt sc_r3_32 sn_r3_32 4 = true := by decide +kernel
set_option maxRecDepth 100000 in
theorem sk_r3_32_0 : se_chkn se_tt [] se_Z 37 se_zt sc_r3_32 sn_r3_32 4 sn_r3_32_0 = true := by decide +kernel
theorem sm_r3_32 {ty : Nat → Option Nat} {J : List mm_C → Prop} {kx : Nat} {zs : List mm_Zt} (hO : se_Ok ty J kx zs) : se_Met ty se_tt J kx zs sc_r3_32 := se_sound (C := []) hO.1 hO.2.1 hO.2.2 (fun _ hn => absurd hn List.not_mem_nil) sk_r3_32 (fun n hn => by
  rcases List.mem_cons.mp hn with rfl | hn
  · exact sk_r3_32_0
  exact absurd hn List.not_mem_nil)
/-- RaftTown$Town.take -/
def sc_tk : se_C := ((206, 2), ([(((117, 0, 0), 0, (0, 0, 0), (0, 0, 0)), (0, (0, 0, 0), (0, 0, 0))), (((89, 0, 0), 0, (0, 0, 0), (0, 0, 0)), (0, (0, 1, 0), (0, 0, 0))), (((0, (-2147483648), 2147483647), 0, (0, 0, 0), (0, 0, 0)), (1, (1, 1, 0), (0, 0, 9)))], [some (1, 0, 0), some (1, 1, 0)], [((1, 1, 0), (0, 0, 9), (1, 2, 0))], []), [([], none, [((1, 0, 0), (0, 0, 9), (1, 2, 0))], [])], [(90, 0, 40), (91, 0, 40), (92, 0, 40), (93, 0, 40), (94, 0, 12), (95, 0, 12), (96, 0, 36), (97, 0, 36), (99, 0, 160), (100, 0, 3), (104, 4, 5), (104, 5, 6), (104, 8, 9), (106, 0, 1), (106, 1, 2), (106, 2, 3), (106, 3, 4), (106, 4, 5), (106, 5, 6), (106, 6, 7), (107, 0, 1), (107, 1, 2), (107, 2, 3), (107, 3, 4), (107, 4, 5), (107, 5, 6), (107, 6, 7), (108, 0, 1), (108, 1, 2), (108, 2, 3), (108, 3, 4), (108, 4, 5), (108, 5, 6), (108, 6, 7), (108, 7, 8), (109, 0, 1), (109, 3, 4), (115, 2, 3), (115, 4, 5), (115, 6, 7), (115, 9, 10), (115, 10, 11), (115, 11, 12)])
def sn_tk_0 : se_Nd := (13, ([(((117, 0, 0), 0, (0, 0, 0), (0, 0, 0)), (3, (0, 0, 0), (0, 0, 0))), (((89, 0, 0), 0, (0, 0, 0), (0, 0, 0)), (3, (0, 1, 0), (0, 0, 0))), (((0, (-2147483648), 2147483647), 0, (0, 0, 0), (0, 0, 0)), (3, (0, 2, 0), (0, 0, 0))), (((0, 0, 10), 0, (0, 0, 0), (0, 0, 0)), (0, (0, 2, 0), (0, 0, 0)))], [some (1, 0, 0), some (1, 1, 0), some (1, 3, 0)], [((1, 1, 0), (0, 0, 9), (1, 2, 0))], []), [(0, 0, 3), ((-1), 3, 0), (0, 0, 0)])
def sn_tk_1 : se_Nd := (50, ([(((117, 0, 0), 0, (0, 0, 0), (0, 0, 0)), (3, (0, 0, 0), (0, 0, 0))), (((89, 0, 0), 0, (0, 0, 0), (0, 0, 0)), (3, (0, 1, 0), (0, 0, 0))), (((0, (-2147483648), 2147483647), 0, (0, 0, 0), (0, 0, 0)), (3, (0, 2, 0), (0, 0, 0))), (((0, 0, 14), 0, (0, 0, 0), (0, 0, 0)), (0, (0, 2, 0), (0, 0, 0)))], [some (1, 0, 0), some (1, 1, 0), some (1, 3, 0)], [((1, 1, 0), (0, 0, 9), (1, 2, 0))], []), [(0, 0, 2), ((-1), 3, 0), (0, 0, 0)])
def sn_tk_2 : se_Nd := (87, ([(((117, 0, 0), 0, (0, 0, 0), (0, 0, 0)), (3, (0, 0, 0), (0, 0, 0))), (((89, 0, 0), 0, (0, 0, 0), (0, 0, 0)), (3, (0, 1, 0), (0, 0, 0))), (((0, (-2147483648), 2147483647), 0, (0, 0, 0), (0, 0, 0)), (3, (0, 2, 0), (0, 0, 0))), (((0, 0, 12), 0, (0, 0, 0), (0, 0, 0)), (0, (0, 2, 0), (0, 0, 0)))], [some (1, 0, 0), some (1, 1, 0), some (1, 3, 0)], [((1, 1, 0), (0, 0, 9), (1, 2, 0))], []), [(0, 0, 1), ((-1), 3, 0), (0, 0, 0)])
def sn_tk_3 : se_Nd := (135, ([(((117, 0, 0), 0, (0, 0, 0), (0, 0, 0)), (3, (0, 0, 0), (0, 0, 0))), (((89, 0, 0), 0, (0, 0, 0), (0, 0, 0)), (3, (0, 1, 0), (0, 0, 0))), (((0, (-2147483648), 2147483647), 0, (0, 0, 0), (0, 0, 0)), (3, (0, 2, 0), (0, 0, 0))), (((0, 0, 5), 0, (0, 0, 0), (0, 0, 0)), (0, (0, 2, 0), (0, 0, 0)))], [some (1, 0, 0), some (1, 1, 0), some (1, 3, 0)], [((1, 1, 0), (0, 0, 9), (1, 2, 0))], []), [(0, 0, 0), ((-1), 3, 0), (0, 0, 0)])
abbrev sn_tk : List se_Nd := [sn_tk_0, sn_tk_1, sn_tk_2, sn_tk_3]
set_option maxRecDepth 100000 in
theorem sk_tk : se_chk0 se_tt [sc_119, sc_158, sc_160, sc_162, sc_164, sc_166] se_Z 37 se_zt sc_tk sn_tk 4 = true := by decide +kernel
set_option maxRecDepth 100000 in
theorem sk_tk_0 : se_chkn se_tt [sc_119, sc_158, sc_160, sc_162, sc_164, sc_166] se_Z 37 se_zt sc_tk sn_tk 4 sn_tk_0 = true := by decide +kernel
set_option maxRecDepth 100000 in
theorem sk_tk_1 : se_chkn se_tt [sc_119, sc_158, sc_160, sc_162, sc_164, sc_166] se_Z 37 se_zt sc_tk sn_tk 4 sn_tk_1 = true := by decide +kernel
set_option maxRecDepth 100000 in
theorem sk_tk_2 : se_chkn se_tt [sc_119, sc_158, sc_160, sc_162, sc_164, sc_166] se_Z 37 se_zt sc_tk sn_tk 4 sn_tk_2 = true := by decide +kernel
set_option maxRecDepth 100000 in
theorem sk_tk_3 : se_chkn se_tt [sc_119, sc_158, sc_160, sc_162, sc_164, sc_166] se_Z 37 se_zt sc_tk sn_tk 4 sn_tk_3 = true := by decide +kernel
theorem sm_tk {ty : Nat → Option Nat} {J : List mm_C → Prop} {kx : Nat} {zs : List mm_Zt} (hO : se_Ok ty J kx zs) (h119 : se_Met ty se_tt J kx zs sc_119) (h158 : se_Met ty se_tt J kx zs sc_158) (h160 : se_Met ty se_tt J kx zs sc_160) (h162 : se_Met ty se_tt J kx zs sc_162) (h164 : se_Met ty se_tt J kx zs sc_164) (h166 : se_Met ty se_tt J kx zs sc_166) : se_Met ty se_tt J kx zs sc_tk := se_sound (C := [sc_119, sc_158, sc_160, sc_162, sc_164, sc_166]) hO.1 hO.2.1 hO.2.2 (fun n hn => by
  rcases List.mem_cons.mp hn with rfl | hn
  · exact h119
  rcases List.mem_cons.mp hn with rfl | hn
  · exact h158
  rcases List.mem_cons.mp hn with rfl | hn
  · exact h160
  rcases List.mem_cons.mp hn with rfl | hn
  · exact h162
  rcases List.mem_cons.mp hn with rfl | hn
  · exact h164
  rcases List.mem_cons.mp hn with rfl | hn
  · exact h166
  exact absurd hn List.not_mem_nil) sk_tk (fun n hn => by
  rcases List.mem_cons.mp hn with rfl | hn
  · exact sk_tk_0
  rcases List.mem_cons.mp hn with rfl | hn
  · exact sk_tk_1
  rcases List.mem_cons.mp hn with rfl | hn
  · exact sk_tk_2
  rcases List.mem_cons.mp hn with rfl | hn
  · exact sk_tk_3
  exact absurd hn List.not_mem_nil)
/-- RaftTown$Town.take -/
def sc_tl : se_C := ((206, 2), ([(((89, 0, 0), 0, (0, 0, 0), (0, 0, 0)), (0, (0, 0, 0), (0, 0, 0))), (((117, 0, 0), 0, (0, 0, 0), (0, 0, 0)), (0, (0, 1, 0), (0, 0, 0))), (((0, (-2147483648), 2147483647), 0, (0, 0, 0), (0, 0, 0)), (1, (1, 1, 0), (0, 0, 9)))], [some (1, 0, 0), some (1, 1, 0)], [((1, 1, 0), (0, 0, 9), (1, 2, 0))], []), [([], none, [((1, 0, 0), (0, 0, 9), (1, 2, 0))], [])], [(39, 0, 40), (40, 0, 40), (41, 0, 40), (42, 0, 40), (43, 0, 12), (44, 0, 12), (49, 0, 36), (50, 0, 36), (54, 0, 160), (55, 0, 3), (73, 4, 5), (73, 5, 6), (73, 8, 9), (75, 0, 1), (75, 1, 2), (75, 2, 3), (75, 3, 4), (75, 4, 5), (75, 5, 6), (75, 6, 7), (76, 0, 1), (76, 1, 2), (76, 2, 3), (76, 3, 4), (76, 4, 5), (76, 5, 6), (76, 6, 7), (77, 0, 1), (77, 1, 2), (77, 2, 3), (77, 3, 4), (77, 4, 5), (77, 5, 6), (77, 6, 7), (77, 7, 8), (81, 0, 1), (81, 3, 4), (87, 2, 3), (87, 4, 5), (87, 6, 7), (87, 9, 10), (87, 10, 11), (87, 11, 12)])
def sn_tl_0 : se_Nd := (13, ([(((89, 0, 0), 0, (0, 0, 0), (0, 0, 0)), (3, (0, 0, 0), (0, 0, 0))), (((117, 0, 0), 0, (0, 0, 0), (0, 0, 0)), (3, (0, 1, 0), (0, 0, 0))), (((0, (-2147483648), 2147483647), 0, (0, 0, 0), (0, 0, 0)), (3, (0, 2, 0), (0, 0, 0))), (((0, 0, 10), 0, (0, 0, 0), (0, 0, 0)), (0, (0, 2, 0), (0, 0, 0)))], [some (1, 0, 0), some (1, 1, 0), some (1, 3, 0)], [((1, 1, 0), (0, 0, 9), (1, 2, 0))], []), [(0, 0, 3), ((-1), 3, 0), (0, 0, 0)])
def sn_tl_1 : se_Nd := (50, ([(((89, 0, 0), 0, (0, 0, 0), (0, 0, 0)), (3, (0, 0, 0), (0, 0, 0))), (((117, 0, 0), 0, (0, 0, 0), (0, 0, 0)), (3, (0, 1, 0), (0, 0, 0))), (((0, (-2147483648), 2147483647), 0, (0, 0, 0), (0, 0, 0)), (3, (0, 2, 0), (0, 0, 0))), (((0, 0, 14), 0, (0, 0, 0), (0, 0, 0)), (0, (0, 2, 0), (0, 0, 0)))], [some (1, 0, 0), some (1, 1, 0), some (1, 3, 0)], [((1, 1, 0), (0, 0, 9), (1, 2, 0))], []), [(0, 0, 2), ((-1), 3, 0), (0, 0, 0)])
def sn_tl_2 : se_Nd := (87, ([(((89, 0, 0), 0, (0, 0, 0), (0, 0, 0)), (3, (0, 0, 0), (0, 0, 0))), (((117, 0, 0), 0, (0, 0, 0), (0, 0, 0)), (3, (0, 1, 0), (0, 0, 0))), (((0, (-2147483648), 2147483647), 0, (0, 0, 0), (0, 0, 0)), (3, (0, 2, 0), (0, 0, 0))), (((0, 0, 12), 0, (0, 0, 0), (0, 0, 0)), (0, (0, 2, 0), (0, 0, 0)))], [some (1, 0, 0), some (1, 1, 0), some (1, 3, 0)], [((1, 1, 0), (0, 0, 9), (1, 2, 0))], []), [(0, 0, 1), ((-1), 3, 0), (0, 0, 0)])
def sn_tl_3 : se_Nd := (135, ([(((89, 0, 0), 0, (0, 0, 0), (0, 0, 0)), (3, (0, 0, 0), (0, 0, 0))), (((117, 0, 0), 0, (0, 0, 0), (0, 0, 0)), (3, (0, 1, 0), (0, 0, 0))), (((0, (-2147483648), 2147483647), 0, (0, 0, 0), (0, 0, 0)), (3, (0, 2, 0), (0, 0, 0))), (((0, 0, 5), 0, (0, 0, 0), (0, 0, 0)), (0, (0, 2, 0), (0, 0, 0)))], [some (1, 0, 0), some (1, 1, 0), some (1, 3, 0)], [((1, 1, 0), (0, 0, 9), (1, 2, 0))], []), [(0, 0, 0), ((-1), 3, 0), (0, 0, 0)])
abbrev sn_tl : List se_Nd := [sn_tl_0, sn_tl_1, sn_tl_2, sn_tl_3]
set_option maxRecDepth 100000 in
theorem sk_tl : se_chk0 se_tt [sc_120, sc_159, sc_161, sc_163, sc_165, sc_167] se_Z 37 se_zt sc_tl sn_tl 4 = true := by decide +kernel
set_option maxRecDepth 100000 in
theorem sk_tl_0 : se_chkn se_tt [sc_120, sc_159, sc_161, sc_163, sc_165, sc_167] se_Z 37 se_zt sc_tl sn_tl 4 sn_tl_0 = true := by decide +kernel
set_option maxRecDepth 100000 in
theorem sk_tl_1 : se_chkn se_tt [sc_120, sc_159, sc_161, sc_163, sc_165, sc_167] se_Z 37 se_zt sc_tl sn_tl 4 sn_tl_1 = true := by decide +kernel
set_option maxRecDepth 100000 in
theorem sk_tl_2 : se_chkn se_tt [sc_120, sc_159, sc_161, sc_163, sc_165, sc_167] se_Z 37 se_zt sc_tl sn_tl 4 sn_tl_2 = true := by decide +kernel
set_option maxRecDepth 100000 in
theorem sk_tl_3 : se_chkn se_tt [sc_120, sc_159, sc_161, sc_163, sc_165, sc_167] se_Z 37 se_zt sc_tl sn_tl 4 sn_tl_3 = true := by decide +kernel
theorem sm_tl {ty : Nat → Option Nat} {J : List mm_C → Prop} {kx : Nat} {zs : List mm_Zt} (hO : se_Ok ty J kx zs) (h120 : se_Met ty se_tt J kx zs sc_120) (h159 : se_Met ty se_tt J kx zs sc_159) (h161 : se_Met ty se_tt J kx zs sc_161) (h163 : se_Met ty se_tt J kx zs sc_163) (h165 : se_Met ty se_tt J kx zs sc_165) (h167 : se_Met ty se_tt J kx zs sc_167) : se_Met ty se_tt J kx zs sc_tl := se_sound (C := [sc_120, sc_159, sc_161, sc_163, sc_165, sc_167]) hO.1 hO.2.1 hO.2.2 (fun n hn => by
  rcases List.mem_cons.mp hn with rfl | hn
  · exact h120
  rcases List.mem_cons.mp hn with rfl | hn
  · exact h159
  rcases List.mem_cons.mp hn with rfl | hn
  · exact h161
  rcases List.mem_cons.mp hn with rfl | hn
  · exact h163
  rcases List.mem_cons.mp hn with rfl | hn
  · exact h165
  rcases List.mem_cons.mp hn with rfl | hn
  · exact h167
  exact absurd hn List.not_mem_nil) sk_tl (fun n hn => by
  rcases List.mem_cons.mp hn with rfl | hn
  · exact sk_tl_0
  rcases List.mem_cons.mp hn with rfl | hn
  · exact sk_tl_1
  rcases List.mem_cons.mp hn with rfl | hn
  · exact sk_tl_2
  rcases List.mem_cons.mp hn with rfl | hn
  · exact sk_tl_3
  exact absurd hn List.not_mem_nil)
/-- RaftTown$Town.passDay -/
def sc_pd : se_C := ((104, 5), ([(((89, 0, 0), 0, (0, 0, 0), (0, 0, 0)), (0, (0, 0, 0), (0, 0, 0))), (((0, (-2147483648), 2147483647), 0, (0, 0, 0), (0, 0, 0)), (0, (0, 1, 0), (0, 0, 0))), (((0, (-2147483648), 2147483647), 0, (0, 0, 0), (0, 0, 0)), (0, (0, 2, 0), (0, 0, 0))), (((76, 0, 0), 0, (0, 0, 0), (0, 0, 0)), (0, (0, 3, 0), (0, 0, 0))), (((0, (-2147483648), 2147483647), 0, (0, 0, 0), (0, 0, 0)), (1, (1, 0, 0), (0, 0, 9)))], [some (1, 0, 0), some (1, 1, 0), some (1, 2, 0), some (1, 3, 0)], [((1, 0, 0), (0, 0, 9), (1, 4, 0))], []), [([(((0, (-2147483648), 2147483647), 0, (0, 0, 0), (0, 0, 0)), (0, (0, 0, 0), (0, 0, 0)))], some (1, 5, 0), [((1, 0, 0), (0, 0, 9), (1, 4, 1))], [])], [(39, 0, 40), (40, 0, 40), (41, 0, 40), (42, 0, 40), (45, 0, 12), (46, 0, 12), (47, 0, 12), (48, 0, 10), (73, 4, 5), (73, 5, 6), (74, 4, 5), (74, 5, 6), (75, 0, 1), (75, 5, 6), (75, 6, 7), (76, 1, 2), (76, 2, 3), (76, 4, 5), (76, 5, 6), (76, 6, 7), (77, 5, 6), (77, 6, 7), (77, 7, 8), (87, 9, 10), (87, 10, 11), (87, 11, 12)])
abbrev sn_pd : List se_Nd := []
set_option maxRecDepth 100000 in
theorem sk_pd : se_chk0 se_tt [sc_4, sc_45, sc_46, sc_47, sc_50, sc_51, sc_53, sc_54] se_Z 37 se_zt sc_pd sn_pd 6 = true := by decide +kernel
theorem sm_pd {ty : Nat → Option Nat} {J : List mm_C → Prop} {kx : Nat} {zs : List mm_Zt} (hO : se_Ok ty J kx zs) (h4 : se_Met ty se_tt J kx zs sc_4) (h45 : se_Met ty se_tt J kx zs sc_45) (h46 : se_Met ty se_tt J kx zs sc_46) (h47 : se_Met ty se_tt J kx zs sc_47) (h50 : se_Met ty se_tt J kx zs sc_50) (h51 : se_Met ty se_tt J kx zs sc_51) (h53 : se_Met ty se_tt J kx zs sc_53) (h54 : se_Met ty se_tt J kx zs sc_54) : se_Met ty se_tt J kx zs sc_pd := se_sound (C := [sc_4, sc_45, sc_46, sc_47, sc_50, sc_51, sc_53, sc_54]) hO.1 hO.2.1 hO.2.2 (fun n hn => by
  rcases List.mem_cons.mp hn with rfl | hn
  · exact h4
  rcases List.mem_cons.mp hn with rfl | hn
  · exact h45
  rcases List.mem_cons.mp hn with rfl | hn
  · exact h46
  rcases List.mem_cons.mp hn with rfl | hn
  · exact h47
  rcases List.mem_cons.mp hn with rfl | hn
  · exact h50
  rcases List.mem_cons.mp hn with rfl | hn
  · exact h51
  rcases List.mem_cons.mp hn with rfl | hn
  · exact h53
  rcases List.mem_cons.mp hn with rfl | hn
  · exact h54
  exact absurd hn List.not_mem_nil) sk_pd (fun _ hn => absurd hn List.not_mem_nil)
/-- RaftTownModel.passes -/
def sc_ps : se_C := ((270, 6), ([(((91, 0, 0), 0, (0, 0, 0), (0, 0, 0)), (0, (0, 0, 0), (0, 0, 0))), (((0, (-2147483648), 2147483647), 0, (0, 0, 0), (0, 0, 0)), (0, (0, 1, 0), (0, 0, 0))), (((0, (-2147483648), 2147483647), 0, (0, 0, 0), (0, 0, 0)), (0, (0, 2, 0), (0, 0, 0))), (((58, 0, 0), 0, (0, 0, 0), (0, 0, 0)), (1, (1, 0, 0), (0, 0, 0))), (((0, (-2147483648), 2147483647), 0, (0, 0, 0), (0, 0, 0)), (1, (1, 3, 0), (0, 0, 3)))], [some (1, 0, 0), some (1, 1, 0), some (1, 2, 0)], [((1, 0, 0), (0, 0, 0), (1, 3, 0)), ((1, 3, 0), (0, 0, 3), (1, 4, 0))], []), [([(((0, (-2147483648), 2147483647), 0, (0, 0, 0), (0, 0, 0)), (0, (0, 0, 0), (0, 0, 0)))], some (1, 5, 0), [((1, 3, 0), (0, 0, 3), (1, 4, 1))], [])], [(56, 3, 4), (56, 4, 5), (56, 5, 6), (56, 6, 7), (56, 80, 150), (56, 150, 248), (56, 248, 344), (56, 344, 504), (57, 0, 10)])
abbrev sn_ps : List se_Nd := []
set_option maxRecDepth 100000 in
theorem sk_ps : se_chk0 se_tt [sc_209, sc_211, sc_213, sc_214, sc_216, sc_218] se_Z 37 se_zt sc_ps sn_ps 5 = true := by decide +kernel
theorem sm_ps {ty : Nat → Option Nat} {J : List mm_C → Prop} {kx : Nat} {zs : List mm_Zt} (hO : se_Ok ty J kx zs) (h209 : se_Met ty se_tt J kx zs sc_209) (h211 : se_Met ty se_tt J kx zs sc_211) (h213 : se_Met ty se_tt J kx zs sc_213) (h214 : se_Met ty se_tt J kx zs sc_214) (h216 : se_Met ty se_tt J kx zs sc_216) (h218 : se_Met ty se_tt J kx zs sc_218) : se_Met ty se_tt J kx zs sc_ps := se_sound (C := [sc_209, sc_211, sc_213, sc_214, sc_216, sc_218]) hO.1 hO.2.1 hO.2.2 (fun n hn => by
  rcases List.mem_cons.mp hn with rfl | hn
  · exact h209
  rcases List.mem_cons.mp hn with rfl | hn
  · exact h211
  rcases List.mem_cons.mp hn with rfl | hn
  · exact h213
  rcases List.mem_cons.mp hn with rfl | hn
  · exact h214
  rcases List.mem_cons.mp hn with rfl | hn
  · exact h216
  rcases List.mem_cons.mp hn with rfl | hn
  · exact h218
  exact absurd hn List.not_mem_nil) sk_ps (fun _ hn => absurd hn List.not_mem_nil)
/-- RaftTown.sheet -/
def sc_q0 : se_C := ((199, 1), ([(((90, 0, 0), 0, (0, 0, 0), (0, 0, 0)), (0, (0, 0, 0), (0, 0, 0))), (((0, (-2147483648), (-1)), 0, (0, 0, 0), (0, 0, 0)), (0, (0, 1, 0), (0, 0, 0))), (((0, (-2147483648), 2147483647), 0, (0, 0, 0), (0, 0, 0)), (0, (0, 2, 0), (0, 0, 0))), (((0, (-2147483648), 2147483647), 0, (0, 0, 0), (0, 0, 0)), (0, (0, 3, 0), (0, 0, 0)))], [some (1, 0, 0), some (1, 1, 0), some (1, 2, 0), some (1, 3, 0)], [], []), [([(((0, (-100001), (-100001)), 0, (0, 0, 0), (0, 0, 0)), (0, (0, 0, 0), (0, 0, 0)))], some (1, 4, 0), [], [])], [(88, 7, 8)])
abbrev sn_q0 : List se_Nd := []
set_option maxRecDepth 100000 in
theorem sk_q0 : se_chk0 se_tt [] se_Z 37 se_zt sc_q0 sn_q0 5 = true := by decide +kernel
theorem sm_q0 {ty : Nat → Option Nat} {J : List mm_C → Prop} {kx : Nat} {zs : List mm_Zt} (hO : se_Ok ty J kx zs) : se_Met ty se_tt J kx zs sc_q0 := se_sound (C := []) hO.1 hO.2.1 hO.2.2 (fun _ hn => absurd hn List.not_mem_nil) sk_q0 (fun _ hn => absurd hn List.not_mem_nil)
/-- RaftTownModel.sheet -/
def sc_w0 : se_C := ((324, 1), ([(((91, 0, 0), 0, (0, 0, 0), (0, 0, 0)), (0, (0, 0, 0), (0, 0, 0))), (((0, (-2147483648), (-1)), 0, (0, 0, 0), (0, 0, 0)), (0, (0, 1, 0), (0, 0, 0))), (((0, (-2147483648), 2147483647), 0, (0, 0, 0), (0, 0, 0)), (0, (0, 2, 0), (0, 0, 0))), (((0, (-2147483648), 2147483647), 0, (0, 0, 0), (0, 0, 0)), (0, (0, 3, 0), (0, 0, 0)))], [some (1, 0, 0), some (1, 1, 0), some (1, 2, 0), some (1, 3, 0)], [], []), [([(((0, (-100001), (-100001)), 0, (0, 0, 0), (0, 0, 0)), (0, (0, 0, 0), (0, 0, 0)))], some (1, 4, 0), [], [])], [(89, 3, 4)])
abbrev sn_w0 : List se_Nd := []
set_option maxRecDepth 100000 in
theorem sk_w0 : se_chk0 se_tt [] se_Z 37 se_zt sc_w0 sn_w0 5 = true := by decide +kernel
theorem sm_w0 {ty : Nat → Option Nat} {J : List mm_C → Prop} {kx : Nat} {zs : List mm_Zt} (hO : se_Ok ty J kx zs) : se_Met ty se_tt J kx zs sc_w0 := se_sound (C := []) hO.1 hO.2.1 hO.2.2 (fun _ hn => absurd hn List.not_mem_nil) sk_w0 (fun _ hn => absurd hn List.not_mem_nil)
/-- RaftTown.sheet -/
def sc_q1 : se_C := ((199, 1), ([(((90, 0, 0), 0, (0, 0, 0), (0, 0, 0)), (0, (0, 0, 0), (0, 0, 0))), (((0, 0, 3), 0, (0, 0, 0), (0, 0, 0)), (0, (0, 1, 0), (0, 0, 0))), (((0, (-2147483648), (-1)), 0, (0, 0, 0), (0, 0, 0)), (0, (0, 2, 0), (0, 0, 0))), (((0, (-2147483648), 2147483647), 0, (0, 0, 0), (0, 0, 0)), (0, (0, 3, 0), (0, 0, 0)))], [some (1, 0, 0), some (1, 1, 0), some (1, 2, 0), some (1, 3, 0)], [], []), [([(((0, (-100001), (-100001)), 0, (0, 0, 0), (0, 0, 0)), (0, (0, 0, 0), (0, 0, 0)))], some (1, 4, 0), [], [])], [(88, 7, 8)])
abbrev sn_q1 : List se_Nd := []
set_option maxRecDepth 100000 in
theorem sk_q1 : se_chk0 se_tt [] se_Z 37 se_zt sc_q1 sn_q1 6 = true := by decide +kernel
theorem sm_q1 {ty : Nat → Option Nat} {J : List mm_C → Prop} {kx : Nat} {zs : List mm_Zt} (hO : se_Ok ty J kx zs) : se_Met ty se_tt J kx zs sc_q1 := se_sound (C := []) hO.1 hO.2.1 hO.2.2 (fun _ hn => absurd hn List.not_mem_nil) sk_q1 (fun _ hn => absurd hn List.not_mem_nil)
/-- RaftTownModel.sheet -/
def sc_w1 : se_C := ((324, 1), ([(((91, 0, 0), 0, (0, 0, 0), (0, 0, 0)), (0, (0, 0, 0), (0, 0, 0))), (((0, 0, 3), 0, (0, 0, 0), (0, 0, 0)), (0, (0, 1, 0), (0, 0, 0))), (((0, (-2147483648), (-1)), 0, (0, 0, 0), (0, 0, 0)), (0, (0, 2, 0), (0, 0, 0))), (((0, (-2147483648), 2147483647), 0, (0, 0, 0), (0, 0, 0)), (0, (0, 3, 0), (0, 0, 0)))], [some (1, 0, 0), some (1, 1, 0), some (1, 2, 0), some (1, 3, 0)], [], []), [([(((0, (-100001), (-100001)), 0, (0, 0, 0), (0, 0, 0)), (0, (0, 0, 0), (0, 0, 0)))], some (1, 4, 0), [], [])], [(89, 3, 4)])
abbrev sn_w1 : List se_Nd := []
set_option maxRecDepth 100000 in
theorem sk_w1 : se_chk0 se_tt [] se_Z 37 se_zt sc_w1 sn_w1 6 = true := by decide +kernel
theorem sm_w1 {ty : Nat → Option Nat} {J : List mm_C → Prop} {kx : Nat} {zs : List mm_Zt} (hO : se_Ok ty J kx zs) : se_Met ty se_tt J kx zs sc_w1 := se_sound (C := []) hO.1 hO.2.1 hO.2.2 (fun _ hn => absurd hn List.not_mem_nil) sk_w1 (fun _ hn => absurd hn List.not_mem_nil)
/-- RaftTown.sheet -/
def sc_q2 : se_C := ((199, 1), ([(((90, 0, 0), 0, (0, 0, 0), (0, 0, 0)), (0, (0, 0, 0), (0, 0, 0))), (((0, 0, 3), 0, (0, 0, 0), (0, 0, 0)), (0, (0, 1, 0), (0, 0, 0))), (((0, 0, 0), 0, (0, 0, 0), (0, 0, 0)), (0, (0, 2, 0), (0, 0, 0))), (((0, (-2147483648), (-1)), 0, (0, 0, 0), (0, 0, 0)), (0, (0, 3, 0), (0, 0, 0)))], [some (1, 0, 0), some (1, 1, 0), some (1, 2, 0), some (1, 3, 0)], [], []), [([(((0, (-100003), (-100003)), 0, (0, 0, 0), (0, 0, 0)), (0, (0, 0, 0), (0, 0, 0)))], some (1, 4, 0), [], [])], [(88, 7, 8)])
abbrev sn_q2 : List se_Nd := []
set_option maxRecDepth 100000 in
theorem sk_q2 : se_chk0 se_tt [] se_Z 37 se_zt sc_q2 sn_q2 6 = true := by decide +kernel
theorem sm_q2 {ty : Nat → Option Nat} {J : List mm_C → Prop} {kx : Nat} {zs : List mm_Zt} (hO : se_Ok ty J kx zs) : se_Met ty se_tt J kx zs sc_q2 := se_sound (C := []) hO.1 hO.2.1 hO.2.2 (fun _ hn => absurd hn List.not_mem_nil) sk_q2 (fun _ hn => absurd hn List.not_mem_nil)
/-- RaftTownModel.sheet -/
def sc_w2 : se_C := ((324, 1), ([(((91, 0, 0), 0, (0, 0, 0), (0, 0, 0)), (0, (0, 0, 0), (0, 0, 0))), (((0, 0, 3), 0, (0, 0, 0), (0, 0, 0)), (0, (0, 1, 0), (0, 0, 0))), (((0, 0, 0), 0, (0, 0, 0), (0, 0, 0)), (0, (0, 2, 0), (0, 0, 0))), (((0, (-2147483648), (-1)), 0, (0, 0, 0), (0, 0, 0)), (0, (0, 3, 0), (0, 0, 0)))], [some (1, 0, 0), some (1, 1, 0), some (1, 2, 0), some (1, 3, 0)], [], []), [([(((0, (-100003), (-100003)), 0, (0, 0, 0), (0, 0, 0)), (0, (0, 0, 0), (0, 0, 0)))], some (1, 4, 0), [], [])], [(89, 3, 4)])
abbrev sn_w2 : List se_Nd := []
set_option maxRecDepth 100000 in
theorem sk_w2 : se_chk0 se_tt [] se_Z 37 se_zt sc_w2 sn_w2 6 = true := by decide +kernel
theorem sm_w2 {ty : Nat → Option Nat} {J : List mm_C → Prop} {kx : Nat} {zs : List mm_Zt} (hO : se_Ok ty J kx zs) : se_Met ty se_tt J kx zs sc_w2 := se_sound (C := []) hO.1 hO.2.1 hO.2.2 (fun _ hn => absurd hn List.not_mem_nil) sk_w2 (fun _ hn => absurd hn List.not_mem_nil)
/-- RaftTown.sheet -/
def sc_q3 : se_C := ((199, 2), ([(((90, 0, 0), 0, (0, 0, 0), (0, 0, 0)), (0, (0, 0, 0), (0, 0, 0))), (((0, 0, 0), 0, (0, 0, 0), (0, 0, 0)), (0, (0, 1, 0), (0, 0, 0))), (((0, 0, 0), 0, (0, 0, 0), (0, 0, 0)), (0, (0, 2, 0), (0, 0, 0))), (((0, 0, 20), 0, (0, 0, 0), (0, 0, 0)), (0, (0, 3, 0), (0, 0, 0))), (((88, 0, 0), 0, (0, 0, 0), (0, 0, 0)), (1, (1, 0, 0), (0, 0, 3))), (((81, 0, 0), 0, (0, 0, 0), (0, 0, 0)), (1, (1, 4, 0), (1, 1, 0)))], [some (1, 0, 0), some (1, 1, 0), some (1, 2, 0), some (1, 3, 0)], [((1, 0, 0), (0, 0, 3), (1, 4, 0)), ((1, 4, 0), (1, 1, 0), (1, 5, 0))], []), [([], some (0, 0, 0), [((1, 5, 0), (0, 0, 0), (1, 2, 0)), ((1, 5, 0), (0, 0, 1), (0, 0, 0))], [])], [(52, 0, 20), (79, 0, 1), (79, 1, 2)])
abbrev sn_q3 : List se_Nd := []
set_option maxRecDepth 100000 in
theorem sk_q3 : se_chk0 se_tt [sc_r0_0] se_Z 37 se_zt sc_q3 sn_q3 5 = true := by decide +kernel
theorem sm_q3 {ty : Nat → Option Nat} {J : List mm_C → Prop} {kx : Nat} {zs : List mm_Zt} (hO : se_Ok ty J kx zs) (hr0_0 : se_Met ty se_tt J kx zs sc_r0_0) : se_Met ty se_tt J kx zs sc_q3 := se_sound (C := [sc_r0_0]) hO.1 hO.2.1 hO.2.2 (fun n hn => by
  rcases List.mem_cons.mp hn with rfl | hn
  · exact hr0_0
  exact absurd hn List.not_mem_nil) sk_q3 (fun _ hn => absurd hn List.not_mem_nil)
/-- RaftTownModel.sheet -/
def sc_w3 : se_C := ((324, 1), ([(((91, 0, 0), 0, (0, 0, 0), (0, 0, 0)), (0, (0, 0, 0), (0, 0, 0))), (((0, 0, 0), 0, (0, 0, 0), (0, 0, 0)), (0, (0, 1, 0), (0, 0, 0))), (((0, 0, 0), 0, (0, 0, 0), (0, 0, 0)), (0, (0, 2, 0), (0, 0, 0))), (((0, 0, 20), 0, (0, 0, 0), (0, 0, 0)), (0, (0, 3, 0), (0, 0, 0))), (((70, 0, 0), 0, (0, 0, 0), (0, 0, 0)), (1, (1, 0, 0), (0, 0, 22))), (((71, 0, 0), 0, (0, 0, 0), (0, 0, 0)), (1, (1, 0, 0), (0, 0, 23)))], [some (1, 0, 0), some (1, 1, 0), some (1, 2, 0), some (1, 3, 0)], [((1, 0, 0), (0, 0, 22), (1, 4, 0)), ((1, 0, 0), (0, 0, 23), (1, 5, 0))], []), [([], some (0, 0, 0), [((1, 4, 0), (1, 1, 0), (1, 2, 0)), ((1, 5, 0), (1, 1, 0), (0, 0, 0))], [])], [(68, 0, 1), (69, 0, 1), (70, 0, 80)])
def sn_w3_0 : se_Nd := (85, ([(((91, 0, 0), 0, (0, 0, 0), (0, 0, 0)), (3, (0, 0, 0), (0, 0, 0))), (((0, 0, 0), 0, (0, 0, 0), (0, 0, 0)), (3, (0, 1, 0), (0, 0, 0))), (((0, 0, 0), 0, (0, 0, 0), (0, 0, 0)), (3, (0, 2, 0), (0, 0, 0))), (((0, 0, 20), 0, (0, 0, 0), (0, 0, 0)), (3, (0, 3, 0), (0, 0, 0))), (((70, 0, 0), 0, (0, 0, 0), (0, 0, 0)), (3, (0, 4, 0), (0, 0, 0))), (((71, 0, 0), 0, (0, 0, 0), (0, 0, 0)), (3, (0, 5, 0), (0, 0, 0))), (((0, 0, 20), 0, (0, 0, 0), (0, 0, 0)), (0, (0, 4, 0), (0, 0, 0)))], [some (1, 0, 0), some (1, 1, 0), some (1, 2, 0), some (1, 3, 0), some (1, 6, 0)], [((1, 0, 0), (0, 0, 22), (1, 4, 0)), ((1, 0, 0), (0, 0, 23), (1, 5, 0)), ((1, 4, 0), (1, 1, 0), (1, 2, 0)), ((1, 5, 0), (1, 1, 0), (0, 0, 0))], []), [(0, 0, 0), ((-1), 6, 0), (0, 0, 0)])
abbrev sn_w3 : List se_Nd := [sn_w3_0]
set_option maxRecDepth 100000 in
theorem sk_w3 : se_chk0 se_tt [] se_Z 37 se_zt sc_w3 sn_w3 6 = true := by decide +kernel
set_option maxRecDepth 100000 in
theorem sk_w3_0 : se_chkn se_tt [] se_Z 37 se_zt sc_w3 sn_w3 6 sn_w3_0 = true := by decide +kernel
theorem sm_w3 {ty : Nat → Option Nat} {J : List mm_C → Prop} {kx : Nat} {zs : List mm_Zt} (hO : se_Ok ty J kx zs) : se_Met ty se_tt J kx zs sc_w3 := se_sound (C := []) hO.1 hO.2.1 hO.2.2 (fun _ hn => absurd hn List.not_mem_nil) sk_w3 (fun n hn => by
  rcases List.mem_cons.mp hn with rfl | hn
  · exact sk_w3_0
  exact absurd hn List.not_mem_nil)
/-- RaftTown.sheet -/
def sc_q4 : se_C := ((199, 2), ([(((90, 0, 0), 0, (0, 0, 0), (0, 0, 0)), (0, (0, 0, 0), (0, 0, 0))), (((0, 1, 1), 0, (0, 0, 0), (0, 0, 0)), (0, (0, 1, 0), (0, 0, 0))), (((0, 0, 0), 0, (0, 0, 0), (0, 0, 0)), (0, (0, 2, 0), (0, 0, 0))), (((0, 0, 20), 0, (0, 0, 0), (0, 0, 0)), (0, (0, 3, 0), (0, 0, 0))), (((88, 0, 0), 0, (0, 0, 0), (0, 0, 0)), (1, (1, 0, 0), (0, 0, 3))), (((121, 0, 0), 0, (0, 0, 0), (0, 0, 0)), (1, (1, 4, 0), (1, 1, 0)))], [some (1, 0, 0), some (1, 1, 0), some (1, 2, 0), some (1, 3, 0)], [((1, 0, 0), (0, 0, 3), (1, 4, 0)), ((1, 4, 0), (1, 1, 0), (1, 5, 0))], []), [([], some (0, 0, 0), [((1, 5, 0), (0, 0, 0), (1, 2, 0)), ((1, 5, 0), (0, 0, 1), (0, 0, 0))], [])], [(116, 0, 20), (119, 0, 1), (119, 1, 2)])
abbrev sn_q4 : List se_Nd := []
set_option maxRecDepth 100000 in
theorem sk_q4 : se_chk0 se_tt [sc_r1_0] se_Z 37 se_zt sc_q4 sn_q4 5 = true := by decide +kernel
theorem sm_q4 {ty : Nat → Option Nat} {J : List mm_C → Prop} {kx : Nat} {zs : List mm_Zt} (hO : se_Ok ty J kx zs) (hr1_0 : se_Met ty se_tt J kx zs sc_r1_0) : se_Met ty se_tt J kx zs sc_q4 := se_sound (C := [sc_r1_0]) hO.1 hO.2.1 hO.2.2 (fun n hn => by
  rcases List.mem_cons.mp hn with rfl | hn
  · exact hr1_0
  exact absurd hn List.not_mem_nil) sk_q4 (fun _ hn => absurd hn List.not_mem_nil)
/-- RaftTownModel.sheet -/
def sc_w4 : se_C := ((324, 1), ([(((91, 0, 0), 0, (0, 0, 0), (0, 0, 0)), (0, (0, 0, 0), (0, 0, 0))), (((0, 1, 1), 0, (0, 0, 0), (0, 0, 0)), (0, (0, 1, 0), (0, 0, 0))), (((0, 0, 0), 0, (0, 0, 0), (0, 0, 0)), (0, (0, 2, 0), (0, 0, 0))), (((0, 0, 20), 0, (0, 0, 0), (0, 0, 0)), (0, (0, 3, 0), (0, 0, 0))), (((70, 0, 0), 0, (0, 0, 0), (0, 0, 0)), (1, (1, 0, 0), (0, 0, 22))), (((71, 0, 0), 0, (0, 0, 0), (0, 0, 0)), (1, (1, 0, 0), (0, 0, 23)))], [some (1, 0, 0), some (1, 1, 0), some (1, 2, 0), some (1, 3, 0)], [((1, 0, 0), (0, 0, 22), (1, 4, 0)), ((1, 0, 0), (0, 0, 23), (1, 5, 0))], []), [([], some (0, 0, 0), [((1, 4, 0), (1, 1, 0), (1, 2, 0)), ((1, 5, 0), (1, 1, 0), (0, 0, 0))], [])], [(68, 1, 2), (69, 1, 2), (70, 0, 80)])
def sn_w4_0 : se_Nd := (85, ([(((91, 0, 0), 0, (0, 0, 0), (0, 0, 0)), (3, (0, 0, 0), (0, 0, 0))), (((0, 1, 1), 0, (0, 0, 0), (0, 0, 0)), (3, (0, 1, 0), (0, 0, 0))), (((0, 0, 0), 0, (0, 0, 0), (0, 0, 0)), (3, (0, 2, 0), (0, 0, 0))), (((0, 0, 20), 0, (0, 0, 0), (0, 0, 0)), (3, (0, 3, 0), (0, 0, 0))), (((70, 0, 0), 0, (0, 0, 0), (0, 0, 0)), (3, (0, 4, 0), (0, 0, 0))), (((71, 0, 0), 0, (0, 0, 0), (0, 0, 0)), (3, (0, 5, 0), (0, 0, 0))), (((0, 0, 20), 0, (0, 0, 0), (0, 0, 0)), (0, (0, 4, 0), (0, 0, 0)))], [some (1, 0, 0), some (1, 1, 0), some (1, 2, 0), some (1, 3, 0), some (1, 6, 0)], [((1, 0, 0), (0, 0, 22), (1, 4, 0)), ((1, 0, 0), (0, 0, 23), (1, 5, 0)), ((1, 4, 0), (1, 1, 0), (1, 2, 0)), ((1, 5, 0), (1, 1, 0), (0, 0, 0))], []), [(0, 0, 0), ((-1), 6, 0), (0, 0, 0)])
abbrev sn_w4 : List se_Nd := [sn_w4_0]
set_option maxRecDepth 100000 in
theorem sk_w4 : se_chk0 se_tt [] se_Z 37 se_zt sc_w4 sn_w4 6 = true := by decide +kernel
set_option maxRecDepth 100000 in
theorem sk_w4_0 : se_chkn se_tt [] se_Z 37 se_zt sc_w4 sn_w4 6 sn_w4_0 = true := by decide +kernel
theorem sm_w4 {ty : Nat → Option Nat} {J : List mm_C → Prop} {kx : Nat} {zs : List mm_Zt} (hO : se_Ok ty J kx zs) : se_Met ty se_tt J kx zs sc_w4 := se_sound (C := []) hO.1 hO.2.1 hO.2.2 (fun _ hn => absurd hn List.not_mem_nil) sk_w4 (fun n hn => by
  rcases List.mem_cons.mp hn with rfl | hn
  · exact sk_w4_0
  exact absurd hn List.not_mem_nil)
/-- RaftTown.sheet -/
def sc_q5 : se_C := ((199, 2), ([(((90, 0, 0), 0, (0, 0, 0), (0, 0, 0)), (0, (0, 0, 0), (0, 0, 0))), (((0, 2, 2), 0, (0, 0, 0), (0, 0, 0)), (0, (0, 1, 0), (0, 0, 0))), (((0, 0, 0), 0, (0, 0, 0), (0, 0, 0)), (0, (0, 2, 0), (0, 0, 0))), (((0, 0, 20), 0, (0, 0, 0), (0, 0, 0)), (0, (0, 3, 0), (0, 0, 0))), (((88, 0, 0), 0, (0, 0, 0), (0, 0, 0)), (1, (1, 0, 0), (0, 0, 3))), (((122, 0, 0), 0, (0, 0, 0), (0, 0, 0)), (1, (1, 4, 0), (1, 1, 0)))], [some (1, 0, 0), some (1, 1, 0), some (1, 2, 0), some (1, 3, 0)], [((1, 0, 0), (0, 0, 3), (1, 4, 0)), ((1, 4, 0), (1, 1, 0), (1, 5, 0))], []), [([], some (0, 0, 0), [((1, 5, 0), (0, 0, 0), (1, 2, 0)), ((1, 5, 0), (0, 0, 1), (0, 0, 0))], [])], [(117, 0, 20), (120, 0, 1), (120, 1, 2)])
abbrev sn_q5 : List se_Nd := []
set_option maxRecDepth 100000 in
theorem sk_q5 : se_chk0 se_tt [sc_r2_0] se_Z 37 se_zt sc_q5 sn_q5 5 = true := by decide +kernel
theorem sm_q5 {ty : Nat → Option Nat} {J : List mm_C → Prop} {kx : Nat} {zs : List mm_Zt} (hO : se_Ok ty J kx zs) (hr2_0 : se_Met ty se_tt J kx zs sc_r2_0) : se_Met ty se_tt J kx zs sc_q5 := se_sound (C := [sc_r2_0]) hO.1 hO.2.1 hO.2.2 (fun n hn => by
  rcases List.mem_cons.mp hn with rfl | hn
  · exact hr2_0
  exact absurd hn List.not_mem_nil) sk_q5 (fun _ hn => absurd hn List.not_mem_nil)
/-- RaftTownModel.sheet -/
def sc_w5 : se_C := ((324, 1), ([(((91, 0, 0), 0, (0, 0, 0), (0, 0, 0)), (0, (0, 0, 0), (0, 0, 0))), (((0, 2, 2), 0, (0, 0, 0), (0, 0, 0)), (0, (0, 1, 0), (0, 0, 0))), (((0, 0, 0), 0, (0, 0, 0), (0, 0, 0)), (0, (0, 2, 0), (0, 0, 0))), (((0, 0, 20), 0, (0, 0, 0), (0, 0, 0)), (0, (0, 3, 0), (0, 0, 0))), (((70, 0, 0), 0, (0, 0, 0), (0, 0, 0)), (1, (1, 0, 0), (0, 0, 22))), (((71, 0, 0), 0, (0, 0, 0), (0, 0, 0)), (1, (1, 0, 0), (0, 0, 23)))], [some (1, 0, 0), some (1, 1, 0), some (1, 2, 0), some (1, 3, 0)], [((1, 0, 0), (0, 0, 22), (1, 4, 0)), ((1, 0, 0), (0, 0, 23), (1, 5, 0))], []), [([], some (0, 0, 0), [((1, 4, 0), (1, 1, 0), (1, 2, 0)), ((1, 5, 0), (1, 1, 0), (0, 0, 0))], [])], [(68, 2, 3), (69, 2, 3), (70, 0, 80)])
def sn_w5_0 : se_Nd := (85, ([(((91, 0, 0), 0, (0, 0, 0), (0, 0, 0)), (3, (0, 0, 0), (0, 0, 0))), (((0, 2, 2), 0, (0, 0, 0), (0, 0, 0)), (3, (0, 1, 0), (0, 0, 0))), (((0, 0, 0), 0, (0, 0, 0), (0, 0, 0)), (3, (0, 2, 0), (0, 0, 0))), (((0, 0, 20), 0, (0, 0, 0), (0, 0, 0)), (3, (0, 3, 0), (0, 0, 0))), (((70, 0, 0), 0, (0, 0, 0), (0, 0, 0)), (3, (0, 4, 0), (0, 0, 0))), (((71, 0, 0), 0, (0, 0, 0), (0, 0, 0)), (3, (0, 5, 0), (0, 0, 0))), (((0, 0, 20), 0, (0, 0, 0), (0, 0, 0)), (0, (0, 4, 0), (0, 0, 0)))], [some (1, 0, 0), some (1, 1, 0), some (1, 2, 0), some (1, 3, 0), some (1, 6, 0)], [((1, 0, 0), (0, 0, 22), (1, 4, 0)), ((1, 0, 0), (0, 0, 23), (1, 5, 0)), ((1, 4, 0), (1, 1, 0), (1, 2, 0)), ((1, 5, 0), (1, 1, 0), (0, 0, 0))], []), [(0, 0, 0), ((-1), 6, 0), (0, 0, 0)])
abbrev sn_w5 : List se_Nd := [sn_w5_0]
set_option maxRecDepth 100000 in
theorem sk_w5 : se_chk0 se_tt [] se_Z 37 se_zt sc_w5 sn_w5 6 = true := by decide +kernel
set_option maxRecDepth 100000 in
theorem sk_w5_0 : se_chkn se_tt [] se_Z 37 se_zt sc_w5 sn_w5 6 sn_w5_0 = true := by decide +kernel
theorem sm_w5 {ty : Nat → Option Nat} {J : List mm_C → Prop} {kx : Nat} {zs : List mm_Zt} (hO : se_Ok ty J kx zs) : se_Met ty se_tt J kx zs sc_w5 := se_sound (C := []) hO.1 hO.2.1 hO.2.2 (fun _ hn => absurd hn List.not_mem_nil) sk_w5 (fun n hn => by
  rcases List.mem_cons.mp hn with rfl | hn
  · exact sk_w5_0
  exact absurd hn List.not_mem_nil)
/-- RaftTown.sheet -/
def sc_q6 : se_C := ((199, 2), ([(((90, 0, 0), 0, (0, 0, 0), (0, 0, 0)), (0, (0, 0, 0), (0, 0, 0))), (((0, 3, 3), 0, (0, 0, 0), (0, 0, 0)), (0, (0, 1, 0), (0, 0, 0))), (((0, 0, 0), 0, (0, 0, 0), (0, 0, 0)), (0, (0, 2, 0), (0, 0, 0))), (((0, 0, 20), 0, (0, 0, 0), (0, 0, 0)), (0, (0, 3, 0), (0, 0, 0))), (((88, 0, 0), 0, (0, 0, 0), (0, 0, 0)), (1, (1, 0, 0), (0, 0, 3))), (((123, 0, 0), 0, (0, 0, 0), (0, 0, 0)), (1, (1, 4, 0), (1, 1, 0)))], [some (1, 0, 0), some (1, 1, 0), some (1, 2, 0), some (1, 3, 0)], [((1, 0, 0), (0, 0, 3), (1, 4, 0)), ((1, 4, 0), (1, 1, 0), (1, 5, 0))], []), [([], some (0, 0, 0), [((1, 5, 0), (0, 0, 0), (1, 2, 0)), ((1, 5, 0), (0, 0, 1), (0, 0, 0))], [])], [(118, 0, 20), (121, 0, 1), (121, 1, 2)])
abbrev sn_q6 : List se_Nd := []
set_option maxRecDepth 100000 in
theorem sk_q6 : se_chk0 se_tt [sc_r3_0] se_Z 37 se_zt sc_q6 sn_q6 5 = true := by decide +kernel
theorem sm_q6 {ty : Nat → Option Nat} {J : List mm_C → Prop} {kx : Nat} {zs : List mm_Zt} (hO : se_Ok ty J kx zs) (hr3_0 : se_Met ty se_tt J kx zs sc_r3_0) : se_Met ty se_tt J kx zs sc_q6 := se_sound (C := [sc_r3_0]) hO.1 hO.2.1 hO.2.2 (fun n hn => by
  rcases List.mem_cons.mp hn with rfl | hn
  · exact hr3_0
  exact absurd hn List.not_mem_nil) sk_q6 (fun _ hn => absurd hn List.not_mem_nil)
/-- RaftTownModel.sheet -/
def sc_w6 : se_C := ((324, 1), ([(((91, 0, 0), 0, (0, 0, 0), (0, 0, 0)), (0, (0, 0, 0), (0, 0, 0))), (((0, 3, 3), 0, (0, 0, 0), (0, 0, 0)), (0, (0, 1, 0), (0, 0, 0))), (((0, 0, 0), 0, (0, 0, 0), (0, 0, 0)), (0, (0, 2, 0), (0, 0, 0))), (((0, 0, 20), 0, (0, 0, 0), (0, 0, 0)), (0, (0, 3, 0), (0, 0, 0))), (((70, 0, 0), 0, (0, 0, 0), (0, 0, 0)), (1, (1, 0, 0), (0, 0, 22))), (((71, 0, 0), 0, (0, 0, 0), (0, 0, 0)), (1, (1, 0, 0), (0, 0, 23)))], [some (1, 0, 0), some (1, 1, 0), some (1, 2, 0), some (1, 3, 0)], [((1, 0, 0), (0, 0, 22), (1, 4, 0)), ((1, 0, 0), (0, 0, 23), (1, 5, 0))], []), [([], some (0, 0, 0), [((1, 4, 0), (1, 1, 0), (1, 2, 0)), ((1, 5, 0), (1, 1, 0), (0, 0, 0))], [])], [(68, 3, 4), (69, 3, 4), (70, 0, 80)])
def sn_w6_0 : se_Nd := (85, ([(((91, 0, 0), 0, (0, 0, 0), (0, 0, 0)), (3, (0, 0, 0), (0, 0, 0))), (((0, 3, 3), 0, (0, 0, 0), (0, 0, 0)), (3, (0, 1, 0), (0, 0, 0))), (((0, 0, 0), 0, (0, 0, 0), (0, 0, 0)), (3, (0, 2, 0), (0, 0, 0))), (((0, 0, 20), 0, (0, 0, 0), (0, 0, 0)), (3, (0, 3, 0), (0, 0, 0))), (((70, 0, 0), 0, (0, 0, 0), (0, 0, 0)), (3, (0, 4, 0), (0, 0, 0))), (((71, 0, 0), 0, (0, 0, 0), (0, 0, 0)), (3, (0, 5, 0), (0, 0, 0))), (((0, 0, 20), 0, (0, 0, 0), (0, 0, 0)), (0, (0, 4, 0), (0, 0, 0)))], [some (1, 0, 0), some (1, 1, 0), some (1, 2, 0), some (1, 3, 0), some (1, 6, 0)], [((1, 0, 0), (0, 0, 22), (1, 4, 0)), ((1, 0, 0), (0, 0, 23), (1, 5, 0)), ((1, 4, 0), (1, 1, 0), (1, 2, 0)), ((1, 5, 0), (1, 1, 0), (0, 0, 0))], []), [(0, 0, 0), ((-1), 6, 0), (0, 0, 0)])
abbrev sn_w6 : List se_Nd := [sn_w6_0]
set_option maxRecDepth 100000 in
theorem sk_w6 : se_chk0 se_tt [] se_Z 37 se_zt sc_w6 sn_w6 6 = true := by decide +kernel
set_option maxRecDepth 100000 in
theorem sk_w6_0 : se_chkn se_tt [] se_Z 37 se_zt sc_w6 sn_w6 6 sn_w6_0 = true := by decide +kernel
theorem sm_w6 {ty : Nat → Option Nat} {J : List mm_C → Prop} {kx : Nat} {zs : List mm_Zt} (hO : se_Ok ty J kx zs) : se_Met ty se_tt J kx zs sc_w6 := se_sound (C := []) hO.1 hO.2.1 hO.2.2 (fun _ hn => absurd hn List.not_mem_nil) sk_w6 (fun n hn => by
  rcases List.mem_cons.mp hn with rfl | hn
  · exact sk_w6_0
  exact absurd hn List.not_mem_nil)
/-- RaftTown.sheet -/
def sc_q7 : se_C := ((199, 1), ([(((90, 0, 0), 0, (0, 0, 0), (0, 0, 0)), (0, (0, 0, 0), (0, 0, 0))), (((0, 0, 3), 0, (0, 0, 0), (0, 0, 0)), (0, (0, 1, 0), (0, 0, 0))), (((0, 0, 0), 0, (0, 0, 0), (0, 0, 0)), (0, (0, 2, 0), (0, 0, 0))), (((0, 21, 2147483647), 0, (0, 0, 0), (0, 0, 0)), (0, (0, 3, 0), (0, 0, 0)))], [some (1, 0, 0), some (1, 1, 0), some (1, 2, 0), some (1, 3, 0)], [], []), [([(((0, (-100001), (-100001)), 0, (0, 0, 0), (0, 0, 0)), (0, (0, 0, 0), (0, 0, 0)))], some (1, 4, 0), [], [])], [(88, 7, 8)])
abbrev sn_q7 : List se_Nd := []
set_option maxRecDepth 100000 in
theorem sk_q7 : se_chk0 se_tt [] se_Z 37 se_zt sc_q7 sn_q7 6 = true := by decide +kernel
theorem sm_q7 {ty : Nat → Option Nat} {J : List mm_C → Prop} {kx : Nat} {zs : List mm_Zt} (hO : se_Ok ty J kx zs) : se_Met ty se_tt J kx zs sc_q7 := se_sound (C := []) hO.1 hO.2.1 hO.2.2 (fun _ hn => absurd hn List.not_mem_nil) sk_q7 (fun _ hn => absurd hn List.not_mem_nil)
/-- RaftTownModel.sheet -/
def sc_w7 : se_C := ((324, 1), ([(((91, 0, 0), 0, (0, 0, 0), (0, 0, 0)), (0, (0, 0, 0), (0, 0, 0))), (((0, 0, 3), 0, (0, 0, 0), (0, 0, 0)), (0, (0, 1, 0), (0, 0, 0))), (((0, 0, 0), 0, (0, 0, 0), (0, 0, 0)), (0, (0, 2, 0), (0, 0, 0))), (((0, 21, 2147483647), 0, (0, 0, 0), (0, 0, 0)), (0, (0, 3, 0), (0, 0, 0)))], [some (1, 0, 0), some (1, 1, 0), some (1, 2, 0), some (1, 3, 0)], [], []), [([(((0, (-100001), (-100001)), 0, (0, 0, 0), (0, 0, 0)), (0, (0, 0, 0), (0, 0, 0)))], some (1, 4, 0), [], [])], [(89, 3, 4)])
abbrev sn_w7 : List se_Nd := []
set_option maxRecDepth 100000 in
theorem sk_w7 : se_chk0 se_tt [] se_Z 37 se_zt sc_w7 sn_w7 6 = true := by decide +kernel
theorem sm_w7 {ty : Nat → Option Nat} {J : List mm_C → Prop} {kx : Nat} {zs : List mm_Zt} (hO : se_Ok ty J kx zs) : se_Met ty se_tt J kx zs sc_w7 := se_sound (C := []) hO.1 hO.2.1 hO.2.2 (fun _ hn => absurd hn List.not_mem_nil) sk_w7 (fun _ hn => absurd hn List.not_mem_nil)
/-- RaftTown.sheet -/
def sc_q8 : se_C := ((199, 1), ([(((90, 0, 0), 0, (0, 0, 0), (0, 0, 0)), (0, (0, 0, 0), (0, 0, 0))), (((0, 0, 3), 0, (0, 0, 0), (0, 0, 0)), (0, (0, 1, 0), (0, 0, 0))), (((0, 1, 7), 0, (0, 0, 0), (0, 0, 0)), (0, (0, 2, 0), (0, 0, 0))), (((0, (-2147483648), 2147483647), 0, (0, 0, 0), (0, 0, 0)), (0, (0, 3, 0), (0, 0, 0)))], [some (1, 0, 0), some (1, 1, 0), some (1, 2, 0), some (1, 3, 0)], [], []), [([(((0, (-100001), (-100001)), 0, (0, 0, 0), (0, 0, 0)), (0, (0, 0, 0), (0, 0, 0)))], some (1, 4, 0), [], [])], [(88, 7, 8)])
abbrev sn_q8 : List se_Nd := []
set_option maxRecDepth 100000 in
theorem sk_q8 : se_chk0 se_tt [] se_Z 37 se_zt sc_q8 sn_q8 6 = true := by decide +kernel
theorem sm_q8 {ty : Nat → Option Nat} {J : List mm_C → Prop} {kx : Nat} {zs : List mm_Zt} (hO : se_Ok ty J kx zs) : se_Met ty se_tt J kx zs sc_q8 := se_sound (C := []) hO.1 hO.2.1 hO.2.2 (fun _ hn => absurd hn List.not_mem_nil) sk_q8 (fun _ hn => absurd hn List.not_mem_nil)
/-- RaftTownModel.sheet -/
def sc_w8 : se_C := ((324, 1), ([(((91, 0, 0), 0, (0, 0, 0), (0, 0, 0)), (0, (0, 0, 0), (0, 0, 0))), (((0, 0, 3), 0, (0, 0, 0), (0, 0, 0)), (0, (0, 1, 0), (0, 0, 0))), (((0, 1, 7), 0, (0, 0, 0), (0, 0, 0)), (0, (0, 2, 0), (0, 0, 0))), (((0, (-2147483648), 2147483647), 0, (0, 0, 0), (0, 0, 0)), (0, (0, 3, 0), (0, 0, 0)))], [some (1, 0, 0), some (1, 1, 0), some (1, 2, 0), some (1, 3, 0)], [], []), [([(((0, (-100001), (-100001)), 0, (0, 0, 0), (0, 0, 0)), (0, (0, 0, 0), (0, 0, 0)))], some (1, 4, 0), [], [])], [(89, 3, 4)])
abbrev sn_w8 : List se_Nd := []
set_option maxRecDepth 100000 in
theorem sk_w8 : se_chk0 se_tt [] se_Z 37 se_zt sc_w8 sn_w8 6 = true := by decide +kernel
theorem sm_w8 {ty : Nat → Option Nat} {J : List mm_C → Prop} {kx : Nat} {zs : List mm_Zt} (hO : se_Ok ty J kx zs) : se_Met ty se_tt J kx zs sc_w8 := se_sound (C := []) hO.1 hO.2.1 hO.2.2 (fun _ hn => absurd hn List.not_mem_nil) sk_w8 (fun _ hn => absurd hn List.not_mem_nil)
/-- RaftTown.sheet -/
def sc_q9 : se_C := ((199, 1), ([(((90, 0, 0), 0, (0, 0, 0), (0, 0, 0)), (0, (0, 0, 0), (0, 0, 0))), (((0, 0, 3), 0, (0, 0, 0), (0, 0, 0)), (0, (0, 1, 0), (0, 0, 0))), (((0, 8, 8), 0, (0, 0, 0), (0, 0, 0)), (0, (0, 2, 0), (0, 0, 0))), (((0, (-2147483648), (-1)), 0, (0, 0, 0), (0, 0, 0)), (0, (0, 3, 0), (0, 0, 0)))], [some (1, 0, 0), some (1, 1, 0), some (1, 2, 0), some (1, 3, 0)], [], []), [([(((0, (-100003), (-100003)), 0, (0, 0, 0), (0, 0, 0)), (0, (0, 0, 0), (0, 0, 0)))], some (1, 4, 0), [], [])], [(88, 7, 8)])
abbrev sn_q9 : List se_Nd := []
set_option maxRecDepth 100000 in
theorem sk_q9 : se_chk0 se_tt [] se_Z 37 se_zt sc_q9 sn_q9 6 = true := by decide +kernel
theorem sm_q9 {ty : Nat → Option Nat} {J : List mm_C → Prop} {kx : Nat} {zs : List mm_Zt} (hO : se_Ok ty J kx zs) : se_Met ty se_tt J kx zs sc_q9 := se_sound (C := []) hO.1 hO.2.1 hO.2.2 (fun _ hn => absurd hn List.not_mem_nil) sk_q9 (fun _ hn => absurd hn List.not_mem_nil)
/-- RaftTownModel.sheet -/
def sc_w9 : se_C := ((324, 1), ([(((91, 0, 0), 0, (0, 0, 0), (0, 0, 0)), (0, (0, 0, 0), (0, 0, 0))), (((0, 0, 3), 0, (0, 0, 0), (0, 0, 0)), (0, (0, 1, 0), (0, 0, 0))), (((0, 8, 8), 0, (0, 0, 0), (0, 0, 0)), (0, (0, 2, 0), (0, 0, 0))), (((0, (-2147483648), (-1)), 0, (0, 0, 0), (0, 0, 0)), (0, (0, 3, 0), (0, 0, 0)))], [some (1, 0, 0), some (1, 1, 0), some (1, 2, 0), some (1, 3, 0)], [], []), [([(((0, (-100003), (-100003)), 0, (0, 0, 0), (0, 0, 0)), (0, (0, 0, 0), (0, 0, 0)))], some (1, 4, 0), [], [])], [(89, 3, 4)])
abbrev sn_w9 : List se_Nd := []
set_option maxRecDepth 100000 in
theorem sk_w9 : se_chk0 se_tt [] se_Z 37 se_zt sc_w9 sn_w9 6 = true := by decide +kernel
theorem sm_w9 {ty : Nat → Option Nat} {J : List mm_C → Prop} {kx : Nat} {zs : List mm_Zt} (hO : se_Ok ty J kx zs) : se_Met ty se_tt J kx zs sc_w9 := se_sound (C := []) hO.1 hO.2.1 hO.2.2 (fun _ hn => absurd hn List.not_mem_nil) sk_w9 (fun _ hn => absurd hn List.not_mem_nil)
/-- RaftTown.sheet -/
def sc_q10 : se_C := ((199, 2), ([(((90, 0, 0), 0, (0, 0, 0), (0, 0, 0)), (0, (0, 0, 0), (0, 0, 0))), (((0, 0, 0), 0, (0, 0, 0), (0, 0, 0)), (0, (0, 1, 0), (0, 0, 0))), (((0, 8, 8), 0, (0, 0, 0), (0, 0, 0)), (0, (0, 2, 0), (0, 0, 0))), (((0, 0, 20), 0, (0, 0, 0), (0, 0, 0)), (0, (0, 3, 0), (0, 0, 0))), (((88, 0, 0), 0, (0, 0, 0), (0, 0, 0)), (1, (1, 0, 0), (0, 0, 3))), (((81, 0, 0), 0, (0, 0, 0), (0, 0, 0)), (1, (1, 4, 0), (1, 1, 0)))], [some (1, 0, 0), some (1, 1, 0), some (1, 2, 0), some (1, 3, 0)], [((1, 0, 0), (0, 0, 3), (1, 4, 0)), ((1, 4, 0), (1, 1, 0), (1, 5, 0))], []), [([], some (1, 3, 0), [((1, 5, 0), (0, 0, 0), (1, 2, 0)), ((1, 5, 0), (0, 0, 1), (1, 3, 0))], [])], [(52, 0, 20), (79, 0, 1), (79, 1, 2)])
abbrev sn_q10 : List se_Nd := []
set_option maxRecDepth 100000 in
theorem sk_q10 : se_chk0 se_tt [sc_r0_8] se_Z 37 se_zt sc_q10 sn_q10 6 = true := by decide +kernel
theorem sm_q10 {ty : Nat → Option Nat} {J : List mm_C → Prop} {kx : Nat} {zs : List mm_Zt} (hO : se_Ok ty J kx zs) (hr0_8 : se_Met ty se_tt J kx zs sc_r0_8) : se_Met ty se_tt J kx zs sc_q10 := se_sound (C := [sc_r0_8]) hO.1 hO.2.1 hO.2.2 (fun n hn => by
  rcases List.mem_cons.mp hn with rfl | hn
  · exact hr0_8
  exact absurd hn List.not_mem_nil) sk_q10 (fun _ hn => absurd hn List.not_mem_nil)
/-- RaftTownModel.sheet -/
def sc_w10 : se_C := ((324, 1), ([(((91, 0, 0), 0, (0, 0, 0), (0, 0, 0)), (0, (0, 0, 0), (0, 0, 0))), (((0, 0, 0), 0, (0, 0, 0), (0, 0, 0)), (0, (0, 1, 0), (0, 0, 0))), (((0, 8, 8), 0, (0, 0, 0), (0, 0, 0)), (0, (0, 2, 0), (0, 0, 0))), (((0, 0, 20), 0, (0, 0, 0), (0, 0, 0)), (0, (0, 3, 0), (0, 0, 0))), (((70, 0, 0), 0, (0, 0, 0), (0, 0, 0)), (1, (1, 0, 0), (0, 0, 22))), (((71, 0, 0), 0, (0, 0, 0), (0, 0, 0)), (1, (1, 0, 0), (0, 0, 23)))], [some (1, 0, 0), some (1, 1, 0), some (1, 2, 0), some (1, 3, 0)], [((1, 0, 0), (0, 0, 22), (1, 4, 0)), ((1, 0, 0), (0, 0, 23), (1, 5, 0))], []), [([], some (1, 3, 0), [((1, 4, 0), (1, 1, 0), (1, 2, 0)), ((1, 5, 0), (1, 1, 0), (1, 3, 0))], [])], [(68, 0, 1), (69, 0, 1), (70, 0, 80)])
def sn_w10_0 : se_Nd := (85, ([(((91, 0, 0), 0, (0, 0, 0), (0, 0, 0)), (3, (0, 0, 0), (0, 0, 0))), (((0, 0, 0), 0, (0, 0, 0), (0, 0, 0)), (3, (0, 1, 0), (0, 0, 0))), (((0, 8, 8), 0, (0, 0, 0), (0, 0, 0)), (3, (0, 2, 0), (0, 0, 0))), (((0, 0, 20), 0, (0, 0, 0), (0, 0, 0)), (3, (0, 3, 0), (0, 0, 0))), (((70, 0, 0), 0, (0, 0, 0), (0, 0, 0)), (3, (0, 4, 0), (0, 0, 0))), (((71, 0, 0), 0, (0, 0, 0), (0, 0, 0)), (3, (0, 5, 0), (0, 0, 0))), (((0, 0, 20), 0, (0, 0, 0), (0, 0, 0)), (0, (0, 4, 0), (0, 0, 0)))], [some (1, 0, 0), some (1, 1, 0), some (1, 2, 0), some (1, 3, 0), some (1, 6, 0)], [((1, 0, 0), (0, 0, 22), (1, 4, 0)), ((1, 0, 0), (0, 0, 23), (1, 5, 0)), ((1, 4, 0), (1, 1, 0), (1, 2, 0)), ((1, 5, 0), (1, 1, 0), (1, 3, 0))], []), [(0, 0, 0), ((-1), 6, 0), (0, 0, 0)])
abbrev sn_w10 : List se_Nd := [sn_w10_0]
set_option maxRecDepth 100000 in
theorem sk_w10 : se_chk0 se_tt [] se_Z 37 se_zt sc_w10 sn_w10 6 = true := by decide +kernel
set_option maxRecDepth 100000 in
theorem sk_w10_0 : se_chkn se_tt [] se_Z 37 se_zt sc_w10 sn_w10 6 sn_w10_0 = true := by decide +kernel
theorem sm_w10 {ty : Nat → Option Nat} {J : List mm_C → Prop} {kx : Nat} {zs : List mm_Zt} (hO : se_Ok ty J kx zs) : se_Met ty se_tt J kx zs sc_w10 := se_sound (C := []) hO.1 hO.2.1 hO.2.2 (fun _ hn => absurd hn List.not_mem_nil) sk_w10 (fun n hn => by
  rcases List.mem_cons.mp hn with rfl | hn
  · exact sk_w10_0
  exact absurd hn List.not_mem_nil)
/-- RaftTown.sheet -/
def sc_q11 : se_C := ((199, 2), ([(((90, 0, 0), 0, (0, 0, 0), (0, 0, 0)), (0, (0, 0, 0), (0, 0, 0))), (((0, 1, 1), 0, (0, 0, 0), (0, 0, 0)), (0, (0, 1, 0), (0, 0, 0))), (((0, 8, 8), 0, (0, 0, 0), (0, 0, 0)), (0, (0, 2, 0), (0, 0, 0))), (((0, 0, 20), 0, (0, 0, 0), (0, 0, 0)), (0, (0, 3, 0), (0, 0, 0))), (((88, 0, 0), 0, (0, 0, 0), (0, 0, 0)), (1, (1, 0, 0), (0, 0, 3))), (((121, 0, 0), 0, (0, 0, 0), (0, 0, 0)), (1, (1, 4, 0), (1, 1, 0)))], [some (1, 0, 0), some (1, 1, 0), some (1, 2, 0), some (1, 3, 0)], [((1, 0, 0), (0, 0, 3), (1, 4, 0)), ((1, 4, 0), (1, 1, 0), (1, 5, 0))], []), [([], some (1, 3, 0), [((1, 5, 0), (0, 0, 0), (1, 2, 0)), ((1, 5, 0), (0, 0, 1), (1, 3, 0))], [])], [(116, 0, 20), (119, 0, 1), (119, 1, 2)])
abbrev sn_q11 : List se_Nd := []
set_option maxRecDepth 100000 in
theorem sk_q11 : se_chk0 se_tt [sc_r1_8] se_Z 37 se_zt sc_q11 sn_q11 6 = true := by decide +kernel
theorem sm_q11 {ty : Nat → Option Nat} {J : List mm_C → Prop} {kx : Nat} {zs : List mm_Zt} (hO : se_Ok ty J kx zs) (hr1_8 : se_Met ty se_tt J kx zs sc_r1_8) : se_Met ty se_tt J kx zs sc_q11 := se_sound (C := [sc_r1_8]) hO.1 hO.2.1 hO.2.2 (fun n hn => by
  rcases List.mem_cons.mp hn with rfl | hn
  · exact hr1_8
  exact absurd hn List.not_mem_nil) sk_q11 (fun _ hn => absurd hn List.not_mem_nil)
/-- RaftTownModel.sheet -/
def sc_w11 : se_C := ((324, 1), ([(((91, 0, 0), 0, (0, 0, 0), (0, 0, 0)), (0, (0, 0, 0), (0, 0, 0))), (((0, 1, 1), 0, (0, 0, 0), (0, 0, 0)), (0, (0, 1, 0), (0, 0, 0))), (((0, 8, 8), 0, (0, 0, 0), (0, 0, 0)), (0, (0, 2, 0), (0, 0, 0))), (((0, 0, 20), 0, (0, 0, 0), (0, 0, 0)), (0, (0, 3, 0), (0, 0, 0))), (((70, 0, 0), 0, (0, 0, 0), (0, 0, 0)), (1, (1, 0, 0), (0, 0, 22))), (((71, 0, 0), 0, (0, 0, 0), (0, 0, 0)), (1, (1, 0, 0), (0, 0, 23)))], [some (1, 0, 0), some (1, 1, 0), some (1, 2, 0), some (1, 3, 0)], [((1, 0, 0), (0, 0, 22), (1, 4, 0)), ((1, 0, 0), (0, 0, 23), (1, 5, 0))], []), [([], some (1, 3, 0), [((1, 4, 0), (1, 1, 0), (1, 2, 0)), ((1, 5, 0), (1, 1, 0), (1, 3, 0))], [])], [(68, 1, 2), (69, 1, 2), (70, 0, 80)])
def sn_w11_0 : se_Nd := (85, ([(((91, 0, 0), 0, (0, 0, 0), (0, 0, 0)), (3, (0, 0, 0), (0, 0, 0))), (((0, 1, 1), 0, (0, 0, 0), (0, 0, 0)), (3, (0, 1, 0), (0, 0, 0))), (((0, 8, 8), 0, (0, 0, 0), (0, 0, 0)), (3, (0, 2, 0), (0, 0, 0))), (((0, 0, 20), 0, (0, 0, 0), (0, 0, 0)), (3, (0, 3, 0), (0, 0, 0))), (((70, 0, 0), 0, (0, 0, 0), (0, 0, 0)), (3, (0, 4, 0), (0, 0, 0))), (((71, 0, 0), 0, (0, 0, 0), (0, 0, 0)), (3, (0, 5, 0), (0, 0, 0))), (((0, 0, 20), 0, (0, 0, 0), (0, 0, 0)), (0, (0, 4, 0), (0, 0, 0)))], [some (1, 0, 0), some (1, 1, 0), some (1, 2, 0), some (1, 3, 0), some (1, 6, 0)], [((1, 0, 0), (0, 0, 22), (1, 4, 0)), ((1, 0, 0), (0, 0, 23), (1, 5, 0)), ((1, 4, 0), (1, 1, 0), (1, 2, 0)), ((1, 5, 0), (1, 1, 0), (1, 3, 0))], []), [(0, 0, 0), ((-1), 6, 0), (0, 0, 0)])
abbrev sn_w11 : List se_Nd := [sn_w11_0]
set_option maxRecDepth 100000 in
theorem sk_w11 : se_chk0 se_tt [] se_Z 37 se_zt sc_w11 sn_w11 6 = true := by decide +kernel
set_option maxRecDepth 100000 in
theorem sk_w11_0 : se_chkn se_tt [] se_Z 37 se_zt sc_w11 sn_w11 6 sn_w11_0 = true := by decide +kernel
theorem sm_w11 {ty : Nat → Option Nat} {J : List mm_C → Prop} {kx : Nat} {zs : List mm_Zt} (hO : se_Ok ty J kx zs) : se_Met ty se_tt J kx zs sc_w11 := se_sound (C := []) hO.1 hO.2.1 hO.2.2 (fun _ hn => absurd hn List.not_mem_nil) sk_w11 (fun n hn => by
  rcases List.mem_cons.mp hn with rfl | hn
  · exact sk_w11_0
  exact absurd hn List.not_mem_nil)
/-- RaftTown.sheet -/
def sc_q12 : se_C := ((199, 2), ([(((90, 0, 0), 0, (0, 0, 0), (0, 0, 0)), (0, (0, 0, 0), (0, 0, 0))), (((0, 2, 2), 0, (0, 0, 0), (0, 0, 0)), (0, (0, 1, 0), (0, 0, 0))), (((0, 8, 8), 0, (0, 0, 0), (0, 0, 0)), (0, (0, 2, 0), (0, 0, 0))), (((0, 0, 20), 0, (0, 0, 0), (0, 0, 0)), (0, (0, 3, 0), (0, 0, 0))), (((88, 0, 0), 0, (0, 0, 0), (0, 0, 0)), (1, (1, 0, 0), (0, 0, 3))), (((122, 0, 0), 0, (0, 0, 0), (0, 0, 0)), (1, (1, 4, 0), (1, 1, 0)))], [some (1, 0, 0), some (1, 1, 0), some (1, 2, 0), some (1, 3, 0)], [((1, 0, 0), (0, 0, 3), (1, 4, 0)), ((1, 4, 0), (1, 1, 0), (1, 5, 0))], []), [([], some (1, 3, 0), [((1, 5, 0), (0, 0, 0), (1, 2, 0)), ((1, 5, 0), (0, 0, 1), (1, 3, 0))], [])], [(117, 0, 20), (120, 0, 1), (120, 1, 2)])
abbrev sn_q12 : List se_Nd := []
set_option maxRecDepth 100000 in
theorem sk_q12 : se_chk0 se_tt [sc_r2_8] se_Z 37 se_zt sc_q12 sn_q12 6 = true := by decide +kernel
theorem sm_q12 {ty : Nat → Option Nat} {J : List mm_C → Prop} {kx : Nat} {zs : List mm_Zt} (hO : se_Ok ty J kx zs) (hr2_8 : se_Met ty se_tt J kx zs sc_r2_8) : se_Met ty se_tt J kx zs sc_q12 := se_sound (C := [sc_r2_8]) hO.1 hO.2.1 hO.2.2 (fun n hn => by
  rcases List.mem_cons.mp hn with rfl | hn
  · exact hr2_8
  exact absurd hn List.not_mem_nil) sk_q12 (fun _ hn => absurd hn List.not_mem_nil)
/-- RaftTownModel.sheet -/
def sc_w12 : se_C := ((324, 1), ([(((91, 0, 0), 0, (0, 0, 0), (0, 0, 0)), (0, (0, 0, 0), (0, 0, 0))), (((0, 2, 2), 0, (0, 0, 0), (0, 0, 0)), (0, (0, 1, 0), (0, 0, 0))), (((0, 8, 8), 0, (0, 0, 0), (0, 0, 0)), (0, (0, 2, 0), (0, 0, 0))), (((0, 0, 20), 0, (0, 0, 0), (0, 0, 0)), (0, (0, 3, 0), (0, 0, 0))), (((70, 0, 0), 0, (0, 0, 0), (0, 0, 0)), (1, (1, 0, 0), (0, 0, 22))), (((71, 0, 0), 0, (0, 0, 0), (0, 0, 0)), (1, (1, 0, 0), (0, 0, 23)))], [some (1, 0, 0), some (1, 1, 0), some (1, 2, 0), some (1, 3, 0)], [((1, 0, 0), (0, 0, 22), (1, 4, 0)), ((1, 0, 0), (0, 0, 23), (1, 5, 0))], []), [([], some (1, 3, 0), [((1, 4, 0), (1, 1, 0), (1, 2, 0)), ((1, 5, 0), (1, 1, 0), (1, 3, 0))], [])], [(68, 2, 3), (69, 2, 3), (70, 0, 80)])
def sn_w12_0 : se_Nd := (85, ([(((91, 0, 0), 0, (0, 0, 0), (0, 0, 0)), (3, (0, 0, 0), (0, 0, 0))), (((0, 2, 2), 0, (0, 0, 0), (0, 0, 0)), (3, (0, 1, 0), (0, 0, 0))), (((0, 8, 8), 0, (0, 0, 0), (0, 0, 0)), (3, (0, 2, 0), (0, 0, 0))), (((0, 0, 20), 0, (0, 0, 0), (0, 0, 0)), (3, (0, 3, 0), (0, 0, 0))), (((70, 0, 0), 0, (0, 0, 0), (0, 0, 0)), (3, (0, 4, 0), (0, 0, 0))), (((71, 0, 0), 0, (0, 0, 0), (0, 0, 0)), (3, (0, 5, 0), (0, 0, 0))), (((0, 0, 20), 0, (0, 0, 0), (0, 0, 0)), (0, (0, 4, 0), (0, 0, 0)))], [some (1, 0, 0), some (1, 1, 0), some (1, 2, 0), some (1, 3, 0), some (1, 6, 0)], [((1, 0, 0), (0, 0, 22), (1, 4, 0)), ((1, 0, 0), (0, 0, 23), (1, 5, 0)), ((1, 4, 0), (1, 1, 0), (1, 2, 0)), ((1, 5, 0), (1, 1, 0), (1, 3, 0))], []), [(0, 0, 0), ((-1), 6, 0), (0, 0, 0)])
abbrev sn_w12 : List se_Nd := [sn_w12_0]
set_option maxRecDepth 100000 in
theorem sk_w12 : se_chk0 se_tt [] se_Z 37 se_zt sc_w12 sn_w12 6 = true := by decide +kernel
set_option maxRecDepth 100000 in
theorem sk_w12_0 : se_chkn se_tt [] se_Z 37 se_zt sc_w12 sn_w12 6 sn_w12_0 = true := by decide +kernel
theorem sm_w12 {ty : Nat → Option Nat} {J : List mm_C → Prop} {kx : Nat} {zs : List mm_Zt} (hO : se_Ok ty J kx zs) : se_Met ty se_tt J kx zs sc_w12 := se_sound (C := []) hO.1 hO.2.1 hO.2.2 (fun _ hn => absurd hn List.not_mem_nil) sk_w12 (fun n hn => by
  rcases List.mem_cons.mp hn with rfl | hn
  · exact sk_w12_0
  exact absurd hn List.not_mem_nil)
/-- RaftTown.sheet -/
def sc_q13 : se_C := ((199, 2), ([(((90, 0, 0), 0, (0, 0, 0), (0, 0, 0)), (0, (0, 0, 0), (0, 0, 0))), (((0, 3, 3), 0, (0, 0, 0), (0, 0, 0)), (0, (0, 1, 0), (0, 0, 0))), (((0, 8, 8), 0, (0, 0, 0), (0, 0, 0)), (0, (0, 2, 0), (0, 0, 0))), (((0, 0, 20), 0, (0, 0, 0), (0, 0, 0)), (0, (0, 3, 0), (0, 0, 0))), (((88, 0, 0), 0, (0, 0, 0), (0, 0, 0)), (1, (1, 0, 0), (0, 0, 3))), (((123, 0, 0), 0, (0, 0, 0), (0, 0, 0)), (1, (1, 4, 0), (1, 1, 0)))], [some (1, 0, 0), some (1, 1, 0), some (1, 2, 0), some (1, 3, 0)], [((1, 0, 0), (0, 0, 3), (1, 4, 0)), ((1, 4, 0), (1, 1, 0), (1, 5, 0))], []), [([], some (1, 3, 0), [((1, 5, 0), (0, 0, 0), (1, 2, 0)), ((1, 5, 0), (0, 0, 1), (1, 3, 0))], [])], [(118, 0, 20), (121, 0, 1), (121, 1, 2)])
abbrev sn_q13 : List se_Nd := []
set_option maxRecDepth 100000 in
theorem sk_q13 : se_chk0 se_tt [sc_r3_8] se_Z 37 se_zt sc_q13 sn_q13 6 = true := by decide +kernel
theorem sm_q13 {ty : Nat → Option Nat} {J : List mm_C → Prop} {kx : Nat} {zs : List mm_Zt} (hO : se_Ok ty J kx zs) (hr3_8 : se_Met ty se_tt J kx zs sc_r3_8) : se_Met ty se_tt J kx zs sc_q13 := se_sound (C := [sc_r3_8]) hO.1 hO.2.1 hO.2.2 (fun n hn => by
  rcases List.mem_cons.mp hn with rfl | hn
  · exact hr3_8
  exact absurd hn List.not_mem_nil) sk_q13 (fun _ hn => absurd hn List.not_mem_nil)
/-- RaftTownModel.sheet -/
def sc_w13 : se_C := ((324, 1), ([(((91, 0, 0), 0, (0, 0, 0), (0, 0, 0)), (0, (0, 0, 0), (0, 0, 0))), (((0, 3, 3), 0, (0, 0, 0), (0, 0, 0)), (0, (0, 1, 0), (0, 0, 0))), (((0, 8, 8), 0, (0, 0, 0), (0, 0, 0)), (0, (0, 2, 0), (0, 0, 0))), (((0, 0, 20), 0, (0, 0, 0), (0, 0, 0)), (0, (0, 3, 0), (0, 0, 0))), (((70, 0, 0), 0, (0, 0, 0), (0, 0, 0)), (1, (1, 0, 0), (0, 0, 22))), (((71, 0, 0), 0, (0, 0, 0), (0, 0, 0)), (1, (1, 0, 0), (0, 0, 23)))], [some (1, 0, 0), some (1, 1, 0), some (1, 2, 0), some (1, 3, 0)], [((1, 0, 0), (0, 0, 22), (1, 4, 0)), ((1, 0, 0), (0, 0, 23), (1, 5, 0))], []), [([], some (1, 3, 0), [((1, 4, 0), (1, 1, 0), (1, 2, 0)), ((1, 5, 0), (1, 1, 0), (1, 3, 0))], [])], [(68, 3, 4), (69, 3, 4), (70, 0, 80)])
def sn_w13_0 : se_Nd := (85, ([(((91, 0, 0), 0, (0, 0, 0), (0, 0, 0)), (3, (0, 0, 0), (0, 0, 0))), (((0, 3, 3), 0, (0, 0, 0), (0, 0, 0)), (3, (0, 1, 0), (0, 0, 0))), (((0, 8, 8), 0, (0, 0, 0), (0, 0, 0)), (3, (0, 2, 0), (0, 0, 0))), (((0, 0, 20), 0, (0, 0, 0), (0, 0, 0)), (3, (0, 3, 0), (0, 0, 0))), (((70, 0, 0), 0, (0, 0, 0), (0, 0, 0)), (3, (0, 4, 0), (0, 0, 0))), (((71, 0, 0), 0, (0, 0, 0), (0, 0, 0)), (3, (0, 5, 0), (0, 0, 0))), (((0, 0, 20), 0, (0, 0, 0), (0, 0, 0)), (0, (0, 4, 0), (0, 0, 0)))], [some (1, 0, 0), some (1, 1, 0), some (1, 2, 0), some (1, 3, 0), some (1, 6, 0)], [((1, 0, 0), (0, 0, 22), (1, 4, 0)), ((1, 0, 0), (0, 0, 23), (1, 5, 0)), ((1, 4, 0), (1, 1, 0), (1, 2, 0)), ((1, 5, 0), (1, 1, 0), (1, 3, 0))], []), [(0, 0, 0), ((-1), 6, 0), (0, 0, 0)])
abbrev sn_w13 : List se_Nd := [sn_w13_0]
set_option maxRecDepth 100000 in
theorem sk_w13 : se_chk0 se_tt [] se_Z 37 se_zt sc_w13 sn_w13 6 = true := by decide +kernel
set_option maxRecDepth 100000 in
theorem sk_w13_0 : se_chkn se_tt [] se_Z 37 se_zt sc_w13 sn_w13 6 sn_w13_0 = true := by decide +kernel
theorem sm_w13 {ty : Nat → Option Nat} {J : List mm_C → Prop} {kx : Nat} {zs : List mm_Zt} (hO : se_Ok ty J kx zs) : se_Met ty se_tt J kx zs sc_w13 := se_sound (C := []) hO.1 hO.2.1 hO.2.2 (fun _ hn => absurd hn List.not_mem_nil) sk_w13 (fun n hn => by
  rcases List.mem_cons.mp hn with rfl | hn
  · exact sk_w13_0
  exact absurd hn List.not_mem_nil)
/-- RaftTown.sheet -/
def sc_q14 : se_C := ((199, 1), ([(((90, 0, 0), 0, (0, 0, 0), (0, 0, 0)), (0, (0, 0, 0), (0, 0, 0))), (((0, 0, 3), 0, (0, 0, 0), (0, 0, 0)), (0, (0, 1, 0), (0, 0, 0))), (((0, 8, 8), 0, (0, 0, 0), (0, 0, 0)), (0, (0, 2, 0), (0, 0, 0))), (((0, 21, 2147483647), 0, (0, 0, 0), (0, 0, 0)), (0, (0, 3, 0), (0, 0, 0)))], [some (1, 0, 0), some (1, 1, 0), some (1, 2, 0), some (1, 3, 0)], [], []), [([(((0, (-100001), (-100001)), 0, (0, 0, 0), (0, 0, 0)), (0, (0, 0, 0), (0, 0, 0)))], some (1, 4, 0), [], [])], [(88, 7, 8)])
abbrev sn_q14 : List se_Nd := []
set_option maxRecDepth 100000 in
theorem sk_q14 : se_chk0 se_tt [] se_Z 37 se_zt sc_q14 sn_q14 6 = true := by decide +kernel
theorem sm_q14 {ty : Nat → Option Nat} {J : List mm_C → Prop} {kx : Nat} {zs : List mm_Zt} (hO : se_Ok ty J kx zs) : se_Met ty se_tt J kx zs sc_q14 := se_sound (C := []) hO.1 hO.2.1 hO.2.2 (fun _ hn => absurd hn List.not_mem_nil) sk_q14 (fun _ hn => absurd hn List.not_mem_nil)
/-- RaftTownModel.sheet -/
def sc_w14 : se_C := ((324, 1), ([(((91, 0, 0), 0, (0, 0, 0), (0, 0, 0)), (0, (0, 0, 0), (0, 0, 0))), (((0, 0, 3), 0, (0, 0, 0), (0, 0, 0)), (0, (0, 1, 0), (0, 0, 0))), (((0, 8, 8), 0, (0, 0, 0), (0, 0, 0)), (0, (0, 2, 0), (0, 0, 0))), (((0, 21, 2147483647), 0, (0, 0, 0), (0, 0, 0)), (0, (0, 3, 0), (0, 0, 0)))], [some (1, 0, 0), some (1, 1, 0), some (1, 2, 0), some (1, 3, 0)], [], []), [([(((0, (-100001), (-100001)), 0, (0, 0, 0), (0, 0, 0)), (0, (0, 0, 0), (0, 0, 0)))], some (1, 4, 0), [], [])], [(89, 3, 4)])
abbrev sn_w14 : List se_Nd := []
set_option maxRecDepth 100000 in
theorem sk_w14 : se_chk0 se_tt [] se_Z 37 se_zt sc_w14 sn_w14 6 = true := by decide +kernel
theorem sm_w14 {ty : Nat → Option Nat} {J : List mm_C → Prop} {kx : Nat} {zs : List mm_Zt} (hO : se_Ok ty J kx zs) : se_Met ty se_tt J kx zs sc_w14 := se_sound (C := []) hO.1 hO.2.1 hO.2.2 (fun _ hn => absurd hn List.not_mem_nil) sk_w14 (fun _ hn => absurd hn List.not_mem_nil)
/-- RaftTown.sheet -/
def sc_q15 : se_C := ((199, 1), ([(((90, 0, 0), 0, (0, 0, 0), (0, 0, 0)), (0, (0, 0, 0), (0, 0, 0))), (((0, 0, 3), 0, (0, 0, 0), (0, 0, 0)), (0, (0, 1, 0), (0, 0, 0))), (((0, 9, 15), 0, (0, 0, 0), (0, 0, 0)), (0, (0, 2, 0), (0, 0, 0))), (((0, (-2147483648), 2147483647), 0, (0, 0, 0), (0, 0, 0)), (0, (0, 3, 0), (0, 0, 0)))], [some (1, 0, 0), some (1, 1, 0), some (1, 2, 0), some (1, 3, 0)], [], []), [([(((0, (-100001), (-100001)), 0, (0, 0, 0), (0, 0, 0)), (0, (0, 0, 0), (0, 0, 0)))], some (1, 4, 0), [], [])], [(88, 7, 8)])
abbrev sn_q15 : List se_Nd := []
set_option maxRecDepth 100000 in
theorem sk_q15 : se_chk0 se_tt [] se_Z 37 se_zt sc_q15 sn_q15 6 = true := by decide +kernel
theorem sm_q15 {ty : Nat → Option Nat} {J : List mm_C → Prop} {kx : Nat} {zs : List mm_Zt} (hO : se_Ok ty J kx zs) : se_Met ty se_tt J kx zs sc_q15 := se_sound (C := []) hO.1 hO.2.1 hO.2.2 (fun _ hn => absurd hn List.not_mem_nil) sk_q15 (fun _ hn => absurd hn List.not_mem_nil)
/-- RaftTownModel.sheet -/
def sc_w15 : se_C := ((324, 1), ([(((91, 0, 0), 0, (0, 0, 0), (0, 0, 0)), (0, (0, 0, 0), (0, 0, 0))), (((0, 0, 3), 0, (0, 0, 0), (0, 0, 0)), (0, (0, 1, 0), (0, 0, 0))), (((0, 9, 15), 0, (0, 0, 0), (0, 0, 0)), (0, (0, 2, 0), (0, 0, 0))), (((0, (-2147483648), 2147483647), 0, (0, 0, 0), (0, 0, 0)), (0, (0, 3, 0), (0, 0, 0)))], [some (1, 0, 0), some (1, 1, 0), some (1, 2, 0), some (1, 3, 0)], [], []), [([(((0, (-100001), (-100001)), 0, (0, 0, 0), (0, 0, 0)), (0, (0, 0, 0), (0, 0, 0)))], some (1, 4, 0), [], [])], [(89, 3, 4)])
abbrev sn_w15 : List se_Nd := []
set_option maxRecDepth 100000 in
theorem sk_w15 : se_chk0 se_tt [] se_Z 37 se_zt sc_w15 sn_w15 6 = true := by decide +kernel
theorem sm_w15 {ty : Nat → Option Nat} {J : List mm_C → Prop} {kx : Nat} {zs : List mm_Zt} (hO : se_Ok ty J kx zs) : se_Met ty se_tt J kx zs sc_w15 := se_sound (C := []) hO.1 hO.2.1 hO.2.2 (fun _ hn => absurd hn List.not_mem_nil) sk_w15 (fun _ hn => absurd hn List.not_mem_nil)
/-- RaftTown.sheet -/
def sc_q16 : se_C := ((199, 1), ([(((90, 0, 0), 0, (0, 0, 0), (0, 0, 0)), (0, (0, 0, 0), (0, 0, 0))), (((0, 0, 3), 0, (0, 0, 0), (0, 0, 0)), (0, (0, 1, 0), (0, 0, 0))), (((0, 16, 16), 0, (0, 0, 0), (0, 0, 0)), (0, (0, 2, 0), (0, 0, 0))), (((0, (-2147483648), (-1)), 0, (0, 0, 0), (0, 0, 0)), (0, (0, 3, 0), (0, 0, 0)))], [some (1, 0, 0), some (1, 1, 0), some (1, 2, 0), some (1, 3, 0)], [], []), [([(((0, (-100003), (-100003)), 0, (0, 0, 0), (0, 0, 0)), (0, (0, 0, 0), (0, 0, 0)))], some (1, 4, 0), [], [])], [(88, 7, 8)])
abbrev sn_q16 : List se_Nd := []
set_option maxRecDepth 100000 in
theorem sk_q16 : se_chk0 se_tt [] se_Z 37 se_zt sc_q16 sn_q16 6 = true := by decide +kernel
theorem sm_q16 {ty : Nat → Option Nat} {J : List mm_C → Prop} {kx : Nat} {zs : List mm_Zt} (hO : se_Ok ty J kx zs) : se_Met ty se_tt J kx zs sc_q16 := se_sound (C := []) hO.1 hO.2.1 hO.2.2 (fun _ hn => absurd hn List.not_mem_nil) sk_q16 (fun _ hn => absurd hn List.not_mem_nil)
/-- RaftTownModel.sheet -/
def sc_w16 : se_C := ((324, 1), ([(((91, 0, 0), 0, (0, 0, 0), (0, 0, 0)), (0, (0, 0, 0), (0, 0, 0))), (((0, 0, 3), 0, (0, 0, 0), (0, 0, 0)), (0, (0, 1, 0), (0, 0, 0))), (((0, 16, 16), 0, (0, 0, 0), (0, 0, 0)), (0, (0, 2, 0), (0, 0, 0))), (((0, (-2147483648), (-1)), 0, (0, 0, 0), (0, 0, 0)), (0, (0, 3, 0), (0, 0, 0)))], [some (1, 0, 0), some (1, 1, 0), some (1, 2, 0), some (1, 3, 0)], [], []), [([(((0, (-100003), (-100003)), 0, (0, 0, 0), (0, 0, 0)), (0, (0, 0, 0), (0, 0, 0)))], some (1, 4, 0), [], [])], [(89, 3, 4)])
abbrev sn_w16 : List se_Nd := []
set_option maxRecDepth 100000 in
theorem sk_w16 : se_chk0 se_tt [] se_Z 37 se_zt sc_w16 sn_w16 6 = true := by decide +kernel
theorem sm_w16 {ty : Nat → Option Nat} {J : List mm_C → Prop} {kx : Nat} {zs : List mm_Zt} (hO : se_Ok ty J kx zs) : se_Met ty se_tt J kx zs sc_w16 := se_sound (C := []) hO.1 hO.2.1 hO.2.2 (fun _ hn => absurd hn List.not_mem_nil) sk_w16 (fun _ hn => absurd hn List.not_mem_nil)
/-- RaftTown.sheet -/
def sc_q17 : se_C := ((199, 2), ([(((90, 0, 0), 0, (0, 0, 0), (0, 0, 0)), (0, (0, 0, 0), (0, 0, 0))), (((0, 0, 0), 0, (0, 0, 0), (0, 0, 0)), (0, (0, 1, 0), (0, 0, 0))), (((0, 16, 16), 0, (0, 0, 0), (0, 0, 0)), (0, (0, 2, 0), (0, 0, 0))), (((0, 0, 20), 0, (0, 0, 0), (0, 0, 0)), (0, (0, 3, 0), (0, 0, 0))), (((88, 0, 0), 0, (0, 0, 0), (0, 0, 0)), (1, (1, 0, 0), (0, 0, 3))), (((81, 0, 0), 0, (0, 0, 0), (0, 0, 0)), (1, (1, 4, 0), (1, 1, 0)))], [some (1, 0, 0), some (1, 1, 0), some (1, 2, 0), some (1, 3, 0)], [((1, 0, 0), (0, 0, 3), (1, 4, 0)), ((1, 4, 0), (1, 1, 0), (1, 5, 0))], []), [([], some (1, 3, 0), [((1, 5, 0), (0, 0, 0), (1, 2, 0)), ((1, 5, 0), (0, 0, 1), (1, 3, 0))], [])], [(52, 0, 20), (79, 0, 1), (79, 1, 2)])
abbrev sn_q17 : List se_Nd := []
set_option maxRecDepth 100000 in
theorem sk_q17 : se_chk0 se_tt [sc_r0_16] se_Z 37 se_zt sc_q17 sn_q17 6 = true := by decide +kernel
theorem sm_q17 {ty : Nat → Option Nat} {J : List mm_C → Prop} {kx : Nat} {zs : List mm_Zt} (hO : se_Ok ty J kx zs) (hr0_16 : se_Met ty se_tt J kx zs sc_r0_16) : se_Met ty se_tt J kx zs sc_q17 := se_sound (C := [sc_r0_16]) hO.1 hO.2.1 hO.2.2 (fun n hn => by
  rcases List.mem_cons.mp hn with rfl | hn
  · exact hr0_16
  exact absurd hn List.not_mem_nil) sk_q17 (fun _ hn => absurd hn List.not_mem_nil)
/-- RaftTownModel.sheet -/
def sc_w17 : se_C := ((324, 1), ([(((91, 0, 0), 0, (0, 0, 0), (0, 0, 0)), (0, (0, 0, 0), (0, 0, 0))), (((0, 0, 0), 0, (0, 0, 0), (0, 0, 0)), (0, (0, 1, 0), (0, 0, 0))), (((0, 16, 16), 0, (0, 0, 0), (0, 0, 0)), (0, (0, 2, 0), (0, 0, 0))), (((0, 0, 20), 0, (0, 0, 0), (0, 0, 0)), (0, (0, 3, 0), (0, 0, 0))), (((70, 0, 0), 0, (0, 0, 0), (0, 0, 0)), (1, (1, 0, 0), (0, 0, 22))), (((71, 0, 0), 0, (0, 0, 0), (0, 0, 0)), (1, (1, 0, 0), (0, 0, 23)))], [some (1, 0, 0), some (1, 1, 0), some (1, 2, 0), some (1, 3, 0)], [((1, 0, 0), (0, 0, 22), (1, 4, 0)), ((1, 0, 0), (0, 0, 23), (1, 5, 0))], []), [([], some (1, 3, 0), [((1, 4, 0), (1, 1, 0), (1, 2, 0)), ((1, 5, 0), (1, 1, 0), (1, 3, 0))], [])], [(68, 0, 1), (69, 0, 1), (70, 0, 80)])
def sn_w17_0 : se_Nd := (85, ([(((91, 0, 0), 0, (0, 0, 0), (0, 0, 0)), (3, (0, 0, 0), (0, 0, 0))), (((0, 0, 0), 0, (0, 0, 0), (0, 0, 0)), (3, (0, 1, 0), (0, 0, 0))), (((0, 16, 16), 0, (0, 0, 0), (0, 0, 0)), (3, (0, 2, 0), (0, 0, 0))), (((0, 0, 20), 0, (0, 0, 0), (0, 0, 0)), (3, (0, 3, 0), (0, 0, 0))), (((70, 0, 0), 0, (0, 0, 0), (0, 0, 0)), (3, (0, 4, 0), (0, 0, 0))), (((71, 0, 0), 0, (0, 0, 0), (0, 0, 0)), (3, (0, 5, 0), (0, 0, 0))), (((0, 0, 20), 0, (0, 0, 0), (0, 0, 0)), (0, (0, 4, 0), (0, 0, 0)))], [some (1, 0, 0), some (1, 1, 0), some (1, 2, 0), some (1, 3, 0), some (1, 6, 0)], [((1, 0, 0), (0, 0, 22), (1, 4, 0)), ((1, 0, 0), (0, 0, 23), (1, 5, 0)), ((1, 4, 0), (1, 1, 0), (1, 2, 0)), ((1, 5, 0), (1, 1, 0), (1, 3, 0))], []), [(0, 0, 0), ((-1), 6, 0), (0, 0, 0)])
abbrev sn_w17 : List se_Nd := [sn_w17_0]
set_option maxRecDepth 100000 in
theorem sk_w17 : se_chk0 se_tt [] se_Z 37 se_zt sc_w17 sn_w17 6 = true := by decide +kernel
set_option maxRecDepth 100000 in
theorem sk_w17_0 : se_chkn se_tt [] se_Z 37 se_zt sc_w17 sn_w17 6 sn_w17_0 = true := by decide +kernel
theorem sm_w17 {ty : Nat → Option Nat} {J : List mm_C → Prop} {kx : Nat} {zs : List mm_Zt} (hO : se_Ok ty J kx zs) : se_Met ty se_tt J kx zs sc_w17 := se_sound (C := []) hO.1 hO.2.1 hO.2.2 (fun _ hn => absurd hn List.not_mem_nil) sk_w17 (fun n hn => by
  rcases List.mem_cons.mp hn with rfl | hn
  · exact sk_w17_0
  exact absurd hn List.not_mem_nil)
/-- RaftTown.sheet -/
def sc_q18 : se_C := ((199, 2), ([(((90, 0, 0), 0, (0, 0, 0), (0, 0, 0)), (0, (0, 0, 0), (0, 0, 0))), (((0, 1, 1), 0, (0, 0, 0), (0, 0, 0)), (0, (0, 1, 0), (0, 0, 0))), (((0, 16, 16), 0, (0, 0, 0), (0, 0, 0)), (0, (0, 2, 0), (0, 0, 0))), (((0, 0, 20), 0, (0, 0, 0), (0, 0, 0)), (0, (0, 3, 0), (0, 0, 0))), (((88, 0, 0), 0, (0, 0, 0), (0, 0, 0)), (1, (1, 0, 0), (0, 0, 3))), (((121, 0, 0), 0, (0, 0, 0), (0, 0, 0)), (1, (1, 4, 0), (1, 1, 0)))], [some (1, 0, 0), some (1, 1, 0), some (1, 2, 0), some (1, 3, 0)], [((1, 0, 0), (0, 0, 3), (1, 4, 0)), ((1, 4, 0), (1, 1, 0), (1, 5, 0))], []), [([], some (1, 3, 0), [((1, 5, 0), (0, 0, 0), (1, 2, 0)), ((1, 5, 0), (0, 0, 1), (1, 3, 0))], [])], [(116, 0, 20), (119, 0, 1), (119, 1, 2)])
abbrev sn_q18 : List se_Nd := []
set_option maxRecDepth 100000 in
theorem sk_q18 : se_chk0 se_tt [sc_r1_16] se_Z 37 se_zt sc_q18 sn_q18 6 = true := by decide +kernel
theorem sm_q18 {ty : Nat → Option Nat} {J : List mm_C → Prop} {kx : Nat} {zs : List mm_Zt} (hO : se_Ok ty J kx zs) (hr1_16 : se_Met ty se_tt J kx zs sc_r1_16) : se_Met ty se_tt J kx zs sc_q18 := se_sound (C := [sc_r1_16]) hO.1 hO.2.1 hO.2.2 (fun n hn => by
  rcases List.mem_cons.mp hn with rfl | hn
  · exact hr1_16
  exact absurd hn List.not_mem_nil) sk_q18 (fun _ hn => absurd hn List.not_mem_nil)
/-- RaftTownModel.sheet -/
def sc_w18 : se_C := ((324, 1), ([(((91, 0, 0), 0, (0, 0, 0), (0, 0, 0)), (0, (0, 0, 0), (0, 0, 0))), (((0, 1, 1), 0, (0, 0, 0), (0, 0, 0)), (0, (0, 1, 0), (0, 0, 0))), (((0, 16, 16), 0, (0, 0, 0), (0, 0, 0)), (0, (0, 2, 0), (0, 0, 0))), (((0, 0, 20), 0, (0, 0, 0), (0, 0, 0)), (0, (0, 3, 0), (0, 0, 0))), (((70, 0, 0), 0, (0, 0, 0), (0, 0, 0)), (1, (1, 0, 0), (0, 0, 22))), (((71, 0, 0), 0, (0, 0, 0), (0, 0, 0)), (1, (1, 0, 0), (0, 0, 23)))], [some (1, 0, 0), some (1, 1, 0), some (1, 2, 0), some (1, 3, 0)], [((1, 0, 0), (0, 0, 22), (1, 4, 0)), ((1, 0, 0), (0, 0, 23), (1, 5, 0))], []), [([], some (1, 3, 0), [((1, 4, 0), (1, 1, 0), (1, 2, 0)), ((1, 5, 0), (1, 1, 0), (1, 3, 0))], [])], [(68, 1, 2), (69, 1, 2), (70, 0, 80)])
def sn_w18_0 : se_Nd := (85, ([(((91, 0, 0), 0, (0, 0, 0), (0, 0, 0)), (3, (0, 0, 0), (0, 0, 0))), (((0, 1, 1), 0, (0, 0, 0), (0, 0, 0)), (3, (0, 1, 0), (0, 0, 0))), (((0, 16, 16), 0, (0, 0, 0), (0, 0, 0)), (3, (0, 2, 0), (0, 0, 0))), (((0, 0, 20), 0, (0, 0, 0), (0, 0, 0)), (3, (0, 3, 0), (0, 0, 0))), (((70, 0, 0), 0, (0, 0, 0), (0, 0, 0)), (3, (0, 4, 0), (0, 0, 0))), (((71, 0, 0), 0, (0, 0, 0), (0, 0, 0)), (3, (0, 5, 0), (0, 0, 0))), (((0, 0, 20), 0, (0, 0, 0), (0, 0, 0)), (0, (0, 4, 0), (0, 0, 0)))], [some (1, 0, 0), some (1, 1, 0), some (1, 2, 0), some (1, 3, 0), some (1, 6, 0)], [((1, 0, 0), (0, 0, 22), (1, 4, 0)), ((1, 0, 0), (0, 0, 23), (1, 5, 0)), ((1, 4, 0), (1, 1, 0), (1, 2, 0)), ((1, 5, 0), (1, 1, 0), (1, 3, 0))], []), [(0, 0, 0), ((-1), 6, 0), (0, 0, 0)])
abbrev sn_w18 : List se_Nd := [sn_w18_0]
set_option maxRecDepth 100000 in
theorem sk_w18 : se_chk0 se_tt [] se_Z 37 se_zt sc_w18 sn_w18 6 = true := by decide +kernel
set_option maxRecDepth 100000 in
theorem sk_w18_0 : se_chkn se_tt [] se_Z 37 se_zt sc_w18 sn_w18 6 sn_w18_0 = true := by decide +kernel
theorem sm_w18 {ty : Nat → Option Nat} {J : List mm_C → Prop} {kx : Nat} {zs : List mm_Zt} (hO : se_Ok ty J kx zs) : se_Met ty se_tt J kx zs sc_w18 := se_sound (C := []) hO.1 hO.2.1 hO.2.2 (fun _ hn => absurd hn List.not_mem_nil) sk_w18 (fun n hn => by
  rcases List.mem_cons.mp hn with rfl | hn
  · exact sk_w18_0
  exact absurd hn List.not_mem_nil)
/-- RaftTown.sheet -/
def sc_q19 : se_C := ((199, 2), ([(((90, 0, 0), 0, (0, 0, 0), (0, 0, 0)), (0, (0, 0, 0), (0, 0, 0))), (((0, 2, 2), 0, (0, 0, 0), (0, 0, 0)), (0, (0, 1, 0), (0, 0, 0))), (((0, 16, 16), 0, (0, 0, 0), (0, 0, 0)), (0, (0, 2, 0), (0, 0, 0))), (((0, 0, 20), 0, (0, 0, 0), (0, 0, 0)), (0, (0, 3, 0), (0, 0, 0))), (((88, 0, 0), 0, (0, 0, 0), (0, 0, 0)), (1, (1, 0, 0), (0, 0, 3))), (((122, 0, 0), 0, (0, 0, 0), (0, 0, 0)), (1, (1, 4, 0), (1, 1, 0)))], [some (1, 0, 0), some (1, 1, 0), some (1, 2, 0), some (1, 3, 0)], [((1, 0, 0), (0, 0, 3), (1, 4, 0)), ((1, 4, 0), (1, 1, 0), (1, 5, 0))], []), [([], some (1, 3, 0), [((1, 5, 0), (0, 0, 0), (1, 2, 0)), ((1, 5, 0), (0, 0, 1), (1, 3, 0))], [])], [(117, 0, 20), (120, 0, 1), (120, 1, 2)])
abbrev sn_q19 : List se_Nd := []
set_option maxRecDepth 100000 in
theorem sk_q19 : se_chk0 se_tt [sc_r2_16] se_Z 37 se_zt sc_q19 sn_q19 6 = true := by decide +kernel
theorem sm_q19 {ty : Nat → Option Nat} {J : List mm_C → Prop} {kx : Nat} {zs : List mm_Zt} (hO : se_Ok ty J kx zs) (hr2_16 : se_Met ty se_tt J kx zs sc_r2_16) : se_Met ty se_tt J kx zs sc_q19 := se_sound (C := [sc_r2_16]) hO.1 hO.2.1 hO.2.2 (fun n hn => by
  rcases List.mem_cons.mp hn with rfl | hn
  · exact hr2_16
  exact absurd hn List.not_mem_nil) sk_q19 (fun _ hn => absurd hn List.not_mem_nil)
/-- RaftTownModel.sheet -/
def sc_w19 : se_C := ((324, 1), ([(((91, 0, 0), 0, (0, 0, 0), (0, 0, 0)), (0, (0, 0, 0), (0, 0, 0))), (((0, 2, 2), 0, (0, 0, 0), (0, 0, 0)), (0, (0, 1, 0), (0, 0, 0))), (((0, 16, 16), 0, (0, 0, 0), (0, 0, 0)), (0, (0, 2, 0), (0, 0, 0))), (((0, 0, 20), 0, (0, 0, 0), (0, 0, 0)), (0, (0, 3, 0), (0, 0, 0))), (((70, 0, 0), 0, (0, 0, 0), (0, 0, 0)), (1, (1, 0, 0), (0, 0, 22))), (((71, 0, 0), 0, (0, 0, 0), (0, 0, 0)), (1, (1, 0, 0), (0, 0, 23)))], [some (1, 0, 0), some (1, 1, 0), some (1, 2, 0), some (1, 3, 0)], [((1, 0, 0), (0, 0, 22), (1, 4, 0)), ((1, 0, 0), (0, 0, 23), (1, 5, 0))], []), [([], some (1, 3, 0), [((1, 4, 0), (1, 1, 0), (1, 2, 0)), ((1, 5, 0), (1, 1, 0), (1, 3, 0))], [])], [(68, 2, 3), (69, 2, 3), (70, 0, 80)])
def sn_w19_0 : se_Nd := (85, ([(((91, 0, 0), 0, (0, 0, 0), (0, 0, 0)), (3, (0, 0, 0), (0, 0, 0))), (((0, 2, 2), 0, (0, 0, 0), (0, 0, 0)), (3, (0, 1, 0), (0, 0, 0))), (((0, 16, 16), 0, (0, 0, 0), (0, 0, 0)), (3, (0, 2, 0), (0, 0, 0))), (((0, 0, 20), 0, (0, 0, 0), (0, 0, 0)), (3, (0, 3, 0), (0, 0, 0))), (((70, 0, 0), 0, (0, 0, 0), (0, 0, 0)), (3, (0, 4, 0), (0, 0, 0))), (((71, 0, 0), 0, (0, 0, 0), (0, 0, 0)), (3, (0, 5, 0), (0, 0, 0))), (((0, 0, 20), 0, (0, 0, 0), (0, 0, 0)), (0, (0, 4, 0), (0, 0, 0)))], [some (1, 0, 0), some (1, 1, 0), some (1, 2, 0), some (1, 3, 0), some (1, 6, 0)], [((1, 0, 0), (0, 0, 22), (1, 4, 0)), ((1, 0, 0), (0, 0, 23), (1, 5, 0)), ((1, 4, 0), (1, 1, 0), (1, 2, 0)), ((1, 5, 0), (1, 1, 0), (1, 3, 0))], []), [(0, 0, 0), ((-1), 6, 0), (0, 0, 0)])
abbrev sn_w19 : List se_Nd := [sn_w19_0]
set_option maxRecDepth 100000 in
theorem sk_w19 : se_chk0 se_tt [] se_Z 37 se_zt sc_w19 sn_w19 6 = true := by decide +kernel
set_option maxRecDepth 100000 in
theorem sk_w19_0 : se_chkn se_tt [] se_Z 37 se_zt sc_w19 sn_w19 6 sn_w19_0 = true := by decide +kernel
theorem sm_w19 {ty : Nat → Option Nat} {J : List mm_C → Prop} {kx : Nat} {zs : List mm_Zt} (hO : se_Ok ty J kx zs) : se_Met ty se_tt J kx zs sc_w19 := se_sound (C := []) hO.1 hO.2.1 hO.2.2 (fun _ hn => absurd hn List.not_mem_nil) sk_w19 (fun n hn => by
  rcases List.mem_cons.mp hn with rfl | hn
  · exact sk_w19_0
  exact absurd hn List.not_mem_nil)
