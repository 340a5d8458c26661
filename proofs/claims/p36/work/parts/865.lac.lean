/-! ===== printed by wip/p2/gen_law2.py: contracts of the compared method by ranges; all contracts; the law's arms ===== -/
/-- RaftTown$Sheet.rule -/
def sc_r0 : se_C := ((200, 1), ([(((81, 0, 0), 0, (0, 0, 0), (0, 0, 0)), (0, (0, 0, 0), (0, 0, 0))), (((0, 0, 0), 0, (0, 0, 0), (0, 0, 0)), (0, (0, 1, 0), (0, 0, 0))), (((0, 0, 20), 0, (0, 0, 0), (0, 0, 0)), (0, (0, 2, 0), (0, 0, 0)))], [some (1, 0, 0), some (1, 1, 0), some (1, 2, 0)], [], []), [([], some (0, 0, 0), [], [])], [(52, 0, 20), (79, 0, 1), (79, 1, 2)])
def sn_r0_0 : se_Nd := (20, ([(((81, 0, 0), 0, (0, 0, 0), (0, 0, 0)), (3, (0, 0, 0), (0, 0, 0))), (((0, 0, 0), 0, (0, 0, 0), (0, 0, 0)), (3, (0, 1, 0), (0, 0, 0))), (((0, 0, 20), 0, (0, 0, 0), (0, 0, 0)), (3, (0, 2, 0), (0, 0, 0))), (((0, 0, 20), 0, (0, 0, 0), (0, 0, 0)), (0, (0, 3, 0), (0, 0, 0)))], [some (1, 0, 0), some (1, 1, 0), some (1, 2, 0), some (1, 3, 0)], [((1, 0, 0), (0, 0, 1), (0, 0, 0))], []), [(0, 0, 0), ((-1), 3, 0), (0, 0, 0)])
abbrev sn_r0 : List se_Nd := [sn_r0_0]
set_option maxRecDepth 100000 in
theorem sk_r0 : se_chk0 se_tt [] se_Z 37 se_zt sc_r0 sn_r0 4 = true := by decide +kernel
set_option maxRecDepth 100000 in
theorem sk_r0_0 : se_chkn se_tt [] se_Z 37 se_zt sc_r0 sn_r0 4 sn_r0_0 = true := by decide +kernel
theorem sm_r0 {ty : Nat → Option Nat} {J : List mm_C → Prop} {kx : Nat} {zs : List mm_Zt} (hO : se_Ok ty J kx zs) : se_Met ty se_tt J kx zs sc_r0 := se_sound (C := []) hO.1 hO.2.1 hO.2.2 (fun _ hn => absurd hn List.not_mem_nil) sk_r0 (fun n hn => by
  rcases List.mem_cons.mp hn with rfl | hn
  · exact sk_r0_0
  exact absurd hn List.not_mem_nil)
/-- RaftTown$Sheet.rule -/
def sc_r8 : se_C := ((200, 1), ([(((81, 0, 0), 0, (0, 0, 0), (0, 0, 0)), (0, (0, 0, 0), (0, 0, 0))), (((0, 8, 8), 0, (0, 0, 0), (0, 0, 0)), (0, (0, 1, 0), (0, 0, 0))), (((0, 0, 20), 0, (0, 0, 0), (0, 0, 0)), (0, (0, 2, 0), (0, 0, 0)))], [some (1, 0, 0), some (1, 1, 0), some (1, 2, 0)], [], []), [([], some (1, 2, 0), [], [])], [(52, 0, 20), (79, 0, 1), (79, 1, 2)])
def sn_r8_0 : se_Nd := (20, ([(((81, 0, 0), 0, (0, 0, 0), (0, 0, 0)), (3, (0, 0, 0), (0, 0, 0))), (((0, 8, 8), 0, (0, 0, 0), (0, 0, 0)), (3, (0, 1, 0), (0, 0, 0))), (((0, 0, 20), 0, (0, 0, 0), (0, 0, 0)), (3, (0, 2, 0), (0, 0, 0))), (((0, 0, 20), 0, (0, 0, 0), (0, 0, 0)), (0, (0, 3, 0), (0, 0, 0)))], [some (1, 0, 0), some (1, 1, 0), some (1, 2, 0), some (1, 3, 0)], [((1, 0, 0), (0, 0, 1), (1, 2, 0))], []), [(0, 0, 0), ((-1), 3, 0), (0, 0, 0)])
abbrev sn_r8 : List se_Nd := [sn_r8_0]
set_option maxRecDepth 100000 in
theorem sk_r8 : se_chk0 se_tt [] se_Z 37 se_zt sc_r8 sn_r8 4 = true := by decide +kernel
set_option maxRecDepth 100000 in
theorem sk_r8_0 : se_chkn se_tt [] se_Z 37 se_zt sc_r8 sn_r8 4 sn_r8_0 = true := by decide +kernel
theorem sm_r8 {ty : Nat → Option Nat} {J : List mm_C → Prop} {kx : Nat} {zs : List mm_Zt} (hO : se_Ok ty J kx zs) : se_Met ty se_tt J kx zs sc_r8 := se_sound (C := []) hO.1 hO.2.1 hO.2.2 (fun _ hn => absurd hn List.not_mem_nil) sk_r8 (fun n hn => by
  rcases List.mem_cons.mp hn with rfl | hn
  · exact sk_r8_0
  exact absurd hn List.not_mem_nil)
/-- RaftTown$Sheet.rule -/
def sc_r16 : se_C := ((200, 1), ([(((81, 0, 0), 0, (0, 0, 0), (0, 0, 0)), (0, (0, 0, 0), (0, 0, 0))), (((0, 16, 16), 0, (0, 0, 0), (0, 0, 0)), (0, (0, 1, 0), (0, 0, 0))), (((0, 0, 20), 0, (0, 0, 0), (0, 0, 0)), (0, (0, 2, 0), (0, 0, 0)))], [some (1, 0, 0), some (1, 1, 0), some (1, 2, 0)], [], []), [([], some (1, 2, 0), [], [])], [(52, 0, 20), (79, 0, 1), (79, 1, 2)])
def sn_r16_0 : se_Nd := (20, ([(((81, 0, 0), 0, (0, 0, 0), (0, 0, 0)), (3, (0, 0, 0), (0, 0, 0))), (((0, 16, 16), 0, (0, 0, 0), (0, 0, 0)), (3, (0, 1, 0), (0, 0, 0))), (((0, 0, 20), 0, (0, 0, 0), (0, 0, 0)), (3, (0, 2, 0), (0, 0, 0))), (((0, 0, 20), 0, (0, 0, 0), (0, 0, 0)), (0, (0, 3, 0), (0, 0, 0)))], [some (1, 0, 0), some (1, 1, 0), some (1, 2, 0), some (1, 3, 0)], [((1, 0, 0), (0, 0, 1), (1, 2, 0))], []), [(0, 0, 0), ((-1), 3, 0), (0, 0, 0)])
abbrev sn_r16 : List se_Nd := [sn_r16_0]
set_option maxRecDepth 100000 in
theorem sk_r16 : se_chk0 se_tt [] se_Z 37 se_zt sc_r16 sn_r16 4 = true := by decide +kernel
set_option maxRecDepth 100000 in
theorem sk_r16_0 : se_chkn se_tt [] se_Z 37 se_zt sc_r16 sn_r16 4 sn_r16_0 = true := by decide +kernel
theorem sm_r16 {ty : Nat → Option Nat} {J : List mm_C → Prop} {kx : Nat} {zs : List mm_Zt} (hO : se_Ok ty J kx zs) : se_Met ty se_tt J kx zs sc_r16 := se_sound (C := []) hO.1 hO.2.1 hO.2.2 (fun _ hn => absurd hn List.not_mem_nil) sk_r16 (fun n hn => by
  rcases List.mem_cons.mp hn with rfl | hn
  · exact sk_r16_0
  exact absurd hn List.not_mem_nil)
/-- RaftTown$Sheet.rule -/
def sc_r32 : se_C := ((200, 1), ([(((81, 0, 0), 0, (0, 0, 0), (0, 0, 0)), (0, (0, 0, 0), (0, 0, 0))), (((0, 32, 32), 0, (0, 0, 0), (0, 0, 0)), (0, (0, 1, 0), (0, 0, 0))), (((0, 0, 20), 0, (0, 0, 0), (0, 0, 0)), (0, (0, 2, 0), (0, 0, 0)))], [some (1, 0, 0), some (1, 1, 0), some (1, 2, 0)], [], []), [([], some (1, 2, 0), [], [])], [(52, 0, 20), (79, 0, 1), (79, 1, 2)])
def sn_r32_0 : se_Nd := (20, ([(((81, 0, 0), 0, (0, 0, 0), (0, 0, 0)), (3, (0, 0, 0), (0, 0, 0))), (((0, 32, 32), 0, (0, 0, 0), (0, 0, 0)), (3, (0, 1, 0), (0, 0, 0))), (((0, 0, 20), 0, (0, 0, 0), (0, 0, 0)), (3, (0, 2, 0), (0, 0, 0))), (((0, 0, 20), 0, (0, 0, 0), (0, 0, 0)), (0, (0, 3, 0), (0, 0, 0)))], [some (1, 0, 0), some (1, 1, 0), some (1, 2, 0), some (1, 3, 0)], [((1, 0, 0), (0, 0, 1), (1, 2, 0))], []), [(0, 0, 0), ((-1), 3, 0), (0, 0, 0)])
abbrev sn_r32 : List se_Nd := [sn_r32_0]
set_option maxRecDepth 100000 in
theorem sk_r32 : se_chk0 se_tt [] se_Z 37 se_zt sc_r32 sn_r32 4 = true := by decide +kernel
set_option maxRecDepth 100000 in
theorem sk_r32_0 : se_chkn se_tt [] se_Z 37 se_zt sc_r32 sn_r32 4 sn_r32_0 = true := by decide +kernel
theorem sm_r32 {ty : Nat → Option Nat} {J : List mm_C → Prop} {kx : Nat} {zs : List mm_Zt} (hO : se_Ok ty J kx zs) : se_Met ty se_tt J kx zs sc_r32 := se_sound (C := []) hO.1 hO.2.1 hO.2.2 (fun _ hn => absurd hn List.not_mem_nil) sk_r32 (fun n hn => by
  rcases List.mem_cons.mp hn with rfl | hn
  · exact sk_r32_0
  exact absurd hn List.not_mem_nil)
/-- RaftTown.sheet -/
def sc_q0 : se_C := ((199, 1), ([(((90, 0, 0), 0, (0, 0, 0), (0, 0, 0)), (0, (0, 0, 0), (0, 0, 0))), (((0, (-2147483648), (-1)), 0, (0, 0, 0), (0, 0, 0)), (0, (0, 1, 0), (0, 0, 0))), (((0, (-2147483648), 2147483647), 0, (0, 0, 0), (0, 0, 0)), (0, (0, 2, 0), (0, 0, 0))), (((0, (-2147483648), 2147483647), 0, (0, 0, 0), (0, 0, 0)), (0, (0, 3, 0), (0, 0, 0)))], [some (1, 0, 0), some (1, 1, 0), some (1, 2, 0), some (1, 3, 0)], [], []), [([(((0, (-100001), (-100001)), 0, (0, 0, 0), (0, 0, 0)), (0, (0, 0, 0), (0, 0, 0)))], some (1, 4, 0), [], [])], [(88, 7, 8)])
abbrev sn_q0 : List se_Nd := []
set_option maxRecDepth 100000 in
theorem sk_q0 : se_chk0 se_tt [] se_Z 37 se_zt sc_q0 sn_q0 5 = true := by decide +kernel
theorem sm_q0 {ty : Nat → Option Nat} {J : List mm_C → Prop} {kx : Nat} {zs : List mm_Zt} (hO : se_Ok ty J kx zs) : se_Met ty se_tt J kx zs sc_q0 := se_sound (C := []) hO.1 hO.2.1 hO.2.2 (fun _ hn => absurd hn List.not_mem_nil) sk_q0 (fun _ hn => absurd hn List.not_mem_nil)
/-- RaftTownModel.sheet -/
def sc_w0 : se_C := ((324, 1), ([(((91, 0, 0), 0, (0, 0, 0), (0, 0, 0)), (0, (0, 0, 0), (0, 0, 0))), (((0, (-2147483648), (-1)), 0, (0, 0, 0), (0, 0, 0)), (0, (0, 1, 0), (0, 0, 0))), (((0, (-2147483648), 2147483647), 0, (0, 0, 0), (0, 0, 0)), (0, (0, 2, 0), (0, 0, 0))), (((0, (-2147483648), 2147483647), 0, (0, 0, 0), (0, 0, 0)), (0, (0, 3, 0), (0, 0, 0)))], [some (1, 0, 0), some (1, 1, 0), some (1, 2, 0), some (1, 3, 0)], [], []), [([(((0, (-100001), (-100001)), 0, (0, 0, 0), (0, 0, 0)), (0, (0, 0, 0), (0, 0, 0)))], some (1, 4, 0), [], [])], [(89, 3, 4)])
abbrev sn_w0 : List se_Nd := []
set_option maxRecDepth 100000 in
theorem sk_w0 : se_chk0 se_tt [] se_Z 37 se_zt sc_w0 sn_w0 5 = true := by decide +kernel
theorem sm_w0 {ty : Nat → Option Nat} {J : List mm_C → Prop} {kx : Nat} {zs : List mm_Zt} (hO : se_Ok ty J kx zs) : se_Met ty se_tt J kx zs sc_w0 := se_sound (C := []) hO.1 hO.2.1 hO.2.2 (fun _ hn => absurd hn List.not_mem_nil) sk_w0 (fun _ hn => absurd hn List.not_mem_nil)
/-- RaftTown.sheet -/
def sc_q1 : se_C := ((199, 1), ([(((90, 0, 0), 0, (0, 0, 0), (0, 0, 0)), (0, (0, 0, 0), (0, 0, 0))), (((0, 4, 2147483647), 0, (0, 0, 0), (0, 0, 0)), (0, (0, 1, 0), (0, 0, 0))), (((0, (-2147483648), 2147483647), 0, (0, 0, 0), (0, 0, 0)), (0, (0, 2, 0), (0, 0, 0))), (((0, (-2147483648), 2147483647), 0, (0, 0, 0), (0, 0, 0)), (0, (0, 3, 0), (0, 0, 0)))], [some (1, 0, 0), some (1, 1, 0), some (1, 2, 0), some (1, 3, 0)], [], []), [([(((0, (-100001), (-100001)), 0, (0, 0, 0), (0, 0, 0)), (0, (0, 0, 0), (0, 0, 0)))], some (1, 4, 0), [], [])], [(88, 7, 8)])
abbrev sn_q1 : List se_Nd := []
set_option maxRecDepth 100000 in
theorem sk_q1 : se_chk0 se_tt [] se_Z 37 se_zt sc_q1 sn_q1 5 = true := by decide +kernel
theorem sm_q1 {ty : Nat → Option Nat} {J : List mm_C → Prop} {kx : Nat} {zs : List mm_Zt} (hO : se_Ok ty J kx zs) : se_Met ty se_tt J kx zs sc_q1 := se_sound (C := []) hO.1 hO.2.1 hO.2.2 (fun _ hn => absurd hn List.not_mem_nil) sk_q1 (fun _ hn => absurd hn List.not_mem_nil)
/-- RaftTownModel.sheet -/
def sc_w1 : se_C := ((324, 1), ([(((91, 0, 0), 0, (0, 0, 0), (0, 0, 0)), (0, (0, 0, 0), (0, 0, 0))), (((0, 4, 2147483647), 0, (0, 0, 0), (0, 0, 0)), (0, (0, 1, 0), (0, 0, 0))), (((0, (-2147483648), 2147483647), 0, (0, 0, 0), (0, 0, 0)), (0, (0, 2, 0), (0, 0, 0))), (((0, (-2147483648), 2147483647), 0, (0, 0, 0), (0, 0, 0)), (0, (0, 3, 0), (0, 0, 0)))], [some (1, 0, 0), some (1, 1, 0), some (1, 2, 0), some (1, 3, 0)], [], []), [([(((0, (-100001), (-100001)), 0, (0, 0, 0), (0, 0, 0)), (0, (0, 0, 0), (0, 0, 0)))], some (1, 4, 0), [], [])], [(89, 3, 4)])
abbrev sn_w1 : List se_Nd := []
set_option maxRecDepth 100000 in
theorem sk_w1 : se_chk0 se_tt [] se_Z 37 se_zt sc_w1 sn_w1 5 = true := by decide +kernel
theorem sm_w1 {ty : Nat → Option Nat} {J : List mm_C → Prop} {kx : Nat} {zs : List mm_Zt} (hO : se_Ok ty J kx zs) : se_Met ty se_tt J kx zs sc_w1 := se_sound (C := []) hO.1 hO.2.1 hO.2.2 (fun _ hn => absurd hn List.not_mem_nil) sk_w1 (fun _ hn => absurd hn List.not_mem_nil)
/-- RaftTown.sheet -/
def sc_q2 : se_C := ((199, 1), ([(((90, 0, 0), 0, (0, 0, 0), (0, 0, 0)), (0, (0, 0, 0), (0, 0, 0))), (((0, 0, 3), 0, (0, 0, 0), (0, 0, 0)), (0, (0, 1, 0), (0, 0, 0))), (((0, (-2147483648), (-1)), 0, (0, 0, 0), (0, 0, 0)), (0, (0, 2, 0), (0, 0, 0))), (((0, (-2147483648), 2147483647), 0, (0, 0, 0), (0, 0, 0)), (0, (0, 3, 0), (0, 0, 0)))], [some (1, 0, 0), some (1, 1, 0), some (1, 2, 0), some (1, 3, 0)], [], []), [([(((0, (-100001), (-100001)), 0, (0, 0, 0), (0, 0, 0)), (0, (0, 0, 0), (0, 0, 0)))], some (1, 4, 0), [], [])], [(88, 7, 8)])
abbrev sn_q2 : List se_Nd := []
set_option maxRecDepth 100000 in
theorem sk_q2 : se_chk0 se_tt [] se_Z 37 se_zt sc_q2 sn_q2 6 = true := by decide +kernel
theorem sm_q2 {ty : Nat → Option Nat} {J : List mm_C → Prop} {kx : Nat} {zs : List mm_Zt} (hO : se_Ok ty J kx zs) : se_Met ty se_tt J kx zs sc_q2 := se_sound (C := []) hO.1 hO.2.1 hO.2.2 (fun _ hn => absurd hn List.not_mem_nil) sk_q2 (fun _ hn => absurd hn List.not_mem_nil)
/-- RaftTownModel.sheet -/
def sc_w2 : se_C := ((324, 1), ([(((91, 0, 0), 0, (0, 0, 0), (0, 0, 0)), (0, (0, 0, 0), (0, 0, 0))), (((0, 0, 3), 0, (0, 0, 0), (0, 0, 0)), (0, (0, 1, 0), (0, 0, 0))), (((0, (-2147483648), (-1)), 0, (0, 0, 0), (0, 0, 0)), (0, (0, 2, 0), (0, 0, 0))), (((0, (-2147483648), 2147483647), 0, (0, 0, 0), (0, 0, 0)), (0, (0, 3, 0), (0, 0, 0)))], [some (1, 0, 0), some (1, 1, 0), some (1, 2, 0), some (1, 3, 0)], [], []), [([(((0, (-100001), (-100001)), 0, (0, 0, 0), (0, 0, 0)), (0, (0, 0, 0), (0, 0, 0)))], some (1, 4, 0), [], [])], [(89, 3, 4)])
abbrev sn_w2 : List se_Nd := []
set_option maxRecDepth 100000 in
theorem sk_w2 : se_chk0 se_tt [] se_Z 37 se_zt sc_w2 sn_w2 6 = true := by decide +kernel
theorem sm_w2 {ty : Nat → Option Nat} {J : List mm_C → Prop} {kx : Nat} {zs : List mm_Zt} (hO : se_Ok ty J kx zs) : se_Met ty se_tt J kx zs sc_w2 := se_sound (C := []) hO.1 hO.2.1 hO.2.2 (fun _ hn => absurd hn List.not_mem_nil) sk_w2 (fun _ hn => absurd hn List.not_mem_nil)
/-- RaftTown.sheet -/
def sc_q3 : se_C := ((199, 1), ([(((90, 0, 0), 0, (0, 0, 0), (0, 0, 0)), (0, (0, 0, 0), (0, 0, 0))), (((0, 0, 3), 0, (0, 0, 0), (0, 0, 0)), (0, (0, 1, 0), (0, 0, 0))), (((0, 1, 7), 0, (0, 0, 0), (0, 0, 0)), (0, (0, 2, 0), (0, 0, 0))), (((0, (-2147483648), 2147483647), 0, (0, 0, 0), (0, 0, 0)), (0, (0, 3, 0), (0, 0, 0)))], [some (1, 0, 0), some (1, 1, 0), some (1, 2, 0), some (1, 3, 0)], [], []), [([(((0, (-100001), (-100001)), 0, (0, 0, 0), (0, 0, 0)), (0, (0, 0, 0), (0, 0, 0)))], some (1, 4, 0), [], [])], [(88, 7, 8)])
abbrev sn_q3 : List se_Nd := []
set_option maxRecDepth 100000 in
theorem sk_q3 : se_chk0 se_tt [] se_Z 37 se_zt sc_q3 sn_q3 6 = true := by decide +kernel
theorem sm_q3 {ty : Nat → Option Nat} {J : List mm_C → Prop} {kx : Nat} {zs : List mm_Zt} (hO : se_Ok ty J kx zs) : se_Met ty se_tt J kx zs sc_q3 := se_sound (C := []) hO.1 hO.2.1 hO.2.2 (fun _ hn => absurd hn List.not_mem_nil) sk_q3 (fun _ hn => absurd hn List.not_mem_nil)
/-- RaftTownModel.sheet -/
def sc_w3 : se_C := ((324, 1), ([(((91, 0, 0), 0, (0, 0, 0), (0, 0, 0)), (0, (0, 0, 0), (0, 0, 0))), (((0, 0, 3), 0, (0, 0, 0), (0, 0, 0)), (0, (0, 1, 0), (0, 0, 0))), (((0, 1, 7), 0, (0, 0, 0), (0, 0, 0)), (0, (0, 2, 0), (0, 0, 0))), (((0, (-2147483648), 2147483647), 0, (0, 0, 0), (0, 0, 0)), (0, (0, 3, 0), (0, 0, 0)))], [some (1, 0, 0), some (1, 1, 0), some (1, 2, 0), some (1, 3, 0)], [], []), [([(((0, (-100001), (-100001)), 0, (0, 0, 0), (0, 0, 0)), (0, (0, 0, 0), (0, 0, 0)))], some (1, 4, 0), [], [])], [(89, 3, 4)])
abbrev sn_w3 : List se_Nd := []
set_option maxRecDepth 100000 in
theorem sk_w3 : se_chk0 se_tt [] se_Z 37 se_zt sc_w3 sn_w3 6 = true := by decide +kernel
theorem sm_w3 {ty : Nat → Option Nat} {J : List mm_C → Prop} {kx : Nat} {zs : List mm_Zt} (hO : se_Ok ty J kx zs) : se_Met ty se_tt J kx zs sc_w3 := se_sound (C := []) hO.1 hO.2.1 hO.2.2 (fun _ hn => absurd hn List.not_mem_nil) sk_w3 (fun _ hn => absurd hn List.not_mem_nil)
/-- RaftTown.sheet -/
def sc_q4 : se_C := ((199, 1), ([(((90, 0, 0), 0, (0, 0, 0), (0, 0, 0)), (0, (0, 0, 0), (0, 0, 0))), (((0, 0, 3), 0, (0, 0, 0), (0, 0, 0)), (0, (0, 1, 0), (0, 0, 0))), (((0, 9, 15), 0, (0, 0, 0), (0, 0, 0)), (0, (0, 2, 0), (0, 0, 0))), (((0, (-2147483648), 2147483647), 0, (0, 0, 0), (0, 0, 0)), (0, (0, 3, 0), (0, 0, 0)))], [some (1, 0, 0), some (1, 1, 0), some (1, 2, 0), some (1, 3, 0)], [], []), [([(((0, (-100001), (-100001)), 0, (0, 0, 0), (0, 0, 0)), (0, (0, 0, 0), (0, 0, 0)))], some (1, 4, 0), [], [])], [(88, 7, 8)])
abbrev sn_q4 : List se_Nd := []
set_option maxRecDepth 100000 in
theorem sk_q4 : se_chk0 se_tt [] se_Z 37 se_zt sc_q4 sn_q4 6 = true := by decide +kernel
theorem sm_q4 {ty : Nat → Option Nat} {J : List mm_C → Prop} {kx : Nat} {zs : List mm_Zt} (hO : se_Ok ty J kx zs) : se_Met ty se_tt J kx zs sc_q4 := se_sound (C := []) hO.1 hO.2.1 hO.2.2 (fun _ hn => absurd hn List.not_mem_nil) sk_q4 (fun _ hn => absurd hn List.not_mem_nil)
/-- RaftTownModel.sheet -/
def sc_w4 : se_C := ((324, 1), ([(((91, 0, 0), 0, (0, 0, 0), (0, 0, 0)), (0, (0, 0, 0), (0, 0, 0))), (((0, 0, 3), 0, (0, 0, 0), (0, 0, 0)), (0, (0, 1, 0), (0, 0, 0))), (((0, 9, 15), 0, (0, 0, 0), (0, 0, 0)), (0, (0, 2, 0), (0, 0, 0))), (((0, (-2147483648), 2147483647), 0, (0, 0, 0), (0, 0, 0)), (0, (0, 3, 0), (0, 0, 0)))], [some (1, 0, 0), some (1, 1, 0), some (1, 2, 0), some (1, 3, 0)], [], []), [([(((0, (-100001), (-100001)), 0, (0, 0, 0), (0, 0, 0)), (0, (0, 0, 0), (0, 0, 0)))], some (1, 4, 0), [], [])], [(89, 3, 4)])
abbrev sn_w4 : List se_Nd := []
set_option maxRecDepth 100000 in
theorem sk_w4 : se_chk0 se_tt [] se_Z 37 se_zt sc_w4 sn_w4 6 = true := by decide +kernel
theorem sm_w4 {ty : Nat → Option Nat} {J : List mm_C → Prop} {kx : Nat} {zs : List mm_Zt} (hO : se_Ok ty J kx zs) : se_Met ty se_tt J kx zs sc_w4 := se_sound (C := []) hO.1 hO.2.1 hO.2.2 (fun _ hn => absurd hn List.not_mem_nil) sk_w4 (fun _ hn => absurd hn List.not_mem_nil)
/-- RaftTown.sheet -/
def sc_q5 : se_C := ((199, 1), ([(((90, 0, 0), 0, (0, 0, 0), (0, 0, 0)), (0, (0, 0, 0), (0, 0, 0))), (((0, 0, 3), 0, (0, 0, 0), (0, 0, 0)), (0, (0, 1, 0), (0, 0, 0))), (((0, 17, 31), 0, (0, 0, 0), (0, 0, 0)), (0, (0, 2, 0), (0, 0, 0))), (((0, (-2147483648), 2147483647), 0, (0, 0, 0), (0, 0, 0)), (0, (0, 3, 0), (0, 0, 0)))], [some (1, 0, 0), some (1, 1, 0), some (1, 2, 0), some (1, 3, 0)], [], []), [([(((0, (-100001), (-100001)), 0, (0, 0, 0), (0, 0, 0)), (0, (0, 0, 0), (0, 0, 0)))], some (1, 4, 0), [], [])], [(88, 7, 8)])
abbrev sn_q5 : List se_Nd := []
set_option maxRecDepth 100000 in
theorem sk_q5 : se_chk0 se_tt [] se_Z 37 se_zt sc_q5 sn_q5 6 = true := by decide +kernel
theorem sm_q5 {ty : Nat → Option Nat} {J : List mm_C → Prop} {kx : Nat} {zs : List mm_Zt} (hO : se_Ok ty J kx zs) : se_Met ty se_tt J kx zs sc_q5 := se_sound (C := []) hO.1 hO.2.1 hO.2.2 (fun _ hn => absurd hn List.not_mem_nil) sk_q5 (fun _ hn => absurd hn List.not_mem_nil)
/-- RaftTownModel.sheet -/
def sc_w5 : se_C := ((324, 1), ([(((91, 0, 0), 0, (0, 0, 0), (0, 0, 0)), (0, (0, 0, 0), (0, 0, 0))), (((0, 0, 3), 0, (0, 0, 0), (0, 0, 0)), (0, (0, 1, 0), (0, 0, 0))), (((0, 17, 31), 0, (0, 0, 0), (0, 0, 0)), (0, (0, 2, 0), (0, 0, 0))), (((0, (-2147483648), 2147483647), 0, (0, 0, 0), (0, 0, 0)), (0, (0, 3, 0), (0, 0, 0)))], [some (1, 0, 0), some (1, 1, 0), some (1, 2, 0), some (1, 3, 0)], [], []), [([(((0, (-100001), (-100001)), 0, (0, 0, 0), (0, 0, 0)), (0, (0, 0, 0), (0, 0, 0)))], some (1, 4, 0), [], [])], [(89, 3, 4)])
abbrev sn_w5 : List se_Nd := []
set_option maxRecDepth 100000 in
theorem sk_w5 : se_chk0 se_tt [] se_Z 37 se_zt sc_w5 sn_w5 6 = true := by decide +kernel
theorem sm_w5 {ty : Nat → Option Nat} {J : List mm_C → Prop} {kx : Nat} {zs : List mm_Zt} (hO : se_Ok ty J kx zs) : se_Met ty se_tt J kx zs sc_w5 := se_sound (C := []) hO.1 hO.2.1 hO.2.2 (fun _ hn => absurd hn List.not_mem_nil) sk_w5 (fun _ hn => absurd hn List.not_mem_nil)
/-- RaftTown.sheet -/
def sc_q6 : se_C := ((199, 1), ([(((90, 0, 0), 0, (0, 0, 0), (0, 0, 0)), (0, (0, 0, 0), (0, 0, 0))), (((0, 0, 3), 0, (0, 0, 0), (0, 0, 0)), (0, (0, 1, 0), (0, 0, 0))), (((0, 33, 2147483647), 0, (0, 0, 0), (0, 0, 0)), (0, (0, 2, 0), (0, 0, 0))), (((0, (-2147483648), 2147483647), 0, (0, 0, 0), (0, 0, 0)), (0, (0, 3, 0), (0, 0, 0)))], [some (1, 0, 0), some (1, 1, 0), some (1, 2, 0), some (1, 3, 0)], [], []), [([(((0, (-100001), (-100001)), 0, (0, 0, 0), (0, 0, 0)), (0, (0, 0, 0), (0, 0, 0)))], some (1, 4, 0), [], [])], [(88, 7, 8)])
abbrev sn_q6 : List se_Nd := []
set_option maxRecDepth 100000 in
theorem sk_q6 : se_chk0 se_tt [] se_Z 37 se_zt sc_q6 sn_q6 6 = true := by decide +kernel
theorem sm_q6 {ty : Nat → Option Nat} {J : List mm_C → Prop} {kx : Nat} {zs : List mm_Zt} (hO : se_Ok ty J kx zs) : se_Met ty se_tt J kx zs sc_q6 := se_sound (C := []) hO.1 hO.2.1 hO.2.2 (fun _ hn => absurd hn List.not_mem_nil) sk_q6 (fun _ hn => absurd hn List.not_mem_nil)
/-- RaftTownModel.sheet -/
def sc_w6 : se_C := ((324, 1), ([(((91, 0, 0), 0, (0, 0, 0), (0, 0, 0)), (0, (0, 0, 0), (0, 0, 0))), (((0, 0, 3), 0, (0, 0, 0), (0, 0, 0)), (0, (0, 1, 0), (0, 0, 0))), (((0, 33, 2147483647), 0, (0, 0, 0), (0, 0, 0)), (0, (0, 2, 0), (0, 0, 0))), (((0, (-2147483648), 2147483647), 0, (0, 0, 0), (0, 0, 0)), (0, (0, 3, 0), (0, 0, 0)))], [some (1, 0, 0), some (1, 1, 0), some (1, 2, 0), some (1, 3, 0)], [], []), [([(((0, (-100001), (-100001)), 0, (0, 0, 0), (0, 0, 0)), (0, (0, 0, 0), (0, 0, 0)))], some (1, 4, 0), [], [])], [(89, 3, 4)])
abbrev sn_w6 : List se_Nd := []
set_option maxRecDepth 100000 in
theorem sk_w6 : se_chk0 se_tt [] se_Z 37 se_zt sc_w6 sn_w6 6 = true := by decide +kernel
theorem sm_w6 {ty : Nat → Option Nat} {J : List mm_C → Prop} {kx : Nat} {zs : List mm_Zt} (hO : se_Ok ty J kx zs) : se_Met ty se_tt J kx zs sc_w6 := se_sound (C := []) hO.1 hO.2.1 hO.2.2 (fun _ hn => absurd hn List.not_mem_nil) sk_w6 (fun _ hn => absurd hn List.not_mem_nil)
/-- RaftTown.sheet -/
def sc_q7 : se_C := ((199, 1), ([(((90, 0, 0), 0, (0, 0, 0), (0, 0, 0)), (0, (0, 0, 0), (0, 0, 0))), (((0, 0, 3), 0, (0, 0, 0), (0, 0, 0)), (0, (0, 1, 0), (0, 0, 0))), (((0, 0, 0), 0, (0, 0, 0), (0, 0, 0)), (0, (0, 2, 0), (0, 0, 0))), (((0, (-2147483648), (-1)), 0, (0, 0, 0), (0, 0, 0)), (0, (0, 3, 0), (0, 0, 0)))], [some (1, 0, 0), some (1, 1, 0), some (1, 2, 0), some (1, 3, 0)], [], []), [([(((0, (-100003), (-100003)), 0, (0, 0, 0), (0, 0, 0)), (0, (0, 0, 0), (0, 0, 0)))], some (1, 4, 0), [], [])], [(88, 7, 8)])
abbrev sn_q7 : List se_Nd := []
set_option maxRecDepth 100000 in
theorem sk_q7 : se_chk0 se_tt [] se_Z 37 se_zt sc_q7 sn_q7 6 = true := by decide +kernel
theorem sm_q7 {ty : Nat → Option Nat} {J : List mm_C → Prop} {kx : Nat} {zs : List mm_Zt} (hO : se_Ok ty J kx zs) : se_Met ty se_tt J kx zs sc_q7 := se_sound (C := []) hO.1 hO.2.1 hO.2.2 (fun _ hn => absurd hn List.not_mem_nil) sk_q7 (fun _ hn => absurd hn List.not_mem_nil)
/-- RaftTownModel.sheet -/
def sc_w7 : se_C := ((324, 1), ([(((91, 0, 0), 0, (0, 0, 0), (0, 0, 0)), (0, (0, 0, 0), (0, 0, 0))), (((0, 0, 3), 0, (0, 0, 0), (0, 0, 0)), (0, (0, 1, 0), (0, 0, 0))), (((0, 0, 0), 0, (0, 0, 0), (0, 0, 0)), (0, (0, 2, 0), (0, 0, 0))), (((0, (-2147483648), (-1)), 0, (0, 0, 0), (0, 0, 0)), (0, (0, 3, 0), (0, 0, 0)))], [some (1, 0, 0), some (1, 1, 0), some (1, 2, 0), some (1, 3, 0)], [], []), [([(((0, (-100003), (-100003)), 0, (0, 0, 0), (0, 0, 0)), (0, (0, 0, 0), (0, 0, 0)))], some (1, 4, 0), [], [])], [(89, 3, 4)])
abbrev sn_w7 : List se_Nd := []
set_option maxRecDepth 100000 in
theorem sk_w7 : se_chk0 se_tt [] se_Z 37 se_zt sc_w7 sn_w7 6 = true := by decide +kernel
theorem sm_w7 {ty : Nat → Option Nat} {J : List mm_C → Prop} {kx : Nat} {zs : List mm_Zt} (hO : se_Ok ty J kx zs) : se_Met ty se_tt J kx zs sc_w7 := se_sound (C := []) hO.1 hO.2.1 hO.2.2 (fun _ hn => absurd hn List.not_mem_nil) sk_w7 (fun _ hn => absurd hn List.not_mem_nil)
/-- RaftTown.sheet -/
def sc_q8 : se_C := ((199, 1), ([(((90, 0, 0), 0, (0, 0, 0), (0, 0, 0)), (0, (0, 0, 0), (0, 0, 0))), (((0, 0, 3), 0, (0, 0, 0), (0, 0, 0)), (0, (0, 1, 0), (0, 0, 0))), (((0, 0, 0), 0, (0, 0, 0), (0, 0, 0)), (0, (0, 2, 0), (0, 0, 0))), (((0, 21, 2147483647), 0, (0, 0, 0), (0, 0, 0)), (0, (0, 3, 0), (0, 0, 0)))], [some (1, 0, 0), some (1, 1, 0), some (1, 2, 0), some (1, 3, 0)], [], []), [([(((0, (-100001), (-100001)), 0, (0, 0, 0), (0, 0, 0)), (0, (0, 0, 0), (0, 0, 0)))], some (1, 4, 0), [], [])], [(88, 7, 8)])
abbrev sn_q8 : List se_Nd := []
set_option maxRecDepth 100000 in
theorem sk_q8 : se_chk0 se_tt [] se_Z 37 se_zt sc_q8 sn_q8 6 = true := by decide +kernel
theorem sm_q8 {ty : Nat → Option Nat} {J : List mm_C → Prop} {kx : Nat} {zs : List mm_Zt} (hO : se_Ok ty J kx zs) : se_Met ty se_tt J kx zs sc_q8 := se_sound (C := []) hO.1 hO.2.1 hO.2.2 (fun _ hn => absurd hn List.not_mem_nil) sk_q8 (fun _ hn => absurd hn List.not_mem_nil)
/-- RaftTownModel.sheet -/
def sc_w8 : se_C := ((324, 1), ([(((91, 0, 0), 0, (0, 0, 0), (0, 0, 0)), (0, (0, 0, 0), (0, 0, 0))), (((0, 0, 3), 0, (0, 0, 0), (0, 0, 0)), (0, (0, 1, 0), (0, 0, 0))), (((0, 0, 0), 0, (0, 0, 0), (0, 0, 0)), (0, (0, 2, 0), (0, 0, 0))), (((0, 21, 2147483647), 0, (0, 0, 0), (0, 0, 0)), (0, (0, 3, 0), (0, 0, 0)))], [some (1, 0, 0), some (1, 1, 0), some (1, 2, 0), some (1, 3, 0)], [], []), [([(((0, (-100001), (-100001)), 0, (0, 0, 0), (0, 0, 0)), (0, (0, 0, 0), (0, 0, 0)))], some (1, 4, 0), [], [])], [(89, 3, 4)])
abbrev sn_w8 : List se_Nd := []
set_option maxRecDepth 100000 in
theorem sk_w8 : se_chk0 se_tt [] se_Z 37 se_zt sc_w8 sn_w8 6 = true := by decide +kernel
theorem sm_w8 {ty : Nat → Option Nat} {J : List mm_C → Prop} {kx : Nat} {zs : List mm_Zt} (hO : se_Ok ty J kx zs) : se_Met ty se_tt J kx zs sc_w8 := se_sound (C := []) hO.1 hO.2.1 hO.2.2 (fun _ hn => absurd hn List.not_mem_nil) sk_w8 (fun _ hn => absurd hn List.not_mem_nil)
/-- RaftTown.sheet -/
def sc_q9 : se_C := ((199, 2), ([(((90, 0, 0), 0, (0, 0, 0), (0, 0, 0)), (0, (0, 0, 0), (0, 0, 0))), (((0, 0, 3), 0, (0, 0, 0), (0, 0, 0)), (0, (0, 1, 0), (0, 0, 0))), (((0, 0, 0), 0, (0, 0, 0), (0, 0, 0)), (0, (0, 2, 0), (0, 0, 0))), (((0, 0, 20), 0, (0, 0, 0), (0, 0, 0)), (0, (0, 3, 0), (0, 0, 0)))], [some (1, 0, 0), some (1, 1, 0), some (1, 2, 0), some (1, 3, 0)], [], []), [([], some (0, 0, 0), [], [])], [(52, 0, 20), (79, 0, 1), (79, 1, 2)])
abbrev sn_q9 : List se_Nd := []
set_option maxRecDepth 100000 in
theorem sk_q9 : se_chk0 se_tt [sc_r0] se_Z 37 se_zt sc_q9 sn_q9 5 = true := by decide +kernel
theorem sm_q9 {ty : Nat → Option Nat} {J : List mm_C → Prop} {kx : Nat} {zs : List mm_Zt} (hO : se_Ok ty J kx zs) (hr0 : se_Met ty se_tt J kx zs sc_r0) : se_Met ty se_tt J kx zs sc_q9 := se_sound (C := [sc_r0]) hO.1 hO.2.1 hO.2.2 (fun n hn => by
  rcases List.mem_cons.mp hn with rfl | hn
  · exact hr0
  exact absurd hn List.not_mem_nil) sk_q9 (fun _ hn => absurd hn List.not_mem_nil)
/-- RaftTownModel.sheet -/
def sc_w9 : se_C := ((324, 1), ([(((91, 0, 0), 0, (0, 0, 0), (0, 0, 0)), (0, (0, 0, 0), (0, 0, 0))), (((0, 0, 3), 0, (0, 0, 0), (0, 0, 0)), (0, (0, 1, 0), (0, 0, 0))), (((0, 0, 0), 0, (0, 0, 0), (0, 0, 0)), (0, (0, 2, 0), (0, 0, 0))), (((0, 0, 20), 0, (0, 0, 0), (0, 0, 0)), (0, (0, 3, 0), (0, 0, 0)))], [some (1, 0, 0), some (1, 1, 0), some (1, 2, 0), some (1, 3, 0)], [], []), [([], some (0, 0, 0), [], [])], [(68, 0, 4), (69, 0, 4), (70, 0, 80)])
def sn_w9_0 : se_Nd := (85, ([(((91, 0, 0), 0, (0, 0, 0), (0, 0, 0)), (3, (0, 0, 0), (0, 0, 0))), (((0, 0, 3), 0, (0, 0, 0), (0, 0, 0)), (3, (0, 1, 0), (0, 0, 0))), (((0, 0, 0), 0, (0, 0, 0), (0, 0, 0)), (3, (0, 2, 0), (0, 0, 0))), (((0, 0, 20), 0, (0, 0, 0), (0, 0, 0)), (3, (0, 3, 0), (0, 0, 0))), (((0, 0, 20), 0, (0, 0, 0), (0, 0, 0)), (0, (0, 4, 0), (0, 0, 0))), (((71, 0, 0), 0, (0, 0, 0), (0, 0, 0)), (1, (1, 0, 0), (0, 0, 23)))], [some (1, 0, 0), some (1, 1, 0), some (1, 2, 0), some (1, 3, 0), some (1, 4, 0)], [((1, 0, 0), (0, 0, 23), (1, 5, 0)), ((1, 5, 0), (1, 1, 0), (0, 0, 0))], []), [(0, 0, 0), ((-1), 4, 0), (0, 0, 0)])
abbrev sn_w9 : List se_Nd := [sn_w9_0]
set_option maxRecDepth 100000 in
theorem sk_w9 : se_chk0 se_tt [] se_Z 37 se_zt sc_w9 sn_w9 6 = true := by decide +kernel
set_option maxRecDepth 100000 in
theorem sk_w9_0 : se_chkn se_tt [] se_Z 37 se_zt sc_w9 sn_w9 6 sn_w9_0 = true := by decide +kernel
theorem sm_w9 {ty : Nat → Option Nat} {J : List mm_C → Prop} {kx : Nat} {zs : List mm_Zt} (hO : se_Ok ty J kx zs) : se_Met ty se_tt J kx zs sc_w9 := se_sound (C := []) hO.1 hO.2.1 hO.2.2 (fun _ hn => absurd hn List.not_mem_nil) sk_w9 (fun n hn => by
  rcases List.mem_cons.mp hn with rfl | hn
  · exact sk_w9_0
  exact absurd hn List.not_mem_nil)
/-- RaftTown.sheet -/
def sc_q10 : se_C := ((199, 1), ([(((90, 0, 0), 0, (0, 0, 0), (0, 0, 0)), (0, (0, 0, 0), (0, 0, 0))), (((0, 0, 3), 0, (0, 0, 0), (0, 0, 0)), (0, (0, 1, 0), (0, 0, 0))), (((0, 8, 8), 0, (0, 0, 0), (0, 0, 0)), (0, (0, 2, 0), (0, 0, 0))), (((0, (-2147483648), (-1)), 0, (0, 0, 0), (0, 0, 0)), (0, (0, 3, 0), (0, 0, 0)))], [some (1, 0, 0), some (1, 1, 0), some (1, 2, 0), some (1, 3, 0)], [], []), [([(((0, (-100003), (-100003)), 0, (0, 0, 0), (0, 0, 0)), (0, (0, 0, 0), (0, 0, 0)))], some (1, 4, 0), [], [])], [(88, 7, 8)])
abbrev sn_q10 : List se_Nd := []
set_option maxRecDepth 100000 in
theorem sk_q10 : se_chk0 se_tt [] se_Z 37 se_zt sc_q10 sn_q10 6 = true := by decide +kernel
theorem sm_q10 {ty : Nat → Option Nat} {J : List mm_C → Prop} {kx : Nat} {zs : List mm_Zt} (hO : se_Ok ty J kx zs) : se_Met ty se_tt J kx zs sc_q10 := se_sound (C := []) hO.1 hO.2.1 hO.2.2 (fun _ hn => absurd hn List.not_mem_nil) sk_q10 (fun _ hn => absurd hn List.not_mem_nil)
/-- RaftTownModel.sheet -/
def sc_w10 : se_C := ((324, 1), ([(((91, 0, 0), 0, (0, 0, 0), (0, 0, 0)), (0, (0, 0, 0), (0, 0, 0))), (((0, 0, 3), 0, (0, 0, 0), (0, 0, 0)), (0, (0, 1, 0), (0, 0, 0))), (((0, 8, 8), 0, (0, 0, 0), (0, 0, 0)), (0, (0, 2, 0), (0, 0, 0))), (((0, (-2147483648), (-1)), 0, (0, 0, 0), (0, 0, 0)), (0, (0, 3, 0), (0, 0, 0)))], [some (1, 0, 0), some (1, 1, 0), some (1, 2, 0), some (1, 3, 0)], [], []), [([(((0, (-100003), (-100003)), 0, (0, 0, 0), (0, 0, 0)), (0, (0, 0, 0), (0, 0, 0)))], some (1, 4, 0), [], [])], [(89, 3, 4)])
abbrev sn_w10 : List se_Nd := []
set_option maxRecDepth 100000 in
theorem sk_w10 : se_chk0 se_tt [] se_Z 37 se_zt sc_w10 sn_w10 6 = true := by decide +kernel
theorem sm_w10 {ty : Nat → Option Nat} {J : List mm_C → Prop} {kx : Nat} {zs : List mm_Zt} (hO : se_Ok ty J kx zs) : se_Met ty se_tt J kx zs sc_w10 := se_sound (C := []) hO.1 hO.2.1 hO.2.2 (fun _ hn => absurd hn List.not_mem_nil) sk_w10 (fun _ hn => absurd hn List.not_mem_nil)
/-- RaftTown.sheet -/
def sc_q11 : se_C := ((199, 1), ([(((90, 0, 0), 0, (0, 0, 0), (0, 0, 0)), (0, (0, 0, 0), (0, 0, 0))), (((0, 0, 3), 0, (0, 0, 0), (0, 0, 0)), (0, (0, 1, 0), (0, 0, 0))), (((0, 8, 8), 0, (0, 0, 0), (0, 0, 0)), (0, (0, 2, 0), (0, 0, 0))), (((0, 21, 2147483647), 0, (0, 0, 0), (0, 0, 0)), (0, (0, 3, 0), (0, 0, 0)))], [some (1, 0, 0), some (1, 1, 0), some (1, 2, 0), some (1, 3, 0)], [], []), [([(((0, (-100001), (-100001)), 0, (0, 0, 0), (0, 0, 0)), (0, (0, 0, 0), (0, 0, 0)))], some (1, 4, 0), [], [])], [(88, 7, 8)])
abbrev sn_q11 : List se_Nd := []
set_option maxRecDepth 100000 in
theorem sk_q11 : se_chk0 se_tt [] se_Z 37 se_zt sc_q11 sn_q11 6 = true := by decide +kernel
theorem sm_q11 {ty : Nat → Option Nat} {J : List mm_C → Prop} {kx : Nat} {zs : List mm_Zt} (hO : se_Ok ty J kx zs) : se_Met ty se_tt J kx zs sc_q11 := se_sound (C := []) hO.1 hO.2.1 hO.2.2 (fun _ hn => absurd hn List.not_mem_nil) sk_q11 (fun _ hn => absurd hn List.not_mem_nil)
/-- RaftTownModel.sheet -/
def sc_w11 : se_C := ((324, 1), ([(((91, 0, 0), 0, (0, 0, 0), (0, 0, 0)), (0, (0, 0, 0), (0, 0, 0))), (((0, 0, 3), 0, (0, 0, 0), (0, 0, 0)), (0, (0, 1, 0), (0, 0, 0))), (((0, 8, 8), 0, (0, 0, 0), (0, 0, 0)), (0, (0, 2, 0), (0, 0, 0))), (((0, 21, 2147483647), 0, (0, 0, 0), (0, 0, 0)), (0, (0, 3, 0), (0, 0, 0)))], [some (1, 0, 0), some (1, 1, 0), some (1, 2, 0), some (1, 3, 0)], [], []), [([(((0, (-100001), (-100001)), 0, (0, 0, 0), (0, 0, 0)), (0, (0, 0, 0), (0, 0, 0)))], some (1, 4, 0), [], [])], [(89, 3, 4)])
abbrev sn_w11 : List se_Nd := []
set_option maxRecDepth 100000 in
theorem sk_w11 : se_chk0 se_tt [] se_Z 37 se_zt sc_w11 sn_w11 6 = true := by decide +kernel
theorem sm_w11 {ty : Nat → Option Nat} {J : List mm_C → Prop} {kx : Nat} {zs : List mm_Zt} (hO : se_Ok ty J kx zs) : se_Met ty se_tt J kx zs sc_w11 := se_sound (C := []) hO.1 hO.2.1 hO.2.2 (fun _ hn => absurd hn List.not_mem_nil) sk_w11 (fun _ hn => absurd hn List.not_mem_nil)
/-- RaftTown.sheet -/
def sc_q12 : se_C := ((199, 2), ([(((90, 0, 0), 0, (0, 0, 0), (0, 0, 0)), (0, (0, 0, 0), (0, 0, 0))), (((0, 0, 3), 0, (0, 0, 0), (0, 0, 0)), (0, (0, 1, 0), (0, 0, 0))), (((0, 8, 8), 0, (0, 0, 0), (0, 0, 0)), (0, (0, 2, 0), (0, 0, 0))), (((0, 0, 20), 0, (0, 0, 0), (0, 0, 0)), (0, (0, 3, 0), (0, 0, 0)))], [some (1, 0, 0), some (1, 1, 0), some (1, 2, 0), some (1, 3, 0)], [], []), [([], some (1, 3, 0), [], [])], [(52, 0, 20), (79, 0, 1), (79, 1, 2)])
abbrev sn_q12 : List se_Nd := []
set_option maxRecDepth 100000 in
theorem sk_q12 : se_chk0 se_tt [sc_r8] se_Z 37 se_zt sc_q12 sn_q12 6 = true := by decide +kernel
theorem sm_q12 {ty : Nat → Option Nat} {J : List mm_C → Prop} {kx : Nat} {zs : List mm_Zt} (hO : se_Ok ty J kx zs) (hr8 : se_Met ty se_tt J kx zs sc_r8) : se_Met ty se_tt J kx zs sc_q12 := se_sound (C := [sc_r8]) hO.1 hO.2.1 hO.2.2 (fun n hn => by
  rcases List.mem_cons.mp hn with rfl | hn
  · exact hr8
  exact absurd hn List.not_mem_nil) sk_q12 (fun _ hn => absurd hn List.not_mem_nil)
/-- RaftTownModel.sheet -/
def sc_w12 : se_C := ((324, 1), ([(((91, 0, 0), 0, (0, 0, 0), (0, 0, 0)), (0, (0, 0, 0), (0, 0, 0))), (((0, 0, 3), 0, (0, 0, 0), (0, 0, 0)), (0, (0, 1, 0), (0, 0, 0))), (((0, 8, 8), 0, (0, 0, 0), (0, 0, 0)), (0, (0, 2, 0), (0, 0, 0))), (((0, 0, 20), 0, (0, 0, 0), (0, 0, 0)), (0, (0, 3, 0), (0, 0, 0)))], [some (1, 0, 0), some (1, 1, 0), some (1, 2, 0), some (1, 3, 0)], [], []), [([], some (1, 3, 0), [], [])], [(68, 0, 4), (69, 0, 4), (70, 0, 80)])
def sn_w12_0 : se_Nd := (85, ([(((91, 0, 0), 0, (0, 0, 0), (0, 0, 0)), (3, (0, 0, 0), (0, 0, 0))), (((0, 0, 3), 0, (0, 0, 0), (0, 0, 0)), (3, (0, 1, 0), (0, 0, 0))), (((0, 8, 8), 0, (0, 0, 0), (0, 0, 0)), (3, (0, 2, 0), (0, 0, 0))), (((0, 0, 20), 0, (0, 0, 0), (0, 0, 0)), (3, (0, 3, 0), (0, 0, 0))), (((0, 0, 20), 0, (0, 0, 0), (0, 0, 0)), (0, (0, 4, 0), (0, 0, 0))), (((71, 0, 0), 0, (0, 0, 0), (0, 0, 0)), (1, (1, 0, 0), (0, 0, 23)))], [some (1, 0, 0), some (1, 1, 0), some (1, 2, 0), some (1, 3, 0), some (1, 4, 0)], [((1, 0, 0), (0, 0, 23), (1, 5, 0)), ((1, 5, 0), (1, 1, 0), (1, 3, 0))], []), [(0, 0, 0), ((-1), 4, 0), (0, 0, 0)])
abbrev sn_w12 : List se_Nd := [sn_w12_0]
set_option maxRecDepth 100000 in
theorem sk_w12 : se_chk0 se_tt [] se_Z 37 se_zt sc_w12 sn_w12 6 = true := by decide +kernel
set_option maxRecDepth 100000 in
theorem sk_w12_0 : se_chkn se_tt [] se_Z 37 se_zt sc_w12 sn_w12 6 sn_w12_0 = true := by decide +kernel
theorem sm_w12 {ty : Nat → Option Nat} {J : List mm_C → Prop} {kx : Nat} {zs : List mm_Zt} (hO : se_Ok ty J kx zs) : se_Met ty se_tt J kx zs sc_w12 := se_sound (C := []) hO.1 hO.2.1 hO.2.2 (fun _ hn => absurd hn List.not_mem_nil) sk_w12 (fun n hn => by
  rcases List.mem_cons.mp hn with rfl | hn
  · exact sk_w12_0
  exact absurd hn List.not_mem_nil)
/-- RaftTown.sheet -/
def sc_q13 : se_C := ((199, 1), ([(((90, 0, 0), 0, (0, 0, 0), (0, 0, 0)), (0, (0, 0, 0), (0, 0, 0))), (((0, 0, 3), 0, (0, 0, 0), (0, 0, 0)), (0, (0, 1, 0), (0, 0, 0))), (((0, 16, 16), 0, (0, 0, 0), (0, 0, 0)), (0, (0, 2, 0), (0, 0, 0))), (((0, (-2147483648), (-1)), 0, (0, 0, 0), (0, 0, 0)), (0, (0, 3, 0), (0, 0, 0)))], [some (1, 0, 0), some (1, 1, 0), some (1, 2, 0), some (1, 3, 0)], [], []), [([(((0, (-100003), (-100003)), 0, (0, 0, 0), (0, 0, 0)), (0, (0, 0, 0), (0, 0, 0)))], some (1, 4, 0), [], [])], [(88, 7, 8)])
abbrev sn_q13 : List se_Nd := []
set_option maxRecDepth 100000 in
theorem sk_q13 : se_chk0 se_tt [] se_Z 37 se_zt sc_q13 sn_q13 6 = true := by decide +kernel
theorem sm_q13 {ty : Nat → Option Nat} {J : List mm_C → Prop} {kx : Nat} {zs : List mm_Zt} (hO : se_Ok ty J kx zs) : se_Met ty se_tt J kx zs sc_q13 := se_sound (C := []) hO.1 hO.2.1 hO.2.2 (fun _ hn => absurd hn List.not_mem_nil) sk_q13 (fun _ hn => absurd hn List.not_mem_nil)
/-- RaftTownModel.sheet -/
def sc_w13 : se_C := ((324, 1), ([(((91, 0, 0), 0, (0, 0, 0), (0, 0, 0)), (0, (0, 0, 0), (0, 0, 0))), (((0, 0, 3), 0, (0, 0, 0), (0, 0, 0)), (0, (0, 1, 0), (0, 0, 0))), (((0, 16, 16), 0, (0, 0, 0), (0, 0, 0)), (0, (0, 2, 0), (0, 0, 0))), (((0, (-2147483648), (-1)), 0, (0, 0, 0), (0, 0, 0)), (0, (0, 3, 0), (0, 0, 0)))], [some (1, 0, 0), some (1, 1, 0), some (1, 2, 0), some (1, 3, 0)], [], []), [([(((0, (-100003), (-100003)), 0, (0, 0, 0), (0, 0, 0)), (0, (0, 0, 0), (0, 0, 0)))], some (1, 4, 0), [], [])], [(89, 3, 4)])
abbrev sn_w13 : List se_Nd := []
set_option maxRecDepth 100000 in
theorem sk_w13 : se_chk0 se_tt [] se_Z 37 se_zt sc_w13 sn_w13 6 = true := by decide +kernel
theorem sm_w13 {ty : Nat → Option Nat} {J : List mm_C → Prop} {kx : Nat} {zs : List mm_Zt} (hO : se_Ok ty J kx zs) : se_Met ty se_tt J kx zs sc_w13 := se_sound (C := []) hO.1 hO.2.1 hO.2.2 (fun _ hn => absurd hn List.not_mem_nil) sk_w13 (fun _ hn => absurd hn List.not_mem_nil)
/-- RaftTown.sheet -/
def sc_q14 : se_C := ((199, 1), ([(((90, 0, 0), 0, (0, 0, 0), (0, 0, 0)), (0, (0, 0, 0), (0, 0, 0))), (((0, 0, 3), 0, (0, 0, 0), (0, 0, 0)), (0, (0, 1, 0), (0, 0, 0))), (((0, 16, 16), 0, (0, 0, 0), (0, 0, 0)), (0, (0, 2, 0), (0, 0, 0))), (((0, 21, 2147483647), 0, (0, 0, 0), (0, 0, 0)), (0, (0, 3, 0), (0, 0, 0)))], [some (1, 0, 0), some (1, 1, 0), some (1, 2, 0), some (1, 3, 0)], [], []), [([(((0, (-100001), (-100001)), 0, (0, 0, 0), (0, 0, 0)), (0, (0, 0, 0), (0, 0, 0)))], some (1, 4, 0), [], [])], [(88, 7, 8)])
abbrev sn_q14 : List se_Nd := []
set_option maxRecDepth 100000 in
theorem sk_q14 : se_chk0 se_tt [] se_Z 37 se_zt sc_q14 sn_q14 6 = true := by decide +kernel
theorem sm_q14 {ty : Nat → Option Nat} {J : List mm_C → Prop} {kx : Nat} {zs : List mm_Zt} (hO : se_Ok ty J kx zs) : se_Met ty se_tt J kx zs sc_q14 := se_sound (C := []) hO.1 hO.2.1 hO.2.2 (fun _ hn => absurd hn List.not_mem_nil) sk_q14 (fun _ hn => absurd hn List.not_mem_nil)
/-- RaftTownModel.sheet -/
def sc_w14 : se_C := ((324, 1), ([(((91, 0, 0), 0, (0, 0, 0), (0, 0, 0)), (0, (0, 0, 0), (0, 0, 0))), (((0, 0, 3), 0, (0, 0, 0), (0, 0, 0)), (0, (0, 1, 0), (0, 0, 0))), (((0, 16, 16), 0, (0, 0, 0), (0, 0, 0)), (0, (0, 2, 0), (0, 0, 0))), (((0, 21, 2147483647), 0, (0, 0, 0), (0, 0, 0)), (0, (0, 3, 0), (0, 0, 0)))], [some (1, 0, 0), some (1, 1, 0), some (1, 2, 0), some (1, 3, 0)], [], []), [([(((0, (-100001), (-100001)), 0, (0, 0, 0), (0, 0, 0)), (0, (0, 0, 0), (0, 0, 0)))], some (1, 4, 0), [], [])], [(89, 3, 4)])
abbrev sn_w14 : List se_Nd := []
set_option maxRecDepth 100000 in
theorem sk_w14 : se_chk0 se_tt [] se_Z 37 se_zt sc_w14 sn_w14 6 = true := by decide +kernel
theorem sm_w14 {ty : Nat → Option Nat} {J : List mm_C → Prop} {kx : Nat} {zs : List mm_Zt} (hO : se_Ok ty J kx zs) : se_Met ty se_tt J kx zs sc_w14 := se_sound (C := []) hO.1 hO.2.1 hO.2.2 (fun _ hn => absurd hn List.not_mem_nil) sk_w14 (fun _ hn => absurd hn List.not_mem_nil)
/-- RaftTown.sheet -/
def sc_q15 : se_C := ((199, 2), ([(((90, 0, 0), 0, (0, 0, 0), (0, 0, 0)), (0, (0, 0, 0), (0, 0, 0))), (((0, 0, 3), 0, (0, 0, 0), (0, 0, 0)), (0, (0, 1, 0), (0, 0, 0))), (((0, 16, 16), 0, (0, 0, 0), (0, 0, 0)), (0, (0, 2, 0), (0, 0, 0))), (((0, 0, 20), 0, (0, 0, 0), (0, 0, 0)), (0, (0, 3, 0), (0, 0, 0)))], [some (1, 0, 0), some (1, 1, 0), some (1, 2, 0), some (1, 3, 0)], [], []), [([], some (1, 3, 0), [], [])], [(52, 0, 20), (79, 0, 1), (79, 1, 2)])
abbrev sn_q15 : List se_Nd := []
set_option maxRecDepth 100000 in
theorem sk_q15 : se_chk0 se_tt [sc_r16] se_Z 37 se_zt sc_q15 sn_q15 6 = true := by decide +kernel
theorem sm_q15 {ty : Nat → Option Nat} {J : List mm_C → Prop} {kx : Nat} {zs : List mm_Zt} (hO : se_Ok ty J kx zs) (hr16 : se_Met ty se_tt J kx zs sc_r16) : se_Met ty se_tt J kx zs sc_q15 := se_sound (C := [sc_r16]) hO.1 hO.2.1 hO.2.2 (fun n hn => by
  rcases List.mem_cons.mp hn with rfl | hn
  · exact hr16
  exact absurd hn List.not_mem_nil) sk_q15 (fun _ hn => absurd hn List.not_mem_nil)
/-- RaftTownModel.sheet -/
def sc_w15 : se_C := ((324, 1), ([(((91, 0, 0), 0, (0, 0, 0), (0, 0, 0)), (0, (0, 0, 0), (0, 0, 0))), (((0, 0, 3), 0, (0, 0, 0), (0, 0, 0)), (0, (0, 1, 0), (0, 0, 0))), (((0, 16, 16), 0, (0, 0, 0), (0, 0, 0)), (0, (0, 2, 0), (0, 0, 0))), (((0, 0, 20), 0, (0, 0, 0), (0, 0, 0)), (0, (0, 3, 0), (0, 0, 0)))], [some (1, 0, 0), some (1, 1, 0), some (1, 2, 0), some (1, 3, 0)], [], []), [([], some (1, 3, 0), [], [])], [(68, 0, 4), (69, 0, 4), (70, 0, 80)])
def sn_w15_0 : se_Nd := (85, ([(((91, 0, 0), 0, (0, 0, 0), (0, 0, 0)), (3, (0, 0, 0), (0, 0, 0))), (((0, 0, 3), 0, (0, 0, 0), (0, 0, 0)), (3, (0, 1, 0), (0, 0, 0))), (((0, 16, 16), 0, (0, 0, 0), (0, 0, 0)), (3, (0, 2, 0), (0, 0, 0))), (((0, 0, 20), 0, (0, 0, 0), (0, 0, 0)), (3, (0, 3, 0), (0, 0, 0))), (((0, 0, 20), 0, (0, 0, 0), (0, 0, 0)), (0, (0, 4, 0), (0, 0, 0))), (((71, 0, 0), 0, (0, 0, 0), (0, 0, 0)), (1, (1, 0, 0), (0, 0, 23)))], [some (1, 0, 0), some (1, 1, 0), some (1, 2, 0), some (1, 3, 0), some (1, 4, 0)], [((1, 0, 0), (0, 0, 23), (1, 5, 0)), ((1, 5, 0), (1, 1, 0), (1, 3, 0))], []), [(0, 0, 0), ((-1), 4, 0), (0, 0, 0)])
abbrev sn_w15 : List se_Nd := [sn_w15_0]
set_option maxRecDepth 100000 in
theorem sk_w15 : se_chk0 se_tt [] se_Z 37 se_zt sc_w15 sn_w15 6 = true := by decide +kernel
set_option maxRecDepth 100000 in
theorem sk_w15_0 : se_chkn se_tt [] se_Z 37 se_zt sc_w15 sn_w15 6 sn_w15_0 = true := by decide +kernel
theorem sm_w15 {ty : Nat → Option Nat} {J : List mm_C → Prop} {kx : Nat} {zs : List mm_Zt} (hO : se_Ok ty J kx zs) : se_Met ty se_tt J kx zs sc_w15 := se_sound (C := []) hO.1 hO.2.1 hO.2.2 (fun _ hn => absurd hn List.not_mem_nil) sk_w15 (fun n hn => by
  rcases List.mem_cons.mp hn with rfl | hn
  · exact sk_w15_0
  exact absurd hn List.not_mem_nil)
/-- RaftTown.sheet -/
def sc_q16 : se_C := ((199, 1), ([(((90, 0, 0), 0, (0, 0, 0), (0, 0, 0)), (0, (0, 0, 0), (0, 0, 0))), (((0, 0, 3), 0, (0, 0, 0), (0, 0, 0)), (0, (0, 1, 0), (0, 0, 0))), (((0, 32, 32), 0, (0, 0, 0), (0, 0, 0)), (0, (0, 2, 0), (0, 0, 0))), (((0, (-2147483648), (-1)), 0, (0, 0, 0), (0, 0, 0)), (0, (0, 3, 0), (0, 0, 0)))], [some (1, 0, 0), some (1, 1, 0), some (1, 2, 0), some (1, 3, 0)], [], []), [([(((0, (-100003), (-100003)), 0, (0, 0, 0), (0, 0, 0)), (0, (0, 0, 0), (0, 0, 0)))], some (1, 4, 0), [], [])], [(88, 7, 8)])
abbrev sn_q16 : List se_Nd := []
set_option maxRecDepth 100000 in
theorem sk_q16 : se_chk0 se_tt [] se_Z 37 se_zt sc_q16 sn_q16 6 = true := by decide +kernel
theorem sm_q16 {ty : Nat → Option Nat} {J : List mm_C → Prop} {kx : Nat} {zs : List mm_Zt} (hO : se_Ok ty J kx zs) : se_Met ty se_tt J kx zs sc_q16 := se_sound (C := []) hO.1 hO.2.1 hO.2.2 (fun _ hn => absurd hn List.not_mem_nil) sk_q16 (fun _ hn => absurd hn List.not_mem_nil)
/-- RaftTownModel.sheet -/
def sc_w16 : se_C := ((324, 1), ([(((91, 0, 0), 0, (0, 0, 0), (0, 0, 0)), (0, (0, 0, 0), (0, 0, 0))), (((0, 0, 3), 0, (0, 0, 0), (0, 0, 0)), (0, (0, 1, 0), (0, 0, 0))), (((0, 32, 32), 0, (0, 0, 0), (0, 0, 0)), (0, (0, 2, 0), (0, 0, 0))), (((0, (-2147483648), (-1)), 0, (0, 0, 0), (0, 0, 0)), (0, (0, 3, 0), (0, 0, 0)))], [some (1, 0, 0), some (1, 1, 0), some (1, 2, 0), some (1, 3, 0)], [], []), [([(((0, (-100003), (-100003)), 0, (0, 0, 0), (0, 0, 0)), (0, (0, 0, 0), (0, 0, 0)))], some (1, 4, 0), [], [])], [(89, 3, 4)])
abbrev sn_w16 : List se_Nd := []
set_option maxRecDepth 100000 in
theorem sk_w16 : se_chk0 se_tt [] se_Z 37 se_zt sc_w16 sn_w16 6 = true := by decide +kernel
theorem sm_w16 {ty : Nat → Option Nat} {J : List mm_C → Prop} {kx : Nat} {zs : List mm_Zt} (hO : se_Ok ty J kx zs) : se_Met ty se_tt J kx zs sc_w16 := se_sound (C := []) hO.1 hO.2.1 hO.2.2 (fun _ hn => absurd hn List.not_mem_nil) sk_w16 (fun _ hn => absurd hn List.not_mem_nil)
/-- RaftTown.sheet -/
def sc_q17 : se_C := ((199, 1), ([(((90, 0, 0), 0, (0, 0, 0), (0, 0, 0)), (0, (0, 0, 0), (0, 0, 0))), (((0, 0, 3), 0, (0, 0, 0), (0, 0, 0)), (0, (0, 1, 0), (0, 0, 0))), (((0, 32, 32), 0, (0, 0, 0), (0, 0, 0)), (0, (0, 2, 0), (0, 0, 0))), (((0, 21, 2147483647), 0, (0, 0, 0), (0, 0, 0)), (0, (0, 3, 0), (0, 0, 0)))], [some (1, 0, 0), some (1, 1, 0), some (1, 2, 0), some (1, 3, 0)], [], []), [([(((0, (-100001), (-100001)), 0, (0, 0, 0), (0, 0, 0)), (0, (0, 0, 0), (0, 0, 0)))], some (1, 4, 0), [], [])], [(88, 7, 8)])
abbrev sn_q17 : List se_Nd := []
set_option maxRecDepth 100000 in
theorem sk_q17 : se_chk0 se_tt [] se_Z 37 se_zt sc_q17 sn_q17 6 = true := by decide +kernel
theorem sm_q17 {ty : Nat → Option Nat} {J : List mm_C → Prop} {kx : Nat} {zs : List mm_Zt} (hO : se_Ok ty J kx zs) : se_Met ty se_tt J kx zs sc_q17 := se_sound (C := []) hO.1 hO.2.1 hO.2.2 (fun _ hn => absurd hn List.not_mem_nil) sk_q17 (fun _ hn => absurd hn List.not_mem_nil)
/-- RaftTownModel.sheet -/
def sc_w17 : se_C := ((324, 1), ([(((91, 0, 0), 0, (0, 0, 0), (0, 0, 0)), (0, (0, 0, 0), (0, 0, 0))), (((0, 0, 3), 0, (0, 0, 0), (0, 0, 0)), (0, (0, 1, 0), (0, 0, 0))), (((0, 32, 32), 0, (0, 0, 0), (0, 0, 0)), (0, (0, 2, 0), (0, 0, 0))), (((0, 21, 2147483647), 0, (0, 0, 0), (0, 0, 0)), (0, (0, 3, 0), (0, 0, 0)))], [some (1, 0, 0), some (1, 1, 0), some (1, 2, 0), some (1, 3, 0)], [], []), [([(((0, (-100001), (-100001)), 0, (0, 0, 0), (0, 0, 0)), (0, (0, 0, 0), (0, 0, 0)))], some (1, 4, 0), [], [])], [(89, 3, 4)])
abbrev sn_w17 : List se_Nd := []
set_option maxRecDepth 100000 in
theorem sk_w17 : se_chk0 se_tt [] se_Z 37 se_zt sc_w17 sn_w17 6 = true := by decide +kernel
theorem sm_w17 {ty : Nat → Option Nat} {J : List mm_C → Prop} {kx : Nat} {zs : List mm_Zt} (hO : se_Ok ty J kx zs) : se_Met ty se_tt J kx zs sc_w17 := se_sound (C := []) hO.1 hO.2.1 hO.2.2 (fun _ hn => absurd hn List.not_mem_nil) sk_w17 (fun _ hn => absurd hn List.not_mem_nil)
/-- RaftTown.sheet -/
def sc_q18 : se_C := ((199, 2), ([(((90, 0, 0), 0, (0, 0, 0), (0, 0, 0)), (0, (0, 0, 0), (0, 0, 0))), (((0, 0, 3), 0, (0, 0, 0), (0, 0, 0)), (0, (0, 1, 0), (0, 0, 0))), (((0, 32, 32), 0, (0, 0, 0), (0, 0, 0)), (0, (0, 2, 0), (0, 0, 0))), (((0, 0, 20), 0, (0, 0, 0), (0, 0, 0)), (0, (0, 3, 0), (0, 0, 0)))], [some (1, 0, 0), some (1, 1, 0), some (1, 2, 0), some (1, 3, 0)], [], []), [([], some (1, 3, 0), [], [])], [(52, 0, 20), (79, 0, 1), (79, 1, 2)])
abbrev sn_q18 : List se_Nd := []
set_option maxRecDepth 100000 in
theorem sk_q18 : se_chk0 se_tt [sc_r32] se_Z 37 se_zt sc_q18 sn_q18 6 = true := by decide +kernel
theorem sm_q18 {ty : Nat → Option Nat} {J : List mm_C → Prop} {kx : Nat} {zs : List mm_Zt} (hO : se_Ok ty J kx zs) (hr32 : se_Met ty se_tt J kx zs sc_r32) : se_Met ty se_tt J kx zs sc_q18 := se_sound (C := [sc_r32]) hO.1 hO.2.1 hO.2.2 (fun n hn => by
  rcases List.mem_cons.mp hn with rfl | hn
  · exact hr32
  exact absurd hn List.not_mem_nil) sk_q18 (fun _ hn => absurd hn List.not_mem_nil)
/-- RaftTownModel.sheet -/
def sc_w18 : se_C := ((324, 1), ([(((91, 0, 0), 0, (0, 0, 0), (0, 0, 0)), (0, (0, 0, 0), (0, 0, 0))), (((0, 0, 3), 0, (0, 0, 0), (0, 0, 0)), (0, (0, 1, 0), (0, 0, 0))), (((0, 32, 32), 0, (0, 0, 0), (0, 0, 0)), (0, (0, 2, 0), (0, 0, 0))), (((0, 0, 20), 0, (0, 0, 0), (0, 0, 0)), (0, (0, 3, 0), (0, 0, 0)))], [some (1, 0, 0), some (1, 1, 0), some (1, 2, 0), some (1, 3, 0)], [], []), [([], some (1, 3, 0), [], [])], [(68, 0, 4), (69, 0, 4), (70, 0, 80)])
def sn_w18_0 : se_Nd := (85, ([(((91, 0, 0), 0, (0, 0, 0), (0, 0, 0)), (3, (0, 0, 0), (0, 0, 0))), (((0, 0, 3), 0, (0, 0, 0), (0, 0, 0)), (3, (0, 1, 0), (0, 0, 0))), (((0, 32, 32), 0, (0, 0, 0), (0, 0, 0)), (3, (0, 2, 0), (0, 0, 0))), (((0, 0, 20), 0, (0, 0, 0), (0, 0, 0)), (3, (0, 3, 0), (0, 0, 0))), (((0, 0, 20), 0, (0, 0, 0), (0, 0, 0)), (0, (0, 4, 0), (0, 0, 0))), (((71, 0, 0), 0, (0, 0, 0), (0, 0, 0)), (1, (1, 0, 0), (0, 0, 23)))], [some (1, 0, 0), some (1, 1, 0), some (1, 2, 0), some (1, 3, 0), some (1, 4, 0)], [((1, 0, 0), (0, 0, 23), (1, 5, 0)), ((1, 5, 0), (1, 1, 0), (1, 3, 0))], []), [(0, 0, 0), ((-1), 4, 0), (0, 0, 0)])
abbrev sn_w18 : List se_Nd := [sn_w18_0]
set_option maxRecDepth 100000 in
theorem sk_w18 : se_chk0 se_tt [] se_Z 37 se_zt sc_w18 sn_w18 6 = true := by decide +kernel
set_option maxRecDepth 100000 in
theorem sk_w18_0 : se_chkn se_tt [] se_Z 37 se_zt sc_w18 sn_w18 6 sn_w18_0 = true := by decide +kernel
theorem sm_w18 {ty : Nat → Option Nat} {J : List mm_C → Prop} {kx : Nat} {zs : List mm_Zt} (hO : se_Ok ty J kx zs) : se_Met ty se_tt J kx zs sc_w18 := se_sound (C := []) hO.1 hO.2.1 hO.2.2 (fun _ hn => absurd hn List.not_mem_nil) sk_w18 (fun n hn => by
  rcases List.mem_cons.mp hn with rfl | hn
  · exact sk_w18_0
  exact absurd hn List.not_mem_nil)
def la_C : List se_C := [sc_q0, sc_w0, sc_q1, sc_w1, sc_q2, sc_w2, sc_q3, sc_w3, sc_q4, sc_w4, sc_q5, sc_w5, sc_q6, sc_w6, sc_q7, sc_w7, sc_q8, sc_w8, sc_q9, sc_w9, sc_q10, sc_w10, sc_q11, sc_w11, sc_q12, sc_w12, sc_q13, sc_w13, sc_q14, sc_w14, sc_q15, sc_w15, sc_q16, sc_w16, sc_q17, sc_w17, sc_q18, sc_w18, sc_0, sc_1, sc_3, sc_7, sc_8, sc_9, sc_10, sc_11, sc_12, sc_14, sc_19, sc_32, sc_33, sc_34, sc_35, sc_36, sc_40, sc_51, sc_52, sc_54, sc_56, sc_106, sc_107, sc_108, sc_109, sc_110, sc_111, sc_113, sc_114, sc_121, sc_124, sc_126, sc_130, sc_132, sc_135, sc_136, sc_139, sc_140, sc_145, sc_146, sc_147, sc_148, sc_153, sc_154, sc_155, sc_156, sc_157, sc_158, sc_160, sc_162, sc_163, sc_167, sc_171, sc_173, sc_175, sc_176, sc_177, sc_188, sc_189, sc_192, sc_193, sc_h2, sc_198, sc_200, sc_204, sc_205, sc_206, sc_207, sc_209, sc_211, sc_212, sc_215, sc_216, sc_218, sc_219, sc_h5, sc_h6, sc_220]
theorem la_all {ty : Nat → Option Nat} {kx : Nat} {zs : List mm_Zt} (hO : se_Ok ty (rw_J ty) kx zs) (hz : ∃ tz, zs.find? (fun t => decide (t.1 = "jdk/internal/util/Preconditions" ∧ t.2.1 = "SIOOBE_FORMATTER" ∧ t.2.2.1 = "Ljava/util/function/BiFunction;")) = some tz ∧ tz.2.2.2.category = 1) : ∀ c ∈ la_C, se_Met ty se_tt (rw_J ty) kx zs c := by
  have h0h : se_Met ty se_tt (rw_J ty) kx zs sc_h0 := sm_h0 hz
  have h1h : se_Met ty se_tt (rw_J ty) kx zs sc_h1 := sm_h1
  have h2h : se_Met ty se_tt (rw_J ty) kx zs sc_h2 := sm_h2 hO
  have h4h : se_Met ty se_tt (rw_J ty) kx zs sc_h4 := sm_h4 hO
  have h5h : se_Met ty se_tt (rw_J ty) kx zs sc_h5 := sm_h5 hO
  have h6h : se_Met ty se_tt (rw_J ty) kx zs sc_h6 := sm_h6 hO
  have c0 : se_Met ty se_tt (rw_J ty) kx zs sc_0 := sm_0 hO
  have c1 : se_Met ty se_tt (rw_J ty) kx zs sc_1 := sm_1 hO
  have c2 : se_Met ty se_tt (rw_J ty) kx zs sc_2 := sm_2 hO
  have c3 : se_Met ty se_tt (rw_J ty) kx zs sc_3 := sm_3 hO c2
  have c4 : se_Met ty se_tt (rw_J ty) kx zs sc_4 := sm_4 hO
  have c5 : se_Met ty se_tt (rw_J ty) kx zs sc_5 := sm_5 hO
  have c6 : se_Met ty se_tt (rw_J ty) kx zs sc_6 := sm_6 hO
  have c7 : se_Met ty se_tt (rw_J ty) kx zs sc_7 := sm_7 hO c4 c5 c6
  have c8 : se_Met ty se_tt (rw_J ty) kx zs sc_8 := sm_8 hO
  have c9 : se_Met ty se_tt (rw_J ty) kx zs sc_9 := sm_9 hO c4 c5
  have c10 : se_Met ty se_tt (rw_J ty) kx zs sc_10 := sm_10 hO
  have c11 : se_Met ty se_tt (rw_J ty) kx zs sc_11 := sm_11 hO
  have c12 : se_Met ty se_tt (rw_J ty) kx zs sc_12 := sm_12 hO c4 c5
  have c13 : se_Met ty se_tt (rw_J ty) kx zs sc_13 := sm_13 hO
  have c14 : se_Met ty se_tt (rw_J ty) kx zs sc_14 := sm_14 hO c13
  have c15 : se_Met ty se_tt (rw_J ty) kx zs sc_15 := sm_15 hO
  have c16 : se_Met ty se_tt (rw_J ty) kx zs sc_16 := sm_16 hO
  have c17 : se_Met ty se_tt (rw_J ty) kx zs sc_17 := sm_17 hO
  have c18 : se_Met ty se_tt (rw_J ty) kx zs sc_18 := sm_18 hO
  have c19 : se_Met ty se_tt (rw_J ty) kx zs sc_19 := sm_19 hO c4 c5 c15 c16 c17 c18
  have c20 : se_Met ty se_tt (rw_J ty) kx zs sc_20 := sm_20 hO
  have c21 : se_Met ty se_tt (rw_J ty) kx zs sc_21 := sm_21 hO
  have c22 : se_Met ty se_tt (rw_J ty) kx zs sc_22 := sm_22 hO
  have c23 : se_Met ty se_tt (rw_J ty) kx zs sc_23 := sm_23 hO c5 c22
  have c24 : se_Met ty se_tt (rw_J ty) kx zs sc_24 := sm_24 hO
  have c25 : se_Met ty se_tt (rw_J ty) kx zs sc_25 := sm_25 hO
  have c26 : se_Met ty se_tt (rw_J ty) kx zs sc_26 := sm_26 hO c13 c24 c25
  have c27 : se_Met ty se_tt (rw_J ty) kx zs sc_27 := sm_27 hO
  have c28 : se_Met ty se_tt (rw_J ty) kx zs sc_28 := sm_28 hO c5 c21 c23 c24 c25 c26 c27
  have c29 : se_Met ty se_tt (rw_J ty) kx zs sc_29 := sm_29 hO
  have c30 : se_Met ty se_tt (rw_J ty) kx zs sc_30 := sm_30 hO c29
  have c31 : se_Met ty se_tt (rw_J ty) kx zs sc_31 := sm_31 hO c5
  have c32 : se_Met ty se_tt (rw_J ty) kx zs sc_32 := sm_32 hO c4 c5 c17 c20 c28 c30 c31
  have c33 : se_Met ty se_tt (rw_J ty) kx zs sc_33 := sm_33 hO c4 c23
  have c34 : se_Met ty se_tt (rw_J ty) kx zs sc_34 := sm_34 hO c4 c23
  have c35 : se_Met ty se_tt (rw_J ty) kx zs sc_35 := sm_35 hO c4 c31
  have c36 : se_Met ty se_tt (rw_J ty) kx zs sc_36 := sm_36 hO c4 c5
  have c37 : se_Met ty se_tt (rw_J ty) kx zs sc_37 := sm_37 hO c23
  have c38 : se_Met ty se_tt (rw_J ty) kx zs sc_38 := sm_38 hO c37
  have c39 : se_Met ty se_tt (rw_J ty) kx zs sc_39 := sm_39 hO c37
  have c40 : se_Met ty se_tt (rw_J ty) kx zs sc_40 := sm_40 hO c4 c38 c39
  have c41 : se_Met ty se_tt (rw_J ty) kx zs sc_41 := sm_41 hO c5 c17 c37
  have c42 : se_Met ty se_tt (rw_J ty) kx zs sc_42 := sm_42 hO
  have c43 : se_Met ty se_tt (rw_J ty) kx zs sc_43 := sm_43 hO
  have c44 : se_Met ty se_tt (rw_J ty) kx zs sc_44 := sm_44 hO c6
  have c45 : se_Met ty se_tt (rw_J ty) kx zs sc_45 := sm_45 hO c17 c44
  have c46 : se_Met ty se_tt (rw_J ty) kx zs sc_46 := sm_46 hO c5 c45
  have c47 : se_Met ty se_tt (rw_J ty) kx zs sc_47 := sm_47 hO
  have c48 : se_Met ty se_tt (rw_J ty) kx zs sc_48 := sm_48 hO c4 c5 c6 c17
  have c49 : se_Met ty se_tt (rw_J ty) kx zs sc_49 := sm_49 hO c48
  have c50 : se_Met ty se_tt (rw_J ty) kx zs sc_50 := sm_50 hO
  have c51 : se_Met ty se_tt (rw_J ty) kx zs sc_51 := sm_51 hO c4 c41 c42 c43 c46 c47 c49 c50
  have c52 : se_Met ty se_tt (rw_J ty) kx zs sc_52 := sm_52 hO c4 c41 c42 c43 c46 c47 c49 c50
  have c53 : se_Met ty se_tt (rw_J ty) kx zs sc_53 := sm_53 hO
  have c54 : se_Met ty se_tt (rw_J ty) kx zs sc_54 := sm_54 hO c4 c5 c24 c25 c27 c53
  have c55 : se_Met ty se_tt (rw_J ty) kx zs sc_55 := sm_55 hO
  have c56 : se_Met ty se_tt (rw_J ty) kx zs sc_56 := sm_56 hO c55
  have c57 : se_Met ty se_tt (rw_J ty) kx zs sc_57 := sm_57 hO h0h
  have c58 : se_Met ty se_tt (rw_J ty) kx zs sc_58 := sm_58 hO h0h
  have c59 : se_Met ty se_tt (rw_J ty) kx zs sc_59 := sm_59 hO h0h
  have c60 : se_Met ty se_tt (rw_J ty) kx zs sc_60 := sm_60 hO h0h
  have c61 : se_Met ty se_tt (rw_J ty) kx zs sc_61 := sm_61 hO h0h
  have c62 : se_Met ty se_tt (rw_J ty) kx zs sc_62 := sm_62 hO h0h
  have c63 : se_Met ty se_tt (rw_J ty) kx zs sc_63 := sm_63 hO h0h
  have c64 : se_Met ty se_tt (rw_J ty) kx zs sc_64 := sm_64 hO h0h
  have c65 : se_Met ty se_tt (rw_J ty) kx zs sc_65 := sm_65 hO h0h
  have c66 : se_Met ty se_tt (rw_J ty) kx zs sc_66 := sm_66 hO h0h
  have c67 : se_Met ty se_tt (rw_J ty) kx zs sc_67 := sm_67 hO h0h
  have c68 : se_Met ty se_tt (rw_J ty) kx zs sc_68 := sm_68 hO h0h
  have c69 : se_Met ty se_tt (rw_J ty) kx zs sc_69 := sm_69 hO h0h
  have c70 : se_Met ty se_tt (rw_J ty) kx zs sc_70 := sm_70 hO h0h
  have c71 : se_Met ty se_tt (rw_J ty) kx zs sc_71 := sm_71 hO h0h
  have c72 : se_Met ty se_tt (rw_J ty) kx zs sc_72 := sm_72 hO c57 c58 c59 c60 c61 c62 c63 c64 c65 c66 c67 c68 c69 c70 c71
  have c73 : se_Met ty se_tt (rw_J ty) kx zs sc_73 := sm_73 hO
  have c74 : se_Met ty se_tt (rw_J ty) kx zs sc_74 := sm_74 hO c72 c73
  have c75 : se_Met ty se_tt (rw_J ty) kx zs sc_75 := sm_75 hO c74
  have c76 : se_Met ty se_tt (rw_J ty) kx zs sc_76 := sm_76 hO c74 c75
  have c77 : se_Met ty se_tt (rw_J ty) kx zs sc_77 := sm_77 hO c74 c76
  have c78 : se_Met ty se_tt (rw_J ty) kx zs sc_78 := sm_78 hO c77
  have c79 : se_Met ty se_tt (rw_J ty) kx zs sc_79 := sm_79 hO c74 c78
  have c80 : se_Met ty se_tt (rw_J ty) kx zs sc_80 := sm_80 hO c74 c79
  have c81 : se_Met ty se_tt (rw_J ty) kx zs sc_81 := sm_81 hO c74 c80
  have c82 : se_Met ty se_tt (rw_J ty) kx zs sc_82 := sm_82 hO c74 c81
  have c83 : se_Met ty se_tt (rw_J ty) kx zs sc_83 := sm_83 hO c74 c82
  have c84 : se_Met ty se_tt (rw_J ty) kx zs sc_84 := sm_84 hO c74 c78 c83
  have c85 : se_Met ty se_tt (rw_J ty) kx zs sc_85 := sm_85 hO c74 c84
  have c86 : se_Met ty se_tt (rw_J ty) kx zs sc_86 := sm_86 hO c74 c85
  have c87 : se_Met ty se_tt (rw_J ty) kx zs sc_87 := sm_87 hO c74 c86
  have c88 : se_Met ty se_tt (rw_J ty) kx zs sc_88 := sm_88 hO c74 c87
  have c89 : se_Met ty se_tt (rw_J ty) kx zs sc_89 := sm_89 hO c74 c88
  have c90 : se_Met ty se_tt (rw_J ty) kx zs sc_90 := sm_90 hO c74 c84 c89
  have c91 : se_Met ty se_tt (rw_J ty) kx zs sc_91 := sm_91 hO c74 c90
  have c92 : se_Met ty se_tt (rw_J ty) kx zs sc_92 := sm_92 hO c74 c91
  have c93 : se_Met ty se_tt (rw_J ty) kx zs sc_93 := sm_93 hO c74 c92
  have c94 : se_Met ty se_tt (rw_J ty) kx zs sc_94 := sm_94 hO c74 c93
  have c95 : se_Met ty se_tt (rw_J ty) kx zs sc_95 := sm_95 hO c74 c94
  have c96 : se_Met ty se_tt (rw_J ty) kx zs sc_96 := sm_96 hO c74 c90 c95
  have c97 : se_Met ty se_tt (rw_J ty) kx zs sc_97 := sm_97 hO c74 c96
  have c98 : se_Met ty se_tt (rw_J ty) kx zs sc_98 := sm_98 hO c74 c97
  have c99 : se_Met ty se_tt (rw_J ty) kx zs sc_99 := sm_99 hO c74 c98
  have c100 : se_Met ty se_tt (rw_J ty) kx zs sc_100 := sm_100 hO c74 c99
  have c101 : se_Met ty se_tt (rw_J ty) kx zs sc_101 := sm_101 hO c74 c100
  have c102 : se_Met ty se_tt (rw_J ty) kx zs sc_102 := sm_102 hO c74 c96 c101
  have c103 : se_Met ty se_tt (rw_J ty) kx zs sc_103 := sm_103 hO c74 c102
  have c104 : se_Met ty se_tt (rw_J ty) kx zs sc_104 := sm_104 hO c74 c103
  have c105 : se_Met ty se_tt (rw_J ty) kx zs sc_105 := sm_105 hO c74 c104
  have c106 : se_Met ty se_tt (rw_J ty) kx zs sc_106 := sm_106 hO c105
  have c107 : se_Met ty se_tt (rw_J ty) kx zs sc_107 := sm_107 hO c4 c5 c17
  have c108 : se_Met ty se_tt (rw_J ty) kx zs sc_108 := sm_108 hO c4 c5 c20
  have c109 : se_Met ty se_tt (rw_J ty) kx zs sc_109 := sm_109 hO c4 c5 c20 c28 c30
  have c110 : se_Met ty se_tt (rw_J ty) kx zs sc_110 := sm_110 hO c4 c5 c20 c21 c24 c25 c26 c27 c30
  have c111 : se_Met ty se_tt (rw_J ty) kx zs sc_111 := sm_111 hO c4 c5 c13 c20 c21 c24 c25 c27 c30
  have c112 : se_Met ty se_tt (rw_J ty) kx zs sc_112 := sm_112 hO
  have c113 : se_Met ty se_tt (rw_J ty) kx zs sc_113 := sm_113 hO c112
  have c114 : se_Met ty se_tt (rw_J ty) kx zs sc_114 := sm_114 hO
  have c115 : se_Met ty se_tt (rw_J ty) kx zs sc_115 := sm_115 hO
  have c116 : se_Met ty se_tt (rw_J ty) kx zs sc_116 := sm_116 hO c5
  have c117 : se_Met ty se_tt (rw_J ty) kx zs sc_117 := sm_117 hO c116
  have c118 : se_Met ty se_tt (rw_J ty) kx zs sc_118 := sm_118 hO c5
  have c119 : se_Met ty se_tt (rw_J ty) kx zs sc_119 := sm_119 hO c23
  have c120 : se_Met ty se_tt (rw_J ty) kx zs sc_120 := sm_120 hO c5 c25 c115 c117 c118 c119
  have c121 : se_Met ty se_tt (rw_J ty) kx zs sc_121 := sm_121 hO c4 c120
  have c122 : se_Met ty se_tt (rw_J ty) kx zs sc_122 := sm_122 hO c25 c119
  have c123 : se_Met ty se_tt (rw_J ty) kx zs sc_123 := sm_123 hO c25 c38 c117 c122
  have c124 : se_Met ty se_tt (rw_J ty) kx zs sc_124 := sm_124 hO c4 c25 c38 c123
  have c125 : se_Met ty se_tt (rw_J ty) kx zs sc_125 := sm_125 hO c23
  have c126 : se_Met ty se_tt (rw_J ty) kx zs sc_126 := sm_126 hO c4 c25 c125
  have c127 : se_Met ty se_tt (rw_J ty) kx zs sc_127 := sm_127 hO
  have c128 : se_Met ty se_tt (rw_J ty) kx zs sc_128 := sm_128 hO
  have c129 : se_Met ty se_tt (rw_J ty) kx zs sc_129 := sm_129 hO c127 c128
  have c130 : se_Met ty se_tt (rw_J ty) kx zs sc_130 := sm_130 hO c4 c5 c53 c129
  have c131 : se_Met ty se_tt (rw_J ty) kx zs sc_131 := sm_131 hO c127
  have c132 : se_Met ty se_tt (rw_J ty) kx zs sc_132 := sm_132 hO c4 c5 c53 c131
  have c133 : se_Met ty se_tt (rw_J ty) kx zs sc_133 := sm_133 hO
  have c134 : se_Met ty se_tt (rw_J ty) kx zs sc_134 := sm_134 hO c133
  have c135 : se_Met ty se_tt (rw_J ty) kx zs sc_135 := sm_135 hO
  have c136 : se_Met ty se_tt (rw_J ty) kx zs sc_136 := sm_136 hO
  have c137 : se_Met ty se_tt (rw_J ty) kx zs sc_137 := sm_137 hO
  have c138 : se_Met ty se_tt (rw_J ty) kx zs sc_138 := sm_138 hO c137
  have c139 : se_Met ty se_tt (rw_J ty) kx zs sc_139 := sm_139 hO c138
  have c140 : se_Met ty se_tt (rw_J ty) kx zs sc_140 := sm_140 hO c138
  have c141 : se_Met ty se_tt (rw_J ty) kx zs sc_141 := sm_141 hO
  have c142 : se_Met ty se_tt (rw_J ty) kx zs sc_142 := sm_142 hO
  have c143 : se_Met ty se_tt (rw_J ty) kx zs sc_143 := sm_143 hO
  have c144 : se_Met ty se_tt (rw_J ty) kx zs sc_144 := sm_144 hO
  have c145 : se_Met ty se_tt (rw_J ty) kx zs sc_145 := sm_145 hO c141 c142 c143 c144
  have c146 : se_Met ty se_tt (rw_J ty) kx zs sc_146 := sm_146 hO
  have c147 : se_Met ty se_tt (rw_J ty) kx zs sc_147 := sm_147 hO
  have c148 : se_Met ty se_tt (rw_J ty) kx zs sc_148 := sm_148 hO
  have c149 : se_Met ty se_tt (rw_J ty) kx zs sc_149 := sm_149 hO
  have c150 : se_Met ty se_tt (rw_J ty) kx zs sc_150 := sm_150 hO c149
  have c151 : se_Met ty se_tt (rw_J ty) kx zs sc_151 := sm_151 hO
  have c152 : se_Met ty se_tt (rw_J ty) kx zs sc_152 := sm_152 hO
  have c153 : se_Met ty se_tt (rw_J ty) kx zs sc_153 := sm_153 hO h1h c149 c150 c151 c152
  have c154 : se_Met ty se_tt (rw_J ty) kx zs sc_154 := sm_154 hO
  have c155 : se_Met ty se_tt (rw_J ty) kx zs sc_155 := sm_155 hO c151 c152
  have c156 : se_Met ty se_tt (rw_J ty) kx zs sc_156 := sm_156 hO
  have c157 : se_Met ty se_tt (rw_J ty) kx zs sc_157 := sm_157 hO
  have c158 : se_Met ty se_tt (rw_J ty) kx zs sc_158 := sm_158 hO c151 c152
  have c159 : se_Met ty se_tt (rw_J ty) kx zs sc_159 := sm_159 hO
  have c160 : se_Met ty se_tt (rw_J ty) kx zs sc_160 := sm_160 hO c159
  have c161 : se_Met ty se_tt (rw_J ty) kx zs sc_161 := sm_161 hO h1h c151 c152
  have c162 : se_Met ty se_tt (rw_J ty) kx zs sc_162 := sm_162 hO c161
  have c163 : se_Met ty se_tt (rw_J ty) kx zs sc_163 := sm_163 hO c151 c152
  have c164 : se_Met ty se_tt (rw_J ty) kx zs sc_164 := sm_164 hO
  have c165 : se_Met ty se_tt (rw_J ty) kx zs sc_165 := sm_165 hO
  have c166 : se_Met ty se_tt (rw_J ty) kx zs sc_166 := sm_166 hO
  have c167 : se_Met ty se_tt (rw_J ty) kx zs sc_167 := sm_167 hO c151 c152 c164 c165 c166
  have c168 : se_Met ty se_tt (rw_J ty) kx zs sc_168 := sm_168 hO c150
  have c169 : se_Met ty se_tt (rw_J ty) kx zs sc_169 := sm_169 hO
  have c170 : se_Met ty se_tt (rw_J ty) kx zs sc_170 := sm_170 hO c152 c169
  have c171 : se_Met ty se_tt (rw_J ty) kx zs sc_171 := sm_171 hO c151 c168 c170
  have c172 : se_Met ty se_tt (rw_J ty) kx zs sc_172 := sm_172 hO c170
  have c173 : se_Met ty se_tt (rw_J ty) kx zs sc_173 := sm_173 hO c151 c168 c172
  have c174 : se_Met ty se_tt (rw_J ty) kx zs sc_174 := sm_174 hO c172
  have c175 : se_Met ty se_tt (rw_J ty) kx zs sc_175 := sm_175 hO c151 c168 c174
  have c176 : se_Met ty se_tt (rw_J ty) kx zs sc_176 := sm_176 hO
  have c177 : se_Met ty se_tt (rw_J ty) kx zs sc_177 := sm_177 hO
  have c178 : se_Met ty se_tt (rw_J ty) kx zs sc_178 := sm_178 hO c151 c152 c166 c168 c174
  have c179 : se_Met ty se_tt (rw_J ty) kx zs sc_179 := sm_179 hO
  have c180 : se_Met ty se_tt (rw_J ty) kx zs sc_180 := sm_180 hO c149 c179
  have c181 : se_Met ty se_tt (rw_J ty) kx zs sc_181 := sm_181 hO c166
  have c182 : se_Met ty se_tt (rw_J ty) kx zs sc_182 := sm_182 hO c151 c152 c179 c181
  have c183 : se_Met ty se_tt (rw_J ty) kx zs sc_183 := sm_183 hO
  have c184 : se_Met ty se_tt (rw_J ty) kx zs sc_184 := sm_184 hO h1h c151 c152 c166 c181
  have c185 : se_Met ty se_tt (rw_J ty) kx zs sc_185 := sm_185 hO c184
  have c186 : se_Met ty se_tt (rw_J ty) kx zs sc_186 := sm_186 hO
  have c187 : se_Met ty se_tt (rw_J ty) kx zs sc_187 := sm_187 hO c186
  have c188 : se_Met ty se_tt (rw_J ty) kx zs sc_188 := sm_188 hO c178 c180 c182 c183 c185 c187
  have c189 : se_Met ty se_tt (rw_J ty) kx zs sc_189 := sm_189 hO c178 c180 c182 c183 c185 c187
  have c190 : se_Met ty se_tt (rw_J ty) kx zs sc_190 := sm_190 hO
  have c191 : se_Met ty se_tt (rw_J ty) kx zs sc_191 := sm_191 hO
  have c192 : se_Met ty se_tt (rw_J ty) kx zs sc_192 := sm_192 hO c151 c152 c190 c191
  have c193 : se_Met ty se_tt (rw_J ty) kx zs sc_193 := sm_193 hO
  have c194 : se_Met ty se_tt (rw_J ty) kx zs sc_194 := sm_194 hO
  have c195 : se_Met ty se_tt (rw_J ty) kx zs sc_195 := sm_195 hO c194
  have c196 : se_Met ty se_tt (rw_J ty) kx zs sc_196 := sm_196 hO
  have c197 : se_Met ty se_tt (rw_J ty) kx zs sc_197 := sm_197 hO
  have c198 : se_Met ty se_tt (rw_J ty) kx zs sc_198 := sm_198 hO c151 c152 c166
  have c199 : se_Met ty se_tt (rw_J ty) kx zs sc_199 := sm_199 hO
  have c200 : se_Met ty se_tt (rw_J ty) kx zs sc_200 := sm_200 hO c151 c152 c199
  have c201 : se_Met ty se_tt (rw_J ty) kx zs sc_201 := sm_201 hO c190 c191
  have c202 : se_Met ty se_tt (rw_J ty) kx zs sc_202 := sm_202 hO c159
  have c203 : se_Met ty se_tt (rw_J ty) kx zs sc_203 := sm_203 hO h4h c151 c168 c172 c201 c202
  have c204 : se_Met ty se_tt (rw_J ty) kx zs sc_204 := sm_204 hO c151 c152 c161 c166 c199 c203
  have c205 : se_Met ty se_tt (rw_J ty) kx zs sc_205 := sm_205 hO c151 c152 c199 c203
  have c206 : se_Met ty se_tt (rw_J ty) kx zs sc_206 := sm_206 hO h4h c151 c152 c199 c201 c202
  have c207 : se_Met ty se_tt (rw_J ty) kx zs sc_207 := sm_207 hO h4h c151 c152 c159 c199 c201
  have c208 : se_Met ty se_tt (rw_J ty) kx zs sc_208 := sm_208 hO
  have c209 : se_Met ty se_tt (rw_J ty) kx zs sc_209 := sm_209 hO c151 c152 c168 c174 c208
  have c210 : se_Met ty se_tt (rw_J ty) kx zs sc_210 := sm_210 hO c174
  have c211 : se_Met ty se_tt (rw_J ty) kx zs sc_211 := sm_211 hO c151 c168 c208 c210
  have c212 : se_Met ty se_tt (rw_J ty) kx zs sc_212 := sm_212 hO c151 c168 c172 c208
  have c213 : se_Met ty se_tt (rw_J ty) kx zs sc_213 := sm_213 hO
  have c214 : se_Met ty se_tt (rw_J ty) kx zs sc_214 := sm_214 hO
  have c215 : se_Met ty se_tt (rw_J ty) kx zs sc_215 := sm_215 hO c151 c152 c186 c213 c214
  have c216 : se_Met ty se_tt (rw_J ty) kx zs sc_216 := sm_216 hO c151 c152 c186 c213 c214
  have c217 : se_Met ty se_tt (rw_J ty) kx zs sc_217 := sm_217 hO
  have c218 : se_Met ty se_tt (rw_J ty) kx zs sc_218 := sm_218 hO
  have c219 : se_Met ty se_tt (rw_J ty) kx zs sc_219 := sm_219 hO
  have c220 : se_Met ty se_tt (rw_J ty) kx zs sc_220 := sm_220 hO c151 c208
  have r0 : se_Met ty se_tt (rw_J ty) kx zs sc_r0 := sm_r0 hO
  have r8 : se_Met ty se_tt (rw_J ty) kx zs sc_r8 := sm_r8 hO
  have r16 : se_Met ty se_tt (rw_J ty) kx zs sc_r16 := sm_r16 hO
  have r32 : se_Met ty se_tt (rw_J ty) kx zs sc_r32 := sm_r32 hO
  have q0 : se_Met ty se_tt (rw_J ty) kx zs sc_q0 := sm_q0 hO
  have w0 : se_Met ty se_tt (rw_J ty) kx zs sc_w0 := sm_w0 hO
  have q1 : se_Met ty se_tt (rw_J ty) kx zs sc_q1 := sm_q1 hO
  have w1 : se_Met ty se_tt (rw_J ty) kx zs sc_w1 := sm_w1 hO
  have q2 : se_Met ty se_tt (rw_J ty) kx zs sc_q2 := sm_q2 hO
  have w2 : se_Met ty se_tt (rw_J ty) kx zs sc_w2 := sm_w2 hO
  have q3 : se_Met ty se_tt (rw_J ty) kx zs sc_q3 := sm_q3 hO
  have w3 : se_Met ty se_tt (rw_J ty) kx zs sc_w3 := sm_w3 hO
  have q4 : se_Met ty se_tt (rw_J ty) kx zs sc_q4 := sm_q4 hO
  have w4 : se_Met ty se_tt (rw_J ty) kx zs sc_w4 := sm_w4 hO
  have q5 : se_Met ty se_tt (rw_J ty) kx zs sc_q5 := sm_q5 hO
  have w5 : se_Met ty se_tt (rw_J ty) kx zs sc_w5 := sm_w5 hO
  have q6 : se_Met ty se_tt (rw_J ty) kx zs sc_q6 := sm_q6 hO
  have w6 : se_Met ty se_tt (rw_J ty) kx zs sc_w6 := sm_w6 hO
  have q7 : se_Met ty se_tt (rw_J ty) kx zs sc_q7 := sm_q7 hO
  have w7 : se_Met ty se_tt (rw_J ty) kx zs sc_w7 := sm_w7 hO
  have q8 : se_Met ty se_tt (rw_J ty) kx zs sc_q8 := sm_q8 hO
  have w8 : se_Met ty se_tt (rw_J ty) kx zs sc_w8 := sm_w8 hO
  have q9 : se_Met ty se_tt (rw_J ty) kx zs sc_q9 := sm_q9 hO r0
  have w9 : se_Met ty se_tt (rw_J ty) kx zs sc_w9 := sm_w9 hO
  have q10 : se_Met ty se_tt (rw_J ty) kx zs sc_q10 := sm_q10 hO
  have w10 : se_Met ty se_tt (rw_J ty) kx zs sc_w10 := sm_w10 hO
  have q11 : se_Met ty se_tt (rw_J ty) kx zs sc_q11 := sm_q11 hO
  have w11 : se_Met ty se_tt (rw_J ty) kx zs sc_w11 := sm_w11 hO
  have q12 : se_Met ty se_tt (rw_J ty) kx zs sc_q12 := sm_q12 hO r8
  have w12 : se_Met ty se_tt (rw_J ty) kx zs sc_w12 := sm_w12 hO
  have q13 : se_Met ty se_tt (rw_J ty) kx zs sc_q13 := sm_q13 hO
  have w13 : se_Met ty se_tt (rw_J ty) kx zs sc_w13 := sm_w13 hO
  have q14 : se_Met ty se_tt (rw_J ty) kx zs sc_q14 := sm_q14 hO
  have w14 : se_Met ty se_tt (rw_J ty) kx zs sc_w14 := sm_w14 hO
  have q15 : se_Met ty se_tt (rw_J ty) kx zs sc_q15 := sm_q15 hO r16
  have w15 : se_Met ty se_tt (rw_J ty) kx zs sc_w15 := sm_w15 hO
  have q16 : se_Met ty se_tt (rw_J ty) kx zs sc_q16 := sm_q16 hO
  have w16 : se_Met ty se_tt (rw_J ty) kx zs sc_w16 := sm_w16 hO
  have q17 : se_Met ty se_tt (rw_J ty) kx zs sc_q17 := sm_q17 hO
  have w17 : se_Met ty se_tt (rw_J ty) kx zs sc_w17 := sm_w17 hO
  have q18 : se_Met ty se_tt (rw_J ty) kx zs sc_q18 := sm_q18 hO r32
  have w18 : se_Met ty se_tt (rw_J ty) kx zs sc_w18 := sm_w18 hO
  intro c hc
  unfold la_C at hc
  rcases List.mem_cons.mp hc with rfl | hc
  · exact q0
  rcases List.mem_cons.mp hc with rfl | hc
  · exact w0
  rcases List.mem_cons.mp hc with rfl | hc
  · exact q1
  rcases List.mem_cons.mp hc with rfl | hc
  · exact w1
  rcases List.mem_cons.mp hc with rfl | hc
  · exact q2
  rcases List.mem_cons.mp hc with rfl | hc
  · exact w2
  rcases List.mem_cons.mp hc with rfl | hc
  · exact q3
  rcases List.mem_cons.mp hc with rfl | hc
  · exact w3
  rcases List.mem_cons.mp hc with rfl | hc
  · exact q4
  rcases List.mem_cons.mp hc with rfl | hc
  · exact w4
  rcases List.mem_cons.mp hc with rfl | hc
  · exact q5
  rcases List.mem_cons.mp hc with rfl | hc
  · exact w5
  rcases List.mem_cons.mp hc with rfl | hc
  · exact q6
  rcases List.mem_cons.mp hc with rfl | hc
  · exact w6
  rcases List.mem_cons.mp hc with rfl | hc
  · exact q7
  rcases List.mem_cons.mp hc with rfl | hc
  · exact w7
  rcases List.mem_cons.mp hc with rfl | hc
  · exact q8
  rcases List.mem_cons.mp hc with rfl | hc
  · exact w8
  rcases List.mem_cons.mp hc with rfl | hc
  · exact q9
  rcases List.mem_cons.mp hc with rfl | hc
  · exact w9
  rcases List.mem_cons.mp hc with rfl | hc
  · exact q10
  rcases List.mem_cons.mp hc with rfl | hc
  · exact w10
  rcases List.mem_cons.mp hc with rfl | hc
  · exact q11
  rcases List.mem_cons.mp hc with rfl | hc
  · exact w11
  rcases List.mem_cons.mp hc with rfl | hc
  · exact q12
  rcases List.mem_cons.mp hc with rfl | hc
  · exact w12
  rcases List.mem_cons.mp hc with rfl | hc
  · exact q13
  rcases List.mem_cons.mp hc with rfl | hc
  · exact w13
  rcases List.mem_cons.mp hc with rfl | hc
  · exact q14
  rcases List.mem_cons.mp hc with rfl | hc
  · exact w14
  rcases List.mem_cons.mp hc with rfl | hc
  · exact q15
  rcases List.mem_cons.mp hc with rfl | hc
  · exact w15
  rcases List.mem_cons.mp hc with rfl | hc
  · exact q16
  rcases List.mem_cons.mp hc with rfl | hc
  · exact w16
  rcases List.mem_cons.mp hc with rfl | hc
  · exact q17
  rcases List.mem_cons.mp hc with rfl | hc
  · exact w17
  rcases List.mem_cons.mp hc with rfl | hc
  · exact q18
  rcases List.mem_cons.mp hc with rfl | hc
  · exact w18
  rcases List.mem_cons.mp hc with rfl | hc
  · exact c0
  rcases List.mem_cons.mp hc with rfl | hc
  · exact c1
  rcases List.mem_cons.mp hc with rfl | hc
  · exact c3
  rcases List.mem_cons.mp hc with rfl | hc
  · exact c7
  rcases List.mem_cons.mp hc with rfl | hc
  · exact c8
  rcases List.mem_cons.mp hc with rfl | hc
  · exact c9
  rcases List.mem_cons.mp hc with rfl | hc
  · exact c10
  rcases List.mem_cons.mp hc with rfl | hc
  · exact c11
  rcases List.mem_cons.mp hc with rfl | hc
  · exact c12
  rcases List.mem_cons.mp hc with rfl | hc
  · exact c14
  rcases List.mem_cons.mp hc with rfl | hc
  · exact c19
  rcases List.mem_cons.mp hc with rfl | hc
  · exact c32
  rcases List.mem_cons.mp hc with rfl | hc
  · exact c33
  rcases List.mem_cons.mp hc with rfl | hc
  · exact c34
  rcases List.mem_cons.mp hc with rfl | hc
  · exact c35
  rcases List.mem_cons.mp hc with rfl | hc
  · exact c36
  rcases List.mem_cons.mp hc with rfl | hc
  · exact c40
  rcases List.mem_cons.mp hc with rfl | hc
  · exact c51
  rcases List.mem_cons.mp hc with rfl | hc
  · exact c52
  rcases List.mem_cons.mp hc with rfl | hc
  · exact c54
  rcases List.mem_cons.mp hc with rfl | hc
  · exact c56
  rcases List.mem_cons.mp hc with rfl | hc
  · exact c106
  rcases List.mem_cons.mp hc with rfl | hc
  · exact c107
  rcases List.mem_cons.mp hc with rfl | hc
  · exact c108
  rcases List.mem_cons.mp hc with rfl | hc
  · exact c109
  rcases List.mem_cons.mp hc with rfl | hc
  · exact c110
  rcases List.mem_cons.mp hc with rfl | hc
  · exact c111
  rcases List.mem_cons.mp hc with rfl | hc
  · exact c113
  rcases List.mem_cons.mp hc with rfl | hc
  · exact c114
  rcases List.mem_cons.mp hc with rfl | hc
  · exact c121
  rcases List.mem_cons.mp hc with rfl | hc
  · exact c124
  rcases List.mem_cons.mp hc with rfl | hc
  · exact c126
  rcases List.mem_cons.mp hc with rfl | hc
  · exact c130
  rcases List.mem_cons.mp hc with rfl | hc
  · exact c132
  rcases List.mem_cons.mp hc with rfl | hc
  · exact c135
  rcases List.mem_cons.mp hc with rfl | hc
  · exact c136
  rcases List.mem_cons.mp hc with rfl | hc
  · exact c139
  rcases List.mem_cons.mp hc with rfl | hc
  · exact c140
  rcases List.mem_cons.mp hc with rfl | hc
  · exact c145
  rcases List.mem_cons.mp hc with rfl | hc
  · exact c146
  rcases List.mem_cons.mp hc with rfl | hc
  · exact c147
  rcases List.mem_cons.mp hc with rfl | hc
  · exact c148
  rcases List.mem_cons.mp hc with rfl | hc
  · exact c153
  rcases List.mem_cons.mp hc with rfl | hc
  · exact c154
  rcases List.mem_cons.mp hc with rfl | hc
  · exact c155
  rcases List.mem_cons.mp hc with rfl | hc
  · exact c156
  rcases List.mem_cons.mp hc with rfl | hc
  · exact c157
  rcases List.mem_cons.mp hc with rfl | hc
  · exact c158
  rcases List.mem_cons.mp hc with rfl | hc
  · exact c160
  rcases List.mem_cons.mp hc with rfl | hc
  · exact c162
  rcases List.mem_cons.mp hc with rfl | hc
  · exact c163
  rcases List.mem_cons.mp hc with rfl | hc
  · exact c167
  rcases List.mem_cons.mp hc with rfl | hc
  · exact c171
  rcases List.mem_cons.mp hc with rfl | hc
  · exact c173
  rcases List.mem_cons.mp hc with rfl | hc
  · exact c175
  rcases List.mem_cons.mp hc with rfl | hc
  · exact c176
  rcases List.mem_cons.mp hc with rfl | hc
  · exact c177
  rcases List.mem_cons.mp hc with rfl | hc
  · exact c188
  rcases List.mem_cons.mp hc with rfl | hc
  · exact c189
  rcases List.mem_cons.mp hc with rfl | hc
  · exact c192
  rcases List.mem_cons.mp hc with rfl | hc
  · exact c193
  rcases List.mem_cons.mp hc with rfl | hc
  · exact h2h
  rcases List.mem_cons.mp hc with rfl | hc
  · exact c198
  rcases List.mem_cons.mp hc with rfl | hc
  · exact c200
  rcases List.mem_cons.mp hc with rfl | hc
  · exact c204
  rcases List.mem_cons.mp hc with rfl | hc
  · exact c205
  rcases List.mem_cons.mp hc with rfl | hc
  · exact c206
  rcases List.mem_cons.mp hc with rfl | hc
  · exact c207
  rcases List.mem_cons.mp hc with rfl | hc
  · exact c209
  rcases List.mem_cons.mp hc with rfl | hc
  · exact c211
  rcases List.mem_cons.mp hc with rfl | hc
  · exact c212
  rcases List.mem_cons.mp hc with rfl | hc
  · exact c215
  rcases List.mem_cons.mp hc with rfl | hc
  · exact c216
  rcases List.mem_cons.mp hc with rfl | hc
  · exact c218
  rcases List.mem_cons.mp hc with rfl | hc
  · exact c219
  rcases List.mem_cons.mp hc with rfl | hc
  · exact h5h
  rcases List.mem_cons.mp hc with rfl | hc
  · exact h6h
  rcases List.mem_cons.mp hc with rfl | hc
  · exact c220
  exact absurd hc List.not_mem_nil
def la_cmp : Nat := 1438
def la_arms : List Nat := [208, 251, 304, 337, 370, 429, 498, 551, 584, 617, 650, 713, 736, 769, 802, 815, 838, 871, 904, 937, 960, 1023, 1046, 1079, 1102, 1135, 1168, 1191, 1214, 1247, 1280, 1329, 1372, 1405, 1481, 1524, 1587, 1600, 1613]
def la_any : Nat → se_K := fun _ => (0, se_lo, se_hi)
set_option maxRecDepth 100000 in
theorem la_armc : la_arms.all (fun p => la_go la_C la_any 200 (sx_c330.dropWhile (fun e => !(Nat.beq e.1 p))) []) = true := by decide +kernel
def la_reg : List (List se_K) := [[(0, (-2147483648), (-1)), (0, (-2147483648), 2147483647), (0, (-2147483648), 2147483647)], [(0, 4, 2147483647), (0, (-2147483648), 2147483647), (0, (-2147483648), 2147483647)], [(0, 0, 3), (0, (-2147483648), (-1)), (0, (-2147483648), 2147483647)], [(0, 0, 3), (0, 1, 7), (0, (-2147483648), 2147483647)], [(0, 0, 3), (0, 9, 15), (0, (-2147483648), 2147483647)], [(0, 0, 3), (0, 17, 31), (0, (-2147483648), 2147483647)], [(0, 0, 3), (0, 33, 2147483647), (0, (-2147483648), 2147483647)], [(0, 0, 3), (0, 0, 0), (0, (-2147483648), (-1))], [(0, 0, 3), (0, 0, 0), (0, 21, 2147483647)], [(0, 0, 3), (0, 0, 0), (0, 0, 20)], [(0, 0, 3), (0, 8, 8), (0, (-2147483648), (-1))], [(0, 0, 3), (0, 8, 8), (0, 21, 2147483647)], [(0, 0, 3), (0, 8, 8), (0, 0, 20)], [(0, 0, 3), (0, 16, 16), (0, (-2147483648), (-1))], [(0, 0, 3), (0, 16, 16), (0, 21, 2147483647)], [(0, 0, 3), (0, 16, 16), (0, 0, 20)], [(0, 0, 3), (0, 32, 32), (0, (-2147483648), (-1))], [(0, 0, 3), (0, 32, 32), (0, 21, 2147483647)], [(0, 0, 3), (0, 32, 32), (0, 0, 20)]]
def la_rk (r : List se_K) : Nat → se_K := fun c => match c with
  | 0 => (0, se_lo, se_hi)
  | c + 1 => match r[c]? with
    | some k => k
    | none => (0, se_lo, se_hi)
set_option maxRecDepth 100000 in
theorem la_regc : la_reg.all (fun r => la_go la_C (la_rk r) 200 (sx_c330.dropWhile (fun e => !(Nat.beq e.1 1438))) []) = true := by decide +kernel
def la_in (k : se_K) (x : Int32) : Prop := k.1 = 0 ∧ k.2.1 ≤ x.toInt ∧ x.toInt ≤ k.2.2
def la_al : List se_K → (Nat → Int32) → Prop
  | [], _ => True
  | k :: t, x => la_in k (x 0) ∧ la_al t (fun j => x (j + 1))
theorem la_regs (x : Nat → Int32) : ∃ r ∈ la_reg, la_al r x := by
  have a0 := se_i32 (x 0)
  have a1 := se_i32 (x 1)
  have a2 := se_i32 (x 2)
  unfold se_lo se_hi at a0 a1 a2
  by_cases h2 : (x 0).toInt ≤ 3
  · skip
    by_cases h4 : (x 0).toInt ≤ -1
    · skip
      exact ⟨[(0, (-2147483648), (-1)), (0, (-2147483648), 2147483647), (0, (-2147483648), 2147483647)], List.mem_of_getElem? (i := 0) rfl, (show la_in (0, (-2147483648), (-1)) (x 0) ∧ la_in (0, (-2147483648), 2147483647) (x 1) ∧ la_in (0, (-2147483648), 2147483647) (x 2) ∧ True from ⟨⟨rfl, by show (-2147483648 : Int) ≤ _; omega, by show _ ≤ (-1 : Int); omega⟩, ⟨rfl, by show (-2147483648 : Int) ≤ _; omega, by show _ ≤ (2147483647 : Int); omega⟩, ⟨rfl, by show (-2147483648 : Int) ≤ _; omega, by show _ ≤ (2147483647 : Int); omega⟩, trivial⟩)⟩
    · skip
      by_cases h6 : (x 1).toInt ≤ 15
      · skip
        by_cases h8 : (x 1).toInt ≤ 7
        · skip
          by_cases h10 : (x 1).toInt ≤ 0
          · skip
            by_cases h12 : (x 1).toInt ≤ -1
            · skip
              exact ⟨[(0, 0, 3), (0, (-2147483648), (-1)), (0, (-2147483648), 2147483647)], List.mem_of_getElem? (i := 2) rfl, (show la_in (0, 0, 3) (x 0) ∧ la_in (0, (-2147483648), (-1)) (x 1) ∧ la_in (0, (-2147483648), 2147483647) (x 2) ∧ True from ⟨⟨rfl, by show (0 : Int) ≤ _; omega, by show _ ≤ (3 : Int); omega⟩, ⟨rfl, by show (-2147483648 : Int) ≤ _; omega, by show _ ≤ (-1 : Int); omega⟩, ⟨rfl, by show (-2147483648 : Int) ≤ _; omega, by show _ ≤ (2147483647 : Int); omega⟩, trivial⟩)⟩
            · skip
              by_cases h14 : (x 2).toInt ≤ 20
              · skip
                by_cases h16 : (x 2).toInt ≤ -1
                · skip
                  exact ⟨[(0, 0, 3), (0, 0, 0), (0, (-2147483648), (-1))], List.mem_of_getElem? (i := 7) rfl, (show la_in (0, 0, 3) (x 0) ∧ la_in (0, 0, 0) (x 1) ∧ la_in (0, (-2147483648), (-1)) (x 2) ∧ True from ⟨⟨rfl, by show (0 : Int) ≤ _; omega, by show _ ≤ (3 : Int); omega⟩, ⟨rfl, by show (0 : Int) ≤ _; omega, by show _ ≤ (0 : Int); omega⟩, ⟨rfl, by show (-2147483648 : Int) ≤ _; omega, by show _ ≤ (-1 : Int); omega⟩, trivial⟩)⟩
                · skip
                  exact ⟨[(0, 0, 3), (0, 0, 0), (0, 0, 20)], List.mem_of_getElem? (i := 9) rfl, (show la_in (0, 0, 3) (x 0) ∧ la_in (0, 0, 0) (x 1) ∧ la_in (0, 0, 20) (x 2) ∧ True from ⟨⟨rfl, by show (0 : Int) ≤ _; omega, by show _ ≤ (3 : Int); omega⟩, ⟨rfl, by show (0 : Int) ≤ _; omega, by show _ ≤ (0 : Int); omega⟩, ⟨rfl, by show (0 : Int) ≤ _; omega, by show _ ≤ (20 : Int); omega⟩, trivial⟩)⟩
              · skip
                exact ⟨[(0, 0, 3), (0, 0, 0), (0, 21, 2147483647)], List.mem_of_getElem? (i := 8) rfl, (show la_in (0, 0, 3) (x 0) ∧ la_in (0, 0, 0) (x 1) ∧ la_in (0, 21, 2147483647) (x 2) ∧ True from ⟨⟨rfl, by show (0 : Int) ≤ _; omega, by show _ ≤ (3 : Int); omega⟩, ⟨rfl, by show (0 : Int) ≤ _; omega, by show _ ≤ (0 : Int); omega⟩, ⟨rfl, by show (21 : Int) ≤ _; omega, by show _ ≤ (2147483647 : Int); omega⟩, trivial⟩)⟩
          · skip
            exact ⟨[(0, 0, 3), (0, 1, 7), (0, (-2147483648), 2147483647)], List.mem_of_getElem? (i := 3) rfl, (show la_in (0, 0, 3) (x 0) ∧ la_in (0, 1, 7) (x 1) ∧ la_in (0, (-2147483648), 2147483647) (x 2) ∧ True from ⟨⟨rfl, by show (0 : Int) ≤ _; omega, by show _ ≤ (3 : Int); omega⟩, ⟨rfl, by show (1 : Int) ≤ _; omega, by show _ ≤ (7 : Int); omega⟩, ⟨rfl, by show (-2147483648 : Int) ≤ _; omega, by show _ ≤ (2147483647 : Int); omega⟩, trivial⟩)⟩
        · skip
          by_cases h10 : (x 1).toInt ≤ 8
          · skip
            by_cases h12 : (x 2).toInt ≤ 20
            · skip
              by_cases h14 : (x 2).toInt ≤ -1
              · skip
                exact ⟨[(0, 0, 3), (0, 8, 8), (0, (-2147483648), (-1))], List.mem_of_getElem? (i := 10) rfl, (show la_in (0, 0, 3) (x 0) ∧ la_in (0, 8, 8) (x 1) ∧ la_in (0, (-2147483648), (-1)) (x 2) ∧ True from ⟨⟨rfl, by show (0 : Int) ≤ _; omega, by show _ ≤ (3 : Int); omega⟩, ⟨rfl, by show (8 : Int) ≤ _; omega, by show _ ≤ (8 : Int); omega⟩, ⟨rfl, by show (-2147483648 : Int) ≤ _; omega, by show _ ≤ (-1 : Int); omega⟩, trivial⟩)⟩
              · skip
                exact ⟨[(0, 0, 3), (0, 8, 8), (0, 0, 20)], List.mem_of_getElem? (i := 12) rfl, (show la_in (0, 0, 3) (x 0) ∧ la_in (0, 8, 8) (x 1) ∧ la_in (0, 0, 20) (x 2) ∧ True from ⟨⟨rfl, by show (0 : Int) ≤ _; omega, by show _ ≤ (3 : Int); omega⟩, ⟨rfl, by show (8 : Int) ≤ _; omega, by show _ ≤ (8 : Int); omega⟩, ⟨rfl, by show (0 : Int) ≤ _; omega, by show _ ≤ (20 : Int); omega⟩, trivial⟩)⟩
            · skip
              exact ⟨[(0, 0, 3), (0, 8, 8), (0, 21, 2147483647)], List.mem_of_getElem? (i := 11) rfl, (show la_in (0, 0, 3) (x 0) ∧ la_in (0, 8, 8) (x 1) ∧ la_in (0, 21, 2147483647) (x 2) ∧ True from ⟨⟨rfl, by show (0 : Int) ≤ _; omega, by show _ ≤ (3 : Int); omega⟩, ⟨rfl, by show (8 : Int) ≤ _; omega, by show _ ≤ (8 : Int); omega⟩, ⟨rfl, by show (21 : Int) ≤ _; omega, by show _ ≤ (2147483647 : Int); omega⟩, trivial⟩)⟩
          · skip
            exact ⟨[(0, 0, 3), (0, 9, 15), (0, (-2147483648), 2147483647)], List.mem_of_getElem? (i := 4) rfl, (show la_in (0, 0, 3) (x 0) ∧ la_in (0, 9, 15) (x 1) ∧ la_in (0, (-2147483648), 2147483647) (x 2) ∧ True from ⟨⟨rfl, by show (0 : Int) ≤ _; omega, by show _ ≤ (3 : Int); omega⟩, ⟨rfl, by show (9 : Int) ≤ _; omega, by show _ ≤ (15 : Int); omega⟩, ⟨rfl, by show (-2147483648 : Int) ≤ _; omega, by show _ ≤ (2147483647 : Int); omega⟩, trivial⟩)⟩
      · skip
        by_cases h8 : (x 1).toInt ≤ 31
        · skip
          by_cases h10 : (x 1).toInt ≤ 16
          · skip
            by_cases h12 : (x 2).toInt ≤ 20
            · skip
              by_cases h14 : (x 2).toInt ≤ -1
              · skip
                exact ⟨[(0, 0, 3), (0, 16, 16), (0, (-2147483648), (-1))], List.mem_of_getElem? (i := 13) rfl, (show la_in (0, 0, 3) (x 0) ∧ la_in (0, 16, 16) (x 1) ∧ la_in (0, (-2147483648), (-1)) (x 2) ∧ True from ⟨⟨rfl, by show (0 : Int) ≤ _; omega, by show _ ≤ (3 : Int); omega⟩, ⟨rfl, by show (16 : Int) ≤ _; omega, by show _ ≤ (16 : Int); omega⟩, ⟨rfl, by show (-2147483648 : Int) ≤ _; omega, by show _ ≤ (-1 : Int); omega⟩, trivial⟩)⟩
              · skip
                exact ⟨[(0, 0, 3), (0, 16, 16), (0, 0, 20)], List.mem_of_getElem? (i := 15) rfl, (show la_in (0, 0, 3) (x 0) ∧ la_in (0, 16, 16) (x 1) ∧ la_in (0, 0, 20) (x 2) ∧ True from ⟨⟨rfl, by show (0 : Int) ≤ _; omega, by show _ ≤ (3 : Int); omega⟩, ⟨rfl, by show (16 : Int) ≤ _; omega, by show _ ≤ (16 : Int); omega⟩, ⟨rfl, by show (0 : Int) ≤ _; omega, by show _ ≤ (20 : Int); omega⟩, trivial⟩)⟩
            · skip
              exact ⟨[(0, 0, 3), (0, 16, 16), (0, 21, 2147483647)], List.mem_of_getElem? (i := 14) rfl, (show la_in (0, 0, 3) (x 0) ∧ la_in (0, 16, 16) (x 1) ∧ la_in (0, 21, 2147483647) (x 2) ∧ True from ⟨⟨rfl, by show (0 : Int) ≤ _; omega, by show _ ≤ (3 : Int); omega⟩, ⟨rfl, by show (16 : Int) ≤ _; omega, by show _ ≤ (16 : Int); omega⟩, ⟨rfl, by show (21 : Int) ≤ _; omega, by show _ ≤ (2147483647 : Int); omega⟩, trivial⟩)⟩
          · skip
            exact ⟨[(0, 0, 3), (0, 17, 31), (0, (-2147483648), 2147483647)], List.mem_of_getElem? (i := 5) rfl, (show la_in (0, 0, 3) (x 0) ∧ la_in (0, 17, 31) (x 1) ∧ la_in (0, (-2147483648), 2147483647) (x 2) ∧ True from ⟨⟨rfl, by show (0 : Int) ≤ _; omega, by show _ ≤ (3 : Int); omega⟩, ⟨rfl, by show (17 : Int) ≤ _; omega, by show _ ≤ (31 : Int); omega⟩, ⟨rfl, by show (-2147483648 : Int) ≤ _; omega, by show _ ≤ (2147483647 : Int); omega⟩, trivial⟩)⟩
        · skip
          by_cases h10 : (x 1).toInt ≤ 32
          · skip
            by_cases h12 : (x 2).toInt ≤ 20
            · skip
              by_cases h14 : (x 2).toInt ≤ -1
              · skip
                exact ⟨[(0, 0, 3), (0, 32, 32), (0, (-2147483648), (-1))], List.mem_of_getElem? (i := 16) rfl, (show la_in (0, 0, 3) (x 0) ∧ la_in (0, 32, 32) (x 1) ∧ la_in (0, (-2147483648), (-1)) (x 2) ∧ True from ⟨⟨rfl, by show (0 : Int) ≤ _; omega, by show _ ≤ (3 : Int); omega⟩, ⟨rfl, by show (32 : Int) ≤ _; omega, by show _ ≤ (32 : Int); omega⟩, ⟨rfl, by show (-2147483648 : Int) ≤ _; omega, by show _ ≤ (-1 : Int); omega⟩, trivial⟩)⟩
              · skip
                exact ⟨[(0, 0, 3), (0, 32, 32), (0, 0, 20)], List.mem_of_getElem? (i := 18) rfl, (show la_in (0, 0, 3) (x 0) ∧ la_in (0, 32, 32) (x 1) ∧ la_in (0, 0, 20) (x 2) ∧ True from ⟨⟨rfl, by show (0 : Int) ≤ _; omega, by show _ ≤ (3 : Int); omega⟩, ⟨rfl, by show (32 : Int) ≤ _; omega, by show _ ≤ (32 : Int); omega⟩, ⟨rfl, by show (0 : Int) ≤ _; omega, by show _ ≤ (20 : Int); omega⟩, trivial⟩)⟩
            · skip
              exact ⟨[(0, 0, 3), (0, 32, 32), (0, 21, 2147483647)], List.mem_of_getElem? (i := 17) rfl, (show la_in (0, 0, 3) (x 0) ∧ la_in (0, 32, 32) (x 1) ∧ la_in (0, 21, 2147483647) (x 2) ∧ True from ⟨⟨rfl, by show (0 : Int) ≤ _; omega, by show _ ≤ (3 : Int); omega⟩, ⟨rfl, by show (32 : Int) ≤ _; omega, by show _ ≤ (32 : Int); omega⟩, ⟨rfl, by show (21 : Int) ≤ _; omega, by show _ ≤ (2147483647 : Int); omega⟩, trivial⟩)⟩
          · skip
            exact ⟨[(0, 0, 3), (0, 33, 2147483647), (0, (-2147483648), 2147483647)], List.mem_of_getElem? (i := 6) rfl, (show la_in (0, 0, 3) (x 0) ∧ la_in (0, 33, 2147483647) (x 1) ∧ la_in (0, (-2147483648), 2147483647) (x 2) ∧ True from ⟨⟨rfl, by show (0 : Int) ≤ _; omega, by show _ ≤ (3 : Int); omega⟩, ⟨rfl, by show (33 : Int) ≤ _; omega, by show _ ≤ (2147483647 : Int); omega⟩, ⟨rfl, by show (-2147483648 : Int) ≤ _; omega, by show _ ≤ (2147483647 : Int); omega⟩, trivial⟩)⟩
  · skip
    exact ⟨[(0, 4, 2147483647), (0, (-2147483648), 2147483647), (0, (-2147483648), 2147483647)], List.mem_of_getElem? (i := 1) rfl, (show la_in (0, 4, 2147483647) (x 0) ∧ la_in (0, (-2147483648), 2147483647) (x 1) ∧ la_in (0, (-2147483648), 2147483647) (x 2) ∧ True from ⟨⟨rfl, by show (4 : Int) ≤ _; omega, by show _ ≤ (2147483647 : Int); omega⟩, ⟨rfl, by show (-2147483648 : Int) ≤ _; omega, by show _ ≤ (2147483647 : Int); omega⟩, ⟨rfl, by show (-2147483648 : Int) ≤ _; omega, by show _ ≤ (2147483647 : Int); omega⟩, trivial⟩)⟩
set_option maxRecDepth 100000 in
theorem hd_330_0 : decode (sx_fi 330).2.1 0 = .ok (.new 7, 3) := (sx_dec (y := 330) (full := sx_c330) rfl (e := (0, .new 7, 3, 4, 11, 1023, 1001)) (List.mem_of_getElem? (i := 0) rfl)).1
set_option maxRecDepth 100000 in
theorem hd_330_3 : decode (sx_fi 330).2.1 3 = .ok (.dup, 1) := (sx_dec (y := 330) (full := sx_c330) rfl (e := (3, .dup, 1, 0, 0, 0, 0)) (List.mem_of_getElem? (i := 1) rfl)).1
set_option maxRecDepth 100000 in
theorem hd_330_4 : decode (sx_fi 330).2.1 4 = .ok (.invokespecial 9, 3) := (sx_dec (y := 330) (full := sx_c330) rfl (e := (4, .invokespecial 9, 3, 2, 0, 0, 0)) (List.mem_of_getElem? (i := 2) rfl)).1
set_option maxRecDepth 100000 in
theorem hd_330_7 : decode (sx_fi 330).2.1 7 = .ok (.astore_n 1, 1) := (sx_dec (y := 330) (full := sx_c330) rfl (e := (7, .astore_n 1, 1, 0, 0, 0, 0)) (List.mem_of_getElem? (i := 3) rfl)).1
set_option maxRecDepth 100000 in
theorem hd_330_8 : decode (sx_fi 330).2.1 8 = .ok (.new 10, 3) := (sx_dec (y := 330) (full := sx_c330) rfl (e := (8, .new 10, 3, 4, 12, 6138, 1013)) (List.mem_of_getElem? (i := 4) rfl)).1
set_option maxRecDepth 100000 in
theorem hd_330_11 : decode (sx_fi 330).2.1 11 = .ok (.dup, 1) := (sx_dec (y := 330) (full := sx_c330) rfl (e := (11, .dup, 1, 0, 0, 0, 0)) (List.mem_of_getElem? (i := 5) rfl)).1
set_option maxRecDepth 100000 in
theorem hd_330_12 : decode (sx_fi 330).2.1 12 = .ok (.invokespecial 12, 3) := (sx_dec (y := 330) (full := sx_c330) rfl (e := (12, .invokespecial 12, 3, 2, 218, 0, 0)) (List.mem_of_getElem? (i := 6) rfl)).1
set_option maxRecDepth 100000 in
theorem hd_330_15 : decode (sx_fi 330).2.1 15 = .ok (.astore_n 2, 1) := (sx_dec (y := 330) (full := sx_c330) rfl (e := (15, .astore_n 2, 1, 0, 0, 0, 0)) (List.mem_of_getElem? (i := 7) rfl)).1
set_option maxRecDepth 100000 in
theorem hd_330_16 : decode (sx_fi 330).2.1 16 = .ok (.iconst 0, 1) := (sx_dec (y := 330) (full := sx_c330) rfl (e := (16, .iconst 0, 1, 0, 0, 0, 0)) (List.mem_of_getElem? (i := 8) rfl)).1
set_option maxRecDepth 100000 in
theorem hd_330_17 : decode (sx_fi 330).2.1 17 = .ok (.istore_n 3, 1) := (sx_dec (y := 330) (full := sx_c330) rfl (e := (17, .istore_n 3, 1, 0, 0, 0, 0)) (List.mem_of_getElem? (i := 9) rfl)).1
set_option maxRecDepth 100000 in
theorem hd_330_18 : decode (sx_fi 330).2.1 18 = .ok (.iload_n 3, 1) := (sx_dec (y := 330) (full := sx_c330) rfl (e := (18, .iload_n 3, 1, 0, 0, 0, 0)) (List.mem_of_getElem? (i := 10) rfl)).1
set_option maxRecDepth 100000 in
theorem hd_330_19 : decode (sx_fi 330).2.1 19 = .ok (.aload_n 0, 1) := (sx_dec (y := 330) (full := sx_c330) rfl (e := (19, .aload_n 0, 1, 0, 0, 0, 0)) (List.mem_of_getElem? (i := 11) rfl)).1
set_option maxRecDepth 100000 in
theorem hd_330_20 : decode (sx_fi 330).2.1 20 = .ok (.arraylength, 1) := (sx_dec (y := 330) (full := sx_c330) rfl (e := (20, .arraylength, 1, 0, 0, 0, 0)) (List.mem_of_getElem? (i := 12) rfl)).1
set_option maxRecDepth 100000 in
theorem hd_330_21 : decode (sx_fi 330).2.1 21 = .ok (.bipush 6, 2) := (sx_dec (y := 330) (full := sx_c330) rfl (e := (21, .bipush 6, 2, 0, 0, 0, 0)) (List.mem_of_getElem? (i := 13) rfl)).1
set_option maxRecDepth 100000 in
theorem hd_330_23 : decode (sx_fi 330).2.1 23 = .ok (.isub, 1) := (sx_dec (y := 330) (full := sx_c330) rfl (e := (23, .isub, 1, 0, 0, 0, 0)) (List.mem_of_getElem? (i := 14) rfl)).1
set_option maxRecDepth 100000 in
theorem hd_330_24 : decode (sx_fi 330).2.1 24 = .ok (.if_icmp .gt 1618, 3) := (sx_dec (y := 330) (full := sx_c330) rfl (e := (24, .if_icmp .gt 1618, 3, 0, 0, 0, 0)) (List.mem_of_getElem? (i := 15) rfl)).1
set_option maxRecDepth 100000 in
theorem hd_330_27 : decode (sx_fi 330).2.1 27 = .ok (.aload_n 0, 1) := (sx_dec (y := 330) (full := sx_c330) rfl (e := (27, .aload_n 0, 1, 0, 0, 0, 0)) (List.mem_of_getElem? (i := 16) rfl)).1
set_option maxRecDepth 100000 in
theorem hd_330_28 : decode (sx_fi 330).2.1 28 = .ok (.iload_n 3, 1) := (sx_dec (y := 330) (full := sx_c330) rfl (e := (28, .iload_n 3, 1, 0, 0, 0, 0)) (List.mem_of_getElem? (i := 17) rfl)).1
set_option maxRecDepth 100000 in
theorem hd_330_29 : decode (sx_fi 330).2.1 29 = .ok (.iaload, 1) := (sx_dec (y := 330) (full := sx_c330) rfl (e := (29, .iaload, 1, 0, 0, 0, 0)) (List.mem_of_getElem? (i := 18) rfl)).1
set_option maxRecDepth 100000 in
theorem hd_330_30 : decode (sx_fi 330).2.1 30 = .ok (.bipush 63, 2) := (sx_dec (y := 330) (full := sx_c330) rfl (e := (30, .bipush 63, 2, 0, 0, 0, 0)) (List.mem_of_getElem? (i := 19) rfl)).1
set_option maxRecDepth 100000 in
theorem hd_330_32 : decode (sx_fi 330).2.1 32 = .ok (.iand, 1) := (sx_dec (y := 330) (full := sx_c330) rfl (e := (32, .iand, 1, 0, 0, 0, 0)) (List.mem_of_getElem? (i := 20) rfl)).1
set_option maxRecDepth 100000 in
theorem hd_330_33 : decode (sx_fi 330).2.1 33 = .ok (.tableswitch 1603 0 39 #[175, 218, 271, 304, 337, 396, 465, 518, 551, 584, 617, 680, 703, 736, 769, 782, 805, 838, 871, 904, 927, 990, 1013, 1046, 1069, 1102, 1135, 1158, 1181, 1214, 1247, 1296, 1339, 1372, 1405, 1448, 1491, 1554, 1567, 1580], 175) := (sx_dec (y := 330) (full := sx_c330) rfl (e := (33, .tableswitch 1603 0 39 #[175, 218, 271, 304, 337, 396, 465, 518, 551, 584, 617, 680, 703, 736, 769, 782, 805, 838, 871, 904, 927, 990, 1013, 1046, 1069, 1102, 1135, 1158, 1181, 1214, 1247, 1296, 1339, 1372, 1405, 1448, 1491, 1554, 1567, 1580], 175, 0, 0, 0, 0)) (List.mem_of_getElem? (i := 21) rfl)).1
set_option maxRecDepth 100000 in
theorem hd_330_1479 : decode (sx_fi 330).2.1 1479 = .ok (.iconst 0, 1) := (sx_dec (y := 330) (full := sx_c330) rfl (e := (1479, .iconst 0, 1, 0, 0, 0, 0)) (List.mem_of_getElem? (i := 1053) rfl)).1
set_option maxRecDepth 100000 in
theorem hd_330_1480 : decode (sx_fi 330).2.1 1480 = .ok (.ireturn, 1) := (sx_dec (y := 330) (full := sx_c330) rfl (e := (1480, .ireturn, 1, 0, 0, 0, 0)) (List.mem_of_getElem? (i := 1054) rfl)).1
set_option maxRecDepth 100000 in
theorem hd_330_1636 : decode (sx_fi 330).2.1 1636 = .ok (.iinc 3 6, 3) := (sx_dec (y := 330) (full := sx_c330) rfl (e := (1636, .iinc 3 6, 3, 0, 0, 0, 0)) (List.mem_of_getElem? (i := 1180) rfl)).1
set_option maxRecDepth 100000 in
theorem hd_330_1639 : decode (sx_fi 330).2.1 1639 = .ok (.goto (-1621), 3) := (sx_dec (y := 330) (full := sx_c330) rfl (e := (1639, .goto (-1621), 3, 0, 0, 0, 0)) (List.mem_of_getElem? (i := 1181) rfl)).1
set_option maxRecDepth 100000 in
theorem hd_330_1642 : decode (sx_fi 330).2.1 1642 = .ok (.iconst 1, 1) := (sx_dec (y := 330) (full := sx_c330) rfl (e := (1642, .iconst 1, 1, 0, 0, 0, 0)) (List.mem_of_getElem? (i := 1182) rfl)).1
set_option maxRecDepth 100000 in
theorem hd_330_1643 : decode (sx_fi 330).2.1 1643 = .ok (.ireturn, 1) := (sx_dec (y := 330) (full := sx_c330) rfl (e := (1643, .ireturn, 1, 0, 0, 0, 0)) (List.mem_of_getElem? (i := 1183) rfl)).1
