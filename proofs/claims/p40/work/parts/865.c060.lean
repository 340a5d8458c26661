/-! ===== printed by wip/p37/gen_law4.py: contracts by region ===== -/
/-- RaftTown.sheet -/
def sc_q20 : se_C := ((199, 2), ([(((90, 0, 0), 0, (0, 0, 0), (0, 0, 0)), (0, (0, 0, 0), (0, 0, 0))), (((0, 3, 3), 0, (0, 0, 0), (0, 0, 0)), (0, (0, 1, 0), (0, 0, 0))), (((0, 16, 16), 0, (0, 0, 0), (0, 0, 0)), (0, (0, 2, 0), (0, 0, 0))), (((0, 0, 20), 0, (0, 0, 0), (0, 0, 0)), (0, (0, 3, 0), (0, 0, 0))), (((88, 0, 0), 0, (0, 0, 0), (0, 0, 0)), (1, (1, 0, 0), (0, 0, 3))), (((123, 0, 0), 0, (0, 0, 0), (0, 0, 0)), (1, (1, 4, 0), (1, 1, 0)))], [some (1, 0, 0), some (1, 1, 0), some (1, 2, 0), some (1, 3, 0)], [((1, 0, 0), (0, 0, 3), (1, 4, 0)), ((1, 4, 0), (1, 1, 0), (1, 5, 0))], []), [([], some (1, 3, 0), [((1, 5, 0), (0, 0, 0), (1, 2, 0)), ((1, 5, 0), (0, 0, 1), (1, 3, 0))], [])], [(118, 0, 20), (121, 0, 1), (121, 1, 2)])
abbrev sn_q20 : List se_Nd := []
set_option maxRecDepth 100000 in
theorem sk_q20 : se_chk0 se_tt [sc_r3_16] se_Z 37 se_zt sc_q20 sn_q20 6 = true := by decide +kernel
theorem sm_q20 {ty : Nat → Option Nat} {J : List mm_C → Prop} {kx : Nat} {zs : List mm_Zt} (hO : se_Ok ty J kx zs) (hr3_16 : se_Met ty se_tt J kx zs sc_r3_16) : se_Met ty se_tt J kx zs sc_q20 := se_sound (C := [sc_r3_16]) hO.1 hO.2.1 hO.2.2 (fun n hn => by
  rcases List.mem_cons.mp hn with rfl | hn
  · exact hr3_16
  exact absurd hn List.not_mem_nil) sk_q20 (fun _ hn => absurd hn List.not_mem_nil)
/-- RaftTownModel.sheet -/
def sc_w20 : se_C := ((324, 1), ([(((91, 0, 0), 0, (0, 0, 0), (0, 0, 0)), (0, (0, 0, 0), (0, 0, 0))), (((0, 3, 3), 0, (0, 0, 0), (0, 0, 0)), (0, (0, 1, 0), (0, 0, 0))), (((0, 16, 16), 0, (0, 0, 0), (0, 0, 0)), (0, (0, 2, 0), (0, 0, 0))), (((0, 0, 20), 0, (0, 0, 0), (0, 0, 0)), (0, (0, 3, 0), (0, 0, 0))), (((70, 0, 0), 0, (0, 0, 0), (0, 0, 0)), (1, (1, 0, 0), (0, 0, 22))), (((71, 0, 0), 0, (0, 0, 0), (0, 0, 0)), (1, (1, 0, 0), (0, 0, 23)))], [some (1, 0, 0), some (1, 1, 0), some (1, 2, 0), some (1, 3, 0)], [((1, 0, 0), (0, 0, 22), (1, 4, 0)), ((1, 0, 0), (0, 0, 23), (1, 5, 0))], []), [([], some (1, 3, 0), [((1, 4, 0), (1, 1, 0), (1, 2, 0)), ((1, 5, 0), (1, 1, 0), (1, 3, 0))], [])], [(68, 3, 4), (69, 3, 4), (70, 0, 80)])
def sn_w20_0 : se_Nd := (85, ([(((91, 0, 0), 0, (0, 0, 0), (0, 0, 0)), (3, (0, 0, 0), (0, 0, 0))), (((0, 3, 3), 0, (0, 0, 0), (0, 0, 0)), (3, (0, 1, 0), (0, 0, 0))), (((0, 16, 16), 0, (0, 0, 0), (0, 0, 0)), (3, (0, 2, 0), (0, 0, 0))), (((0, 0, 20), 0, (0, 0, 0), (0, 0, 0)), (3, (0, 3, 0), (0, 0, 0))), (((70, 0, 0), 0, (0, 0, 0), (0, 0, 0)), (3, (0, 4, 0), (0, 0, 0))), (((71, 0, 0), 0, (0, 0, 0), (0, 0, 0)), (3, (0, 5, 0), (0, 0, 0))), (((0, 0, 20), 0, (0, 0, 0), (0, 0, 0)), (0, (0, 4, 0), (0, 0, 0)))], [some (1, 0, 0), some (1, 1, 0), some (1, 2, 0), some (1, 3, 0), some (1, 6, 0)], [((1, 0, 0), (0, 0, 22), (1, 4, 0)), ((1, 0, 0), (0, 0, 23), (1, 5, 0)), ((1, 4, 0), (1, 1, 0), (1, 2, 0)), ((1, 5, 0), (1, 1, 0), (1, 3, 0))], []), [(0, 0, 0), ((-1), 6, 0), (0, 0, 0)])
abbrev sn_w20 : List se_Nd := [sn_w20_0]
set_option maxRecDepth 100000 in
theorem sk_w20 : se_chk0 se_tt [] se_Z 37 se_zt sc_w20 sn_w20 6 = true := by decide +kernel
set_option maxRecDepth 100000 in
theorem sk_w20_0 : se_chkn se_tt [] se_Z 37 se_zt sc_w20 sn_w20 6 sn_w20_0 = true := by decide +kernel
theorem sm_w20 {ty : Nat → Option Nat} {J : List mm_C → Prop} {kx : Nat} {zs : List mm_Zt} (hO : se_Ok ty J kx zs) : se_Met ty se_tt J kx zs sc_w20 := se_sound (C := []) hO.1 hO.2.1 hO.2.2 (fun _ hn => absurd hn List.not_mem_nil) sk_w20 (fun n hn => by
  rcases List.mem_cons.mp hn with rfl | hn
  · exact sk_w20_0
  exact absurd hn List.not_mem_nil)
/-- RaftTown.sheet -/
def sc_q21 : se_C := ((199, 1), ([(((90, 0, 0), 0, (0, 0, 0), (0, 0, 0)), (0, (0, 0, 0), (0, 0, 0))), (((0, 0, 3), 0, (0, 0, 0), (0, 0, 0)), (0, (0, 1, 0), (0, 0, 0))), (((0, 16, 16), 0, (0, 0, 0), (0, 0, 0)), (0, (0, 2, 0), (0, 0, 0))), (((0, 21, 2147483647), 0, (0, 0, 0), (0, 0, 0)), (0, (0, 3, 0), (0, 0, 0)))], [some (1, 0, 0), some (1, 1, 0), some (1, 2, 0), some (1, 3, 0)], [], []), [([(((0, (-100001), (-100001)), 0, (0, 0, 0), (0, 0, 0)), (0, (0, 0, 0), (0, 0, 0)))], some (1, 4, 0), [], [])], [(88, 7, 8)])
abbrev sn_q21 : List se_Nd := []
set_option maxRecDepth 100000 in
theorem sk_q21 : se_chk0 se_tt [] se_Z 37 se_zt sc_q21 sn_q21 6 = true := by decide +kernel
theorem sm_q21 {ty : Nat → Option Nat} {J : List mm_C → Prop} {kx : Nat} {zs : List mm_Zt} (hO : se_Ok ty J kx zs) : se_Met ty se_tt J kx zs sc_q21 := se_sound (C := []) hO.1 hO.2.1 hO.2.2 (fun _ hn => absurd hn List.not_mem_nil) sk_q21 (fun _ hn => absurd hn List.not_mem_nil)
/-- RaftTownModel.sheet -/
def sc_w21 : se_C := ((324, 1), ([(((91, 0, 0), 0, (0, 0, 0), (0, 0, 0)), (0, (0, 0, 0), (0, 0, 0))), (((0, 0, 3), 0, (0, 0, 0), (0, 0, 0)), (0, (0, 1, 0), (0, 0, 0))), (((0, 16, 16), 0, (0, 0, 0), (0, 0, 0)), (0, (0, 2, 0), (0, 0, 0))), (((0, 21, 2147483647), 0, (0, 0, 0), (0, 0, 0)), (0, (0, 3, 0), (0, 0, 0)))], [some (1, 0, 0), some (1, 1, 0), some (1, 2, 0), some (1, 3, 0)], [], []), [([(((0, (-100001), (-100001)), 0, (0, 0, 0), (0, 0, 0)), (0, (0, 0, 0), (0, 0, 0)))], some (1, 4, 0), [], [])], [(89, 3, 4)])
abbrev sn_w21 : List se_Nd := []
set_option maxRecDepth 100000 in
theorem sk_w21 : se_chk0 se_tt [] se_Z 37 se_zt sc_w21 sn_w21 6 = true := by decide +kernel
theorem sm_w21 {ty : Nat → Option Nat} {J : List mm_C → Prop} {kx : Nat} {zs : List mm_Zt} (hO : se_Ok ty J kx zs) : se_Met ty se_tt J kx zs sc_w21 := se_sound (C := []) hO.1 hO.2.1 hO.2.2 (fun _ hn => absurd hn List.not_mem_nil) sk_w21 (fun _ hn => absurd hn List.not_mem_nil)
/-- RaftTown.sheet -/
def sc_q22 : se_C := ((199, 1), ([(((90, 0, 0), 0, (0, 0, 0), (0, 0, 0)), (0, (0, 0, 0), (0, 0, 0))), (((0, 0, 3), 0, (0, 0, 0), (0, 0, 0)), (0, (0, 1, 0), (0, 0, 0))), (((0, 17, 31), 0, (0, 0, 0), (0, 0, 0)), (0, (0, 2, 0), (0, 0, 0))), (((0, (-2147483648), 2147483647), 0, (0, 0, 0), (0, 0, 0)), (0, (0, 3, 0), (0, 0, 0)))], [some (1, 0, 0), some (1, 1, 0), some (1, 2, 0), some (1, 3, 0)], [], []), [([(((0, (-100001), (-100001)), 0, (0, 0, 0), (0, 0, 0)), (0, (0, 0, 0), (0, 0, 0)))], some (1, 4, 0), [], [])], [(88, 7, 8)])
abbrev sn_q22 : List se_Nd := []
set_option maxRecDepth 100000 in
theorem sk_q22 : se_chk0 se_tt [] se_Z 37 se_zt sc_q22 sn_q22 6 = true := by decide +kernel
theorem sm_q22 {ty : Nat → Option Nat} {J : List mm_C → Prop} {kx : Nat} {zs : List mm_Zt} (hO : se_Ok ty J kx zs) : se_Met ty se_tt J kx zs sc_q22 := se_sound (C := []) hO.1 hO.2.1 hO.2.2 (fun _ hn => absurd hn List.not_mem_nil) sk_q22 (fun _ hn => absurd hn List.not_mem_nil)
/-- RaftTownModel.sheet -/
def sc_w22 : se_C := ((324, 1), ([(((91, 0, 0), 0, (0, 0, 0), (0, 0, 0)), (0, (0, 0, 0), (0, 0, 0))), (((0, 0, 3), 0, (0, 0, 0), (0, 0, 0)), (0, (0, 1, 0), (0, 0, 0))), (((0, 17, 31), 0, (0, 0, 0), (0, 0, 0)), (0, (0, 2, 0), (0, 0, 0))), (((0, (-2147483648), 2147483647), 0, (0, 0, 0), (0, 0, 0)), (0, (0, 3, 0), (0, 0, 0)))], [some (1, 0, 0), some (1, 1, 0), some (1, 2, 0), some (1, 3, 0)], [], []), [([(((0, (-100001), (-100001)), 0, (0, 0, 0), (0, 0, 0)), (0, (0, 0, 0), (0, 0, 0)))], some (1, 4, 0), [], [])], [(89, 3, 4)])
abbrev sn_w22 : List se_Nd := []
set_option maxRecDepth 100000 in
theorem sk_w22 : se_chk0 se_tt [] se_Z 37 se_zt sc_w22 sn_w22 6 = true := by decide +kernel
theorem sm_w22 {ty : Nat → Option Nat} {J : List mm_C → Prop} {kx : Nat} {zs : List mm_Zt} (hO : se_Ok ty J kx zs) : se_Met ty se_tt J kx zs sc_w22 := se_sound (C := []) hO.1 hO.2.1 hO.2.2 (fun _ hn => absurd hn List.not_mem_nil) sk_w22 (fun _ hn => absurd hn List.not_mem_nil)
/-- RaftTown.sheet -/
def sc_q23 : se_C := ((199, 1), ([(((90, 0, 0), 0, (0, 0, 0), (0, 0, 0)), (0, (0, 0, 0), (0, 0, 0))), (((0, 0, 3), 0, (0, 0, 0), (0, 0, 0)), (0, (0, 1, 0), (0, 0, 0))), (((0, 32, 32), 0, (0, 0, 0), (0, 0, 0)), (0, (0, 2, 0), (0, 0, 0))), (((0, (-2147483648), (-1)), 0, (0, 0, 0), (0, 0, 0)), (0, (0, 3, 0), (0, 0, 0)))], [some (1, 0, 0), some (1, 1, 0), some (1, 2, 0), some (1, 3, 0)], [], []), [([(((0, (-100003), (-100003)), 0, (0, 0, 0), (0, 0, 0)), (0, (0, 0, 0), (0, 0, 0)))], some (1, 4, 0), [], [])], [(88, 7, 8)])
abbrev sn_q23 : List se_Nd := []
set_option maxRecDepth 100000 in
theorem sk_q23 : se_chk0 se_tt [] se_Z 37 se_zt sc_q23 sn_q23 6 = true := by decide +kernel
theorem sm_q23 {ty : Nat → Option Nat} {J : List mm_C → Prop} {kx : Nat} {zs : List mm_Zt} (hO : se_Ok ty J kx zs) : se_Met ty se_tt J kx zs sc_q23 := se_sound (C := []) hO.1 hO.2.1 hO.2.2 (fun _ hn => absurd hn List.not_mem_nil) sk_q23 (fun _ hn => absurd hn List.not_mem_nil)
/-- RaftTownModel.sheet -/
def sc_w23 : se_C := ((324, 1), ([(((91, 0, 0), 0, (0, 0, 0), (0, 0, 0)), (0, (0, 0, 0), (0, 0, 0))), (((0, 0, 3), 0, (0, 0, 0), (0, 0, 0)), (0, (0, 1, 0), (0, 0, 0))), (((0, 32, 32), 0, (0, 0, 0), (0, 0, 0)), (0, (0, 2, 0), (0, 0, 0))), (((0, (-2147483648), (-1)), 0, (0, 0, 0), (0, 0, 0)), (0, (0, 3, 0), (0, 0, 0)))], [some (1, 0, 0), some (1, 1, 0), some (1, 2, 0), some (1, 3, 0)], [], []), [([(((0, (-100003), (-100003)), 0, (0, 0, 0), (0, 0, 0)), (0, (0, 0, 0), (0, 0, 0)))], some (1, 4, 0), [], [])], [(89, 3, 4)])
abbrev sn_w23 : List se_Nd := []
set_option maxRecDepth 100000 in
theorem sk_w23 : se_chk0 se_tt [] se_Z 37 se_zt sc_w23 sn_w23 6 = true := by decide +kernel
theorem sm_w23 {ty : Nat → Option Nat} {J : List mm_C → Prop} {kx : Nat} {zs : List mm_Zt} (hO : se_Ok ty J kx zs) : se_Met ty se_tt J kx zs sc_w23 := se_sound (C := []) hO.1 hO.2.1 hO.2.2 (fun _ hn => absurd hn List.not_mem_nil) sk_w23 (fun _ hn => absurd hn List.not_mem_nil)
/-- RaftTown.sheet -/
def sc_q24 : se_C := ((199, 2), ([(((90, 0, 0), 0, (0, 0, 0), (0, 0, 0)), (0, (0, 0, 0), (0, 0, 0))), (((0, 0, 0), 0, (0, 0, 0), (0, 0, 0)), (0, (0, 1, 0), (0, 0, 0))), (((0, 32, 32), 0, (0, 0, 0), (0, 0, 0)), (0, (0, 2, 0), (0, 0, 0))), (((0, 0, 20), 0, (0, 0, 0), (0, 0, 0)), (0, (0, 3, 0), (0, 0, 0))), (((88, 0, 0), 0, (0, 0, 0), (0, 0, 0)), (1, (1, 0, 0), (0, 0, 3))), (((81, 0, 0), 0, (0, 0, 0), (0, 0, 0)), (1, (1, 4, 0), (1, 1, 0)))], [some (1, 0, 0), some (1, 1, 0), some (1, 2, 0), some (1, 3, 0)], [((1, 0, 0), (0, 0, 3), (1, 4, 0)), ((1, 4, 0), (1, 1, 0), (1, 5, 0))], []), [([], some (1, 3, 0), [((1, 5, 0), (0, 0, 0), (1, 2, 0)), ((1, 5, 0), (0, 0, 1), (1, 3, 0))], [])], [(52, 0, 20), (79, 0, 1), (79, 1, 2)])
abbrev sn_q24 : List se_Nd := []
set_option maxRecDepth 100000 in
theorem sk_q24 : se_chk0 se_tt [sc_r0_32] se_Z 37 se_zt sc_q24 sn_q24 6 = true := by decide +kernel
theorem sm_q24 {ty : Nat → Option Nat} {J : List mm_C → Prop} {kx : Nat} {zs : List mm_Zt} (hO : se_Ok ty J kx zs) (hr0_32 : se_Met ty se_tt J kx zs sc_r0_32) : se_Met ty se_tt J kx zs sc_q24 := se_sound (C := [sc_r0_32]) hO.1 hO.2.1 hO.2.2 (fun n hn => by
  rcases List.mem_cons.mp hn with rfl | hn
  · exact hr0_32
  exact absurd hn List.not_mem_nil) sk_q24 (fun _ hn => absurd hn List.not_mem_nil)
/-- RaftTownModel.sheet -/
def sc_w24 : se_C := ((324, 1), ([(((91, 0, 0), 0, (0, 0, 0), (0, 0, 0)), (0, (0, 0, 0), (0, 0, 0))), (((0, 0, 0), 0, (0, 0, 0), (0, 0, 0)), (0, (0, 1, 0), (0, 0, 0))), (((0, 32, 32), 0, (0, 0, 0), (0, 0, 0)), (0, (0, 2, 0), (0, 0, 0))), (((0, 0, 20), 0, (0, 0, 0), (0, 0, 0)), (0, (0, 3, 0), (0, 0, 0))), (((70, 0, 0), 0, (0, 0, 0), (0, 0, 0)), (1, (1, 0, 0), (0, 0, 22))), (((71, 0, 0), 0, (0, 0, 0), (0, 0, 0)), (1, (1, 0, 0), (0, 0, 23)))], [some (1, 0, 0), some (1, 1, 0), some (1, 2, 0), some (1, 3, 0)], [((1, 0, 0), (0, 0, 22), (1, 4, 0)), ((1, 0, 0), (0, 0, 23), (1, 5, 0))], []), [([], some (1, 3, 0), [((1, 4, 0), (1, 1, 0), (1, 2, 0)), ((1, 5, 0), (1, 1, 0), (1, 3, 0))], [])], [(68, 0, 1), (69, 0, 1), (70, 0, 80)])
def sn_w24_0 : se_Nd := (85, ([(((91, 0, 0), 0, (0, 0, 0), (0, 0, 0)), (3, (0, 0, 0), (0, 0, 0))), (((0, 0, 0), 0, (0, 0, 0), (0, 0, 0)), (3, (0, 1, 0), (0, 0, 0))), (((0, 32, 32), 0, (0, 0, 0), (0, 0, 0)), (3, (0, 2, 0), (0, 0, 0))), (((0, 0, 20), 0, (0, 0, 0), (0, 0, 0)), (3, (0, 3, 0), (0, 0, 0))), (((70, 0, 0), 0, (0, 0, 0), (0, 0, 0)), (3, (0, 4, 0), (0, 0, 0))), (((71, 0, 0), 0, (0, 0, 0), (0, 0, 0)), (3, (0, 5, 0), (0, 0, 0))), (((0, 0, 20), 0, (0, 0, 0), (0, 0, 0)), (0, (0, 4, 0), (0, 0, 0)))], [some (1, 0, 0), some (1, 1, 0), some (1, 2, 0), some (1, 3, 0), some (1, 6, 0)], [((1, 0, 0), (0, 0, 22), (1, 4, 0)), ((1, 0, 0), (0, 0, 23), (1, 5, 0)), ((1, 4, 0), (1, 1, 0), (1, 2, 0)), ((1, 5, 0), (1, 1, 0), (1, 3, 0))], []), [(0, 0, 0), ((-1), 6, 0), (0, 0, 0)])
abbrev sn_w24 : List se_Nd := [sn_w24_0]
set_option maxRecDepth 100000 in
theorem sk_w24 : se_chk0 se_tt [] se_Z 37 se_zt sc_w24 sn_w24 6 = true := by decide +kernel
set_option maxRecDepth 100000 in
theorem sk_w24_0 : se_chkn se_tt [] se_Z 37 se_zt sc_w24 sn_w24 6 sn_w24_0 = true := by decide +kernel
theorem sm_w24 {ty : Nat → Option Nat} {J : List mm_C → Prop} {kx : Nat} {zs : List mm_Zt} (hO : se_Ok ty J kx zs) : se_Met ty se_tt J kx zs sc_w24 := se_sound (C := []) hO.1 hO.2.1 hO.2.2 (fun _ hn => absurd hn List.not_mem_nil) sk_w24 (fun n hn => by
  rcases List.mem_cons.mp hn with rfl | hn
  · exact sk_w24_0
  exact absurd hn List.not_mem_nil)
/-- RaftTown.sheet -/
def sc_q25 : se_C := ((199, 2), ([(((90, 0, 0), 0, (0, 0, 0), (0, 0, 0)), (0, (0, 0, 0), (0, 0, 0))), (((0, 1, 1), 0, (0, 0, 0), (0, 0, 0)), (0, (0, 1, 0), (0, 0, 0))), (((0, 32, 32), 0, (0, 0, 0), (0, 0, 0)), (0, (0, 2, 0), (0, 0, 0))), (((0, 0, 20), 0, (0, 0, 0), (0, 0, 0)), (0, (0, 3, 0), (0, 0, 0))), (((88, 0, 0), 0, (0, 0, 0), (0, 0, 0)), (1, (1, 0, 0), (0, 0, 3))), (((121, 0, 0), 0, (0, 0, 0), (0, 0, 0)), (1, (1, 4, 0), (1, 1, 0)))], [some (1, 0, 0), some (1, 1, 0), some (1, 2, 0), some (1, 3, 0)], [((1, 0, 0), (0, 0, 3), (1, 4, 0)), ((1, 4, 0), (1, 1, 0), (1, 5, 0))], []), [([], some (1, 3, 0), [((1, 5, 0), (0, 0, 0), (1, 2, 0)), ((1, 5, 0), (0, 0, 1), (1, 3, 0))], [])], [(116, 0, 20), (119, 0, 1), (119, 1, 2)])
abbrev sn_q25 : List se_Nd := []
set_option maxRecDepth 100000 in
theorem sk_q25 : se_chk0 se_tt [sc_r1_32] se_Z 37 se_zt sc_q25 sn_q25 6 = true := by decide +kernel
theorem sm_q25 {ty : Nat → Option Nat} {J : List mm_C → Prop} {kx : Nat} {zs : List mm_Zt} (hO : se_Ok ty J kx zs) (hr1_32 : se_Met ty se_tt J kx zs sc_r1_32) : se_Met ty se_tt J kx zs sc_q25 := se_sound (C := [sc_r1_32]) hO.1 hO.2.1 hO.2.2 (fun n hn => by
  rcases List.mem_cons.mp hn with rfl | hn
  · exact hr1_32
  exact absurd hn List.not_mem_nil) sk_q25 (fun _ hn => absurd hn List.not_mem_nil)
/-- RaftTownModel.sheet -/
def sc_w25 : se_C := ((324, 1), ([(((91, 0, 0), 0, (0, 0, 0), (0, 0, 0)), (0, (0, 0, 0), (0, 0, 0))), (((0, 1, 1), 0, (0, 0, 0), (0, 0, 0)), (0, (0, 1, 0), (0, 0, 0))), (((0, 32, 32), 0, (0, 0, 0), (0, 0, 0)), (0, (0, 2, 0), (0, 0, 0))), (((0, 0, 20), 0, (0, 0, 0), (0, 0, 0)), (0, (0, 3, 0), (0, 0, 0))), (((70, 0, 0), 0, (0, 0, 0), (0, 0, 0)), (1, (1, 0, 0), (0, 0, 22))), (((71, 0, 0), 0, (0, 0, 0), (0, 0, 0)), (1, (1, 0, 0), (0, 0, 23)))], [some (1, 0, 0), some (1, 1, 0), some (1, 2, 0), some (1, 3, 0)], [((1, 0, 0), (0, 0, 22), (1, 4, 0)), ((1, 0, 0), (0, 0, 23), (1, 5, 0))], []), [([], some (1, 3, 0), [((1, 4, 0), (1, 1, 0), (1, 2, 0)), ((1, 5, 0), (1, 1, 0), (1, 3, 0))], [])], [(68, 1, 2), (69, 1, 2), (70, 0, 80)])
def sn_w25_0 : se_Nd := (85, ([(((91, 0, 0), 0, (0, 0, 0), (0, 0, 0)), (3, (0, 0, 0), (0, 0, 0))), (((0, 1, 1), 0, (0, 0, 0), (0, 0, 0)), (3, (0, 1, 0), (0, 0, 0))), (((0, 32, 32), 0, (0, 0, 0), (0, 0, 0)), (3, (0, 2, 0), (0, 0, 0))), (((0, 0, 20), 0, (0, 0, 0), (0, 0, 0)), (3, (0, 3, 0), (0, 0, 0))), (((70, 0, 0), 0, (0, 0, 0), (0, 0, 0)), (3, (0, 4, 0), (0, 0, 0))), (((71, 0, 0), 0, (0, 0, 0), (0, 0, 0)), (3, (0, 5, 0), (0, 0, 0))), (((0, 0, 20), 0, (0, 0, 0), (0, 0, 0)), (0, (0, 4, 0), (0, 0, 0)))], [some (1, 0, 0), some (1, 1, 0), some (1, 2, 0), some (1, 3, 0), some (1, 6, 0)], [((1, 0, 0), (0, 0, 22), (1, 4, 0)), ((1, 0, 0), (0, 0, 23), (1, 5, 0)), ((1, 4, 0), (1, 1, 0), (1, 2, 0)), ((1, 5, 0), (1, 1, 0), (1, 3, 0))], []), [(0, 0, 0), ((-1), 6, 0), (0, 0, 0)])
abbrev sn_w25 : List se_Nd := [sn_w25_0]
set_option maxRecDepth 100000 in
theorem sk_w25 : se_chk0 se_tt [] se_Z 37 se_zt sc_w25 sn_w25 6 = true := by decide +kernel
set_option maxRecDepth 100000 in
theorem sk_w25_0 : se_chkn se_tt [] se_Z 37 se_zt sc_w25 sn_w25 6 sn_w25_0 = true := by decide +kernel
theorem sm_w25 {ty : Nat → Option Nat} {J : List mm_C → Prop} {kx : Nat} {zs : List mm_Zt} (hO : se_Ok ty J kx zs) : se_Met ty se_tt J kx zs sc_w25 := se_sound (C := []) hO.1 hO.2.1 hO.2.2 (fun _ hn => absurd hn List.not_mem_nil) sk_w25 (fun n hn => by
  rcases List.mem_cons.mp hn with rfl | hn
  · exact sk_w25_0
  exact absurd hn List.not_mem_nil)
/-- RaftTown.sheet -/
def sc_q26 : se_C := ((199, 2), ([(((90, 0, 0), 0, (0, 0, 0), (0, 0, 0)), (0, (0, 0, 0), (0, 0, 0))), (((0, 2, 2), 0, (0, 0, 0), (0, 0, 0)), (0, (0, 1, 0), (0, 0, 0))), (((0, 32, 32), 0, (0, 0, 0), (0, 0, 0)), (0, (0, 2, 0), (0, 0, 0))), (((0, 0, 20), 0, (0, 0, 0), (0, 0, 0)), (0, (0, 3, 0), (0, 0, 0))), (((88, 0, 0), 0, (0, 0, 0), (0, 0, 0)), (1, (1, 0, 0), (0, 0, 3))), (((122, 0, 0), 0, (0, 0, 0), (0, 0, 0)), (1, (1, 4, 0), (1, 1, 0)))], [some (1, 0, 0), some (1, 1, 0), some (1, 2, 0), some (1, 3, 0)], [((1, 0, 0), (0, 0, 3), (1, 4, 0)), ((1, 4, 0), (1, 1, 0), (1, 5, 0))], []), [([], some (1, 3, 0), [((1, 5, 0), (0, 0, 0), (1, 2, 0)), ((1, 5, 0), (0, 0, 1), (1, 3, 0))], [])], [(117, 0, 20), (120, 0, 1), (120, 1, 2)])
abbrev sn_q26 : List se_Nd := []
set_option maxRecDepth 100000 in
theorem sk_q26 : se_chk0 se_tt [sc_r2_32] se_Z 37 se_zt sc_q26 sn_q26 6 = true := by decide +kernel
theorem sm_q26 {ty : Nat → Option Nat} {J : List mm_C → Prop} {kx : Nat} {zs : List mm_Zt} (hO : se_Ok ty J kx zs) (hr2_32 : se_Met ty se_tt J kx zs sc_r2_32) : se_Met ty se_tt J kx zs sc_q26 := se_sound (C := [sc_r2_32]) hO.1 hO.2.1 hO.2.2 (fun n hn => by
  rcases List.mem_cons.mp hn with rfl | hn
  · exact hr2_32
  exact absurd hn List.not_mem_nil) sk_q26 (fun _ hn => absurd hn List.not_mem_nil)
/-- RaftTownModel.sheet -/
def sc_w26 : se_C := ((324, 1), ([(((91, 0, 0), 0, (0, 0, 0), (0, 0, 0)), (0, (0, 0, 0), (0, 0, 0))), (((0, 2, 2), 0, (0, 0, 0), (0, 0, 0)), (0, (0, 1, 0), (0, 0, 0))), (((0, 32, 32), 0, (0, 0, 0), (0, 0, 0)), (0, (0, 2, 0), (0, 0, 0))), (((0, 0, 20), 0, (0, 0, 0), (0, 0, 0)), (0, (0, 3, 0), (0, 0, 0))), (((70, 0, 0), 0, (0, 0, 0), (0, 0, 0)), (1, (1, 0, 0), (0, 0, 22))), (((71, 0, 0), 0, (0, 0, 0), (0, 0, 0)), (1, (1, 0, 0), (0, 0, 23)))], [some (1, 0, 0), some (1, 1, 0), some (1, 2, 0), some (1, 3, 0)], [((1, 0, 0), (0, 0, 22), (1, 4, 0)), ((1, 0, 0), (0, 0, 23), (1, 5, 0))], []), [([], some (1, 3, 0), [((1, 4, 0), (1, 1, 0), (1, 2, 0)), ((1, 5, 0), (1, 1, 0), (1, 3, 0))], [])], [(68, 2, 3), (69, 2, 3), (70, 0, 80)])
def sn_w26_0 : se_Nd := (85, ([(((91, 0, 0), 0, (0, 0, 0), (0, 0, 0)), (3, (0, 0, 0), (0, 0, 0))), (((0, 2, 2), 0, (0, 0, 0), (0, 0, 0)), (3, (0, 1, 0), (0, 0, 0))), (((0, 32, 32), 0, (0, 0, 0), (0, 0, 0)), (3, (0, 2, 0), (0, 0, 0))), (((0, 0, 20), 0, (0, 0, 0), (0, 0, 0)), (3, (0, 3, 0), (0, 0, 0))), (((70, 0, 0), 0, (0, 0, 0), (0, 0, 0)), (3, (0, 4, 0), (0, 0, 0))), (((71, 0, 0), 0, (0, 0, 0), (0, 0, 0)), (3, (0, 5, 0), (0, 0, 0))), (((0, 0, 20), 0, (0, 0, 0), (0, 0, 0)), (0, (0, 4, 0), (0, 0, 0)))], [some (1, 0, 0), some (1, 1, 0), some (1, 2, 0), some (1, 3, 0), some (1, 6, 0)], [((1, 0, 0), (0, 0, 22), (1, 4, 0)), ((1, 0, 0), (0, 0, 23), (1, 5, 0)), ((1, 4, 0), (1, 1, 0), (1, 2, 0)), ((1, 5, 0), (1, 1, 0), (1, 3, 0))], []), [(0, 0, 0), ((-1), 6, 0), (0, 0, 0)])
abbrev sn_w26 : List se_Nd := [sn_w26_0]
set_option maxRecDepth 100000 in
theorem sk_w26 : se_chk0 se_tt [] se_Z 37 se_zt sc_w26 sn_w26 6 = true := by decide +kernel
set_option maxRecDepth 100000 in
theorem sk_w26_0 : se_chkn se_tt [] se_Z 37 se_zt sc_w26 sn_w26 6 sn_w26_0 = true := by decide +kernel
theorem sm_w26 {ty : Nat → Option Nat} {J : List mm_C → Prop} {kx : Nat} {zs : List mm_Zt} (hO : se_Ok ty J kx zs) : se_Met ty se_tt J kx zs sc_w26 := se_sound (C := []) hO.1 hO.2.1 hO.2.2 (fun _ hn => absurd hn List.not_mem_nil) sk_w26 (fun n hn => by
  rcases List.mem_cons.mp hn with rfl | hn
  · exact sk_w26_0
  exact absurd hn List.not_mem_nil)
/-- RaftTown.sheet -/
def sc_q27 : se_C := ((199, 2), ([(((90, 0, 0), 0, (0, 0, 0), (0, 0, 0)), (0, (0, 0, 0), (0, 0, 0))), (((0, 3, 3), 0, (0, 0, 0), (0, 0, 0)), (0, (0, 1, 0), (0, 0, 0))), (((0, 32, 32), 0, (0, 0, 0), (0, 0, 0)), (0, (0, 2, 0), (0, 0, 0))), (((0, 0, 20), 0, (0, 0, 0), (0, 0, 0)), (0, (0, 3, 0), (0, 0, 0))), (((88, 0, 0), 0, (0, 0, 0), (0, 0, 0)), (1, (1, 0, 0), (0, 0, 3))), (((123, 0, 0), 0, (0, 0, 0), (0, 0, 0)), (1, (1, 4, 0), (1, 1, 0)))], [some (1, 0, 0), some (1, 1, 0), some (1, 2, 0), some (1, 3, 0)], [((1, 0, 0), (0, 0, 3), (1, 4, 0)), ((1, 4, 0), (1, 1, 0), (1, 5, 0))], []), [([], some (1, 3, 0), [((1, 5, 0), (0, 0, 0), (1, 2, 0)), ((1, 5, 0), (0, 0, 1), (1, 3, 0))], [])], [(118, 0, 20), (121, 0, 1), (121, 1, 2)])
abbrev sn_q27 : List se_Nd := []
set_option maxRecDepth 100000 in
theorem sk_q27 : se_chk0 se_tt [sc_r3_32] se_Z 37 se_zt sc_q27 sn_q27 6 = true := by decide +kernel
theorem sm_q27 {ty : Nat → Option Nat} {J : List mm_C → Prop} {kx : Nat} {zs : List mm_Zt} (hO : se_Ok ty J kx zs) (hr3_32 : se_Met ty se_tt J kx zs sc_r3_32) : se_Met ty se_tt J kx zs sc_q27 := se_sound (C := [sc_r3_32]) hO.1 hO.2.1 hO.2.2 (fun n hn => by
  rcases List.mem_cons.mp hn with rfl | hn
  · exact hr3_32
  exact absurd hn List.not_mem_nil) sk_q27 (fun _ hn => absurd hn List.not_mem_nil)
/-- RaftTownModel.sheet -/
def sc_w27 : se_C := ((324, 1), ([(((91, 0, 0), 0, (0, 0, 0), (0, 0, 0)), (0, (0, 0, 0), (0, 0, 0))), (((0, 3, 3), 0, (0, 0, 0), (0, 0, 0)), (0, (0, 1, 0), (0, 0, 0))), (((0, 32, 32), 0, (0, 0, 0), (0, 0, 0)), (0, (0, 2, 0), (0, 0, 0))), (((0, 0, 20), 0, (0, 0, 0), (0, 0, 0)), (0, (0, 3, 0), (0, 0, 0))), (((70, 0, 0), 0, (0, 0, 0), (0, 0, 0)), (1, (1, 0, 0), (0, 0, 22))), (((71, 0, 0), 0, (0, 0, 0), (0, 0, 0)), (1, (1, 0, 0), (0, 0, 23)))], [some (1, 0, 0), some (1, 1, 0), some (1, 2, 0), some (1, 3, 0)], [((1, 0, 0), (0, 0, 22), (1, 4, 0)), ((1, 0, 0), (0, 0, 23), (1, 5, 0))], []), [([], some (1, 3, 0), [((1, 4, 0), (1, 1, 0), (1, 2, 0)), ((1, 5, 0), (1, 1, 0), (1, 3, 0))], [])], [(68, 3, 4), (69, 3, 4), (70, 0, 80)])
def sn_w27_0 : se_Nd := (85, ([(((91, 0, 0), 0, (0, 0, 0), (0, 0, 0)), (3, (0, 0, 0), (0, 0, 0))), (((0, 3, 3), 0, (0, 0, 0), (0, 0, 0)), (3, (0, 1, 0), (0, 0, 0))), (((0, 32, 32), 0, (0, 0, 0), (0, 0, 0)), (3, (0, 2, 0), (0, 0, 0))), (((0, 0, 20), 0, (0, 0, 0), (0, 0, 0)), (3, (0, 3, 0), (0, 0, 0))), (((70, 0, 0), 0, (0, 0, 0), (0, 0, 0)), (3, (0, 4, 0), (0, 0, 0))), (((71, 0, 0), 0, (0, 0, 0), (0, 0, 0)), (3, (0, 5, 0), (0, 0, 0))), (((0, 0, 20), 0, (0, 0, 0), (0, 0, 0)), (0, (0, 4, 0), (0, 0, 0)))], [some (1, 0, 0), some (1, 1, 0), some (1, 2, 0), some (1, 3, 0), some (1, 6, 0)], [((1, 0, 0), (0, 0, 22), (1, 4, 0)), ((1, 0, 0), (0, 0, 23), (1, 5, 0)), ((1, 4, 0), (1, 1, 0), (1, 2, 0)), ((1, 5, 0), (1, 1, 0), (1, 3, 0))], []), [(0, 0, 0), ((-1), 6, 0), (0, 0, 0)])
abbrev sn_w27 : List se_Nd := [sn_w27_0]
set_option maxRecDepth 100000 in
theorem sk_w27 : se_chk0 se_tt [] se_Z 37 se_zt sc_w27 sn_w27 6 = true := by decide +kernel
set_option maxRecDepth 100000 in
theorem sk_w27_0 : se_chkn se_tt [] se_Z 37 se_zt sc_w27 sn_w27 6 sn_w27_0 = true := by decide +kernel
theorem sm_w27 {ty : Nat → Option Nat} {J : List mm_C → Prop} {kx : Nat} {zs : List mm_Zt} (hO : se_Ok ty J kx zs) : se_Met ty se_tt J kx zs sc_w27 := se_sound (C := []) hO.1 hO.2.1 hO.2.2 (fun _ hn => absurd hn List.not_mem_nil) sk_w27 (fun n hn => by
  rcases List.mem_cons.mp hn with rfl | hn
  · exact sk_w27_0
  exact absurd hn List.not_mem_nil)
/-- RaftTown.sheet -/
def sc_q28 : se_C := ((199, 1), ([(((90, 0, 0), 0, (0, 0, 0), (0, 0, 0)), (0, (0, 0, 0), (0, 0, 0))), (((0, 0, 3), 0, (0, 0, 0), (0, 0, 0)), (0, (0, 1, 0), (0, 0, 0))), (((0, 32, 32), 0, (0, 0, 0), (0, 0, 0)), (0, (0, 2, 0), (0, 0, 0))), (((0, 21, 2147483647), 0, (0, 0, 0), (0, 0, 0)), (0, (0, 3, 0), (0, 0, 0)))], [some (1, 0, 0), some (1, 1, 0), some (1, 2, 0), some (1, 3, 0)], [], []), [([(((0, (-100001), (-100001)), 0, (0, 0, 0), (0, 0, 0)), (0, (0, 0, 0), (0, 0, 0)))], some (1, 4, 0), [], [])], [(88, 7, 8)])
abbrev sn_q28 : List se_Nd := []
set_option maxRecDepth 100000 in
theorem sk_q28 : se_chk0 se_tt [] se_Z 37 se_zt sc_q28 sn_q28 6 = true := by decide +kernel
theorem sm_q28 {ty : Nat → Option Nat} {J : List mm_C → Prop} {kx : Nat} {zs : List mm_Zt} (hO : se_Ok ty J kx zs) : se_Met ty se_tt J kx zs sc_q28 := se_sound (C := []) hO.1 hO.2.1 hO.2.2 (fun _ hn => absurd hn List.not_mem_nil) sk_q28 (fun _ hn => absurd hn List.not_mem_nil)
/-- RaftTownModel.sheet -/
def sc_w28 : se_C := ((324, 1), ([(((91, 0, 0), 0, (0, 0, 0), (0, 0, 0)), (0, (0, 0, 0), (0, 0, 0))), (((0, 0, 3), 0, (0, 0, 0), (0, 0, 0)), (0, (0, 1, 0), (0, 0, 0))), (((0, 32, 32), 0, (0, 0, 0), (0, 0, 0)), (0, (0, 2, 0), (0, 0, 0))), (((0, 21, 2147483647), 0, (0, 0, 0), (0, 0, 0)), (0, (0, 3, 0), (0, 0, 0)))], [some (1, 0, 0), some (1, 1, 0), some (1, 2, 0), some (1, 3, 0)], [], []), [([(((0, (-100001), (-100001)), 0, (0, 0, 0), (0, 0, 0)), (0, (0, 0, 0), (0, 0, 0)))], some (1, 4, 0), [], [])], [(89, 3, 4)])
abbrev sn_w28 : List se_Nd := []
set_option maxRecDepth 100000 in
theorem sk_w28 : se_chk0 se_tt [] se_Z 37 se_zt sc_w28 sn_w28 6 = true := by decide +kernel
theorem sm_w28 {ty : Nat → Option Nat} {J : List mm_C → Prop} {kx : Nat} {zs : List mm_Zt} (hO : se_Ok ty J kx zs) : se_Met ty se_tt J kx zs sc_w28 := se_sound (C := []) hO.1 hO.2.1 hO.2.2 (fun _ hn => absurd hn List.not_mem_nil) sk_w28 (fun _ hn => absurd hn List.not_mem_nil)
/-- RaftTown.sheet -/
def sc_q29 : se_C := ((199, 1), ([(((90, 0, 0), 0, (0, 0, 0), (0, 0, 0)), (0, (0, 0, 0), (0, 0, 0))), (((0, 0, 3), 0, (0, 0, 0), (0, 0, 0)), (0, (0, 1, 0), (0, 0, 0))), (((0, 33, 2147483647), 0, (0, 0, 0), (0, 0, 0)), (0, (0, 2, 0), (0, 0, 0))), (((0, (-2147483648), 2147483647), 0, (0, 0, 0), (0, 0, 0)), (0, (0, 3, 0), (0, 0, 0)))], [some (1, 0, 0), some (1, 1, 0), some (1, 2, 0), some (1, 3, 0)], [], []), [([(((0, (-100001), (-100001)), 0, (0, 0, 0), (0, 0, 0)), (0, (0, 0, 0), (0, 0, 0)))], some (1, 4, 0), [], [])], [(88, 7, 8)])
abbrev sn_q29 : List se_Nd := []
set_option maxRecDepth 100000 in
theorem sk_q29 : se_chk0 se_tt [] se_Z 37 se_zt sc_q29 sn_q29 6 = true := by decide +kernel
theorem sm_q29 {ty : Nat → Option Nat} {J : List mm_C → Prop} {kx : Nat} {zs : List mm_Zt} (hO : se_Ok ty J kx zs) : se_Met ty se_tt J kx zs sc_q29 := se_sound (C := []) hO.1 hO.2.1 hO.2.2 (fun _ hn => absurd hn List.not_mem_nil) sk_q29 (fun _ hn => absurd hn List.not_mem_nil)
/-- RaftTownModel.sheet -/
def sc_w29 : se_C := ((324, 1), ([(((91, 0, 0), 0, (0, 0, 0), (0, 0, 0)), (0, (0, 0, 0), (0, 0, 0))), (((0, 0, 3), 0, (0, 0, 0), (0, 0, 0)), (0, (0, 1, 0), (0, 0, 0))), (((0, 33, 2147483647), 0, (0, 0, 0), (0, 0, 0)), (0, (0, 2, 0), (0, 0, 0))), (((0, (-2147483648), 2147483647), 0, (0, 0, 0), (0, 0, 0)), (0, (0, 3, 0), (0, 0, 0)))], [some (1, 0, 0), some (1, 1, 0), some (1, 2, 0), some (1, 3, 0)], [], []), [([(((0, (-100001), (-100001)), 0, (0, 0, 0), (0, 0, 0)), (0, (0, 0, 0), (0, 0, 0)))], some (1, 4, 0), [], [])], [(89, 3, 4)])
abbrev sn_w29 : List se_Nd := []
set_option maxRecDepth 100000 in
theorem sk_w29 : se_chk0 se_tt [] se_Z 37 se_zt sc_w29 sn_w29 6 = true := by decide +kernel
theorem sm_w29 {ty : Nat → Option Nat} {J : List mm_C → Prop} {kx : Nat} {zs : List mm_Zt} (hO : se_Ok ty J kx zs) : se_Met ty se_tt J kx zs sc_w29 := se_sound (C := []) hO.1 hO.2.1 hO.2.2 (fun _ hn => absurd hn List.not_mem_nil) sk_w29 (fun _ hn => absurd hn List.not_mem_nil)
/-- RaftTown.sheet -/
def sc_q30 : se_C := ((199, 1), ([(((90, 0, 0), 0, (0, 0, 0), (0, 0, 0)), (0, (0, 0, 0), (0, 0, 0))), (((0, 4, 2147483647), 0, (0, 0, 0), (0, 0, 0)), (0, (0, 1, 0), (0, 0, 0))), (((0, (-2147483648), 2147483647), 0, (0, 0, 0), (0, 0, 0)), (0, (0, 2, 0), (0, 0, 0))), (((0, (-2147483648), 2147483647), 0, (0, 0, 0), (0, 0, 0)), (0, (0, 3, 0), (0, 0, 0)))], [some (1, 0, 0), some (1, 1, 0), some (1, 2, 0), some (1, 3, 0)], [], []), [([(((0, (-100001), (-100001)), 0, (0, 0, 0), (0, 0, 0)), (0, (0, 0, 0), (0, 0, 0)))], some (1, 4, 0), [], [])], [(88, 7, 8)])
abbrev sn_q30 : List se_Nd := []
set_option maxRecDepth 100000 in
theorem sk_q30 : se_chk0 se_tt [] se_Z 37 se_zt sc_q30 sn_q30 5 = true := by decide +kernel
theorem sm_q30 {ty : Nat → Option Nat} {J : List mm_C → Prop} {kx : Nat} {zs : List mm_Zt} (hO : se_Ok ty J kx zs) : se_Met ty se_tt J kx zs sc_q30 := se_sound (C := []) hO.1 hO.2.1 hO.2.2 (fun _ hn => absurd hn List.not_mem_nil) sk_q30 (fun _ hn => absurd hn List.not_mem_nil)
/-- RaftTownModel.sheet -/
def sc_w30 : se_C := ((324, 1), ([(((91, 0, 0), 0, (0, 0, 0), (0, 0, 0)), (0, (0, 0, 0), (0, 0, 0))), (((0, 4, 2147483647), 0, (0, 0, 0), (0, 0, 0)), (0, (0, 1, 0), (0, 0, 0))), (((0, (-2147483648), 2147483647), 0, (0, 0, 0), (0, 0, 0)), (0, (0, 2, 0), (0, 0, 0))), (((0, (-2147483648), 2147483647), 0, (0, 0, 0), (0, 0, 0)), (0, (0, 3, 0), (0, 0, 0)))], [some (1, 0, 0), some (1, 1, 0), some (1, 2, 0), some (1, 3, 0)], [], []), [([(((0, (-100001), (-100001)), 0, (0, 0, 0), (0, 0, 0)), (0, (0, 0, 0), (0, 0, 0)))], some (1, 4, 0), [], [])], [(89, 3, 4)])
abbrev sn_w30 : List se_Nd := []
set_option maxRecDepth 100000 in
theorem sk_w30 : se_chk0 se_tt [] se_Z 37 se_zt sc_w30 sn_w30 5 = true := by decide +kernel
theorem sm_w30 {ty : Nat → Option Nat} {J : List mm_C → Prop} {kx : Nat} {zs : List mm_Zt} (hO : se_Ok ty J kx zs) : se_Met ty se_tt J kx zs sc_w30 := se_sound (C := []) hO.1 hO.2.1 hO.2.2 (fun _ hn => absurd hn List.not_mem_nil) sk_w30 (fun _ hn => absurd hn List.not_mem_nil)
/-- RaftTown.image -/
def sc_q31 : se_C := ((205, 3), ([(((90, 0, 0), 0, (0, 0, 0), (0, 0, 0)), (0, (0, 0, 0), (0, 0, 0))), (((89, 0, 0), 0, (0, 0, 0), (0, 0, 0)), (1, (1, 0, 0), (0, 0, 0))), (((117, 0, 0), 0, (0, 0, 0), (0, 0, 0)), (1, (1, 0, 0), (0, 0, 1))), (((0, (-2147483648), 2147483647), 0, (0, 0, 0), (0, 0, 0)), (1, (1, 1, 0), (0, 0, 9)))], [some (1, 0, 0)], [((1, 0, 0), (0, 0, 0), (1, 1, 0)), ((1, 0, 0), (0, 0, 1), (1, 2, 0)), ((1, 1, 0), (0, 0, 9), (1, 3, 0))], []), [([], some (1, 3, 0), [((1, 2, 0), (0, 0, 9), (1, 3, 0)), ((1, 0, 0), (0, 0, 2), (0, 0, 1))], [])], [(88, 2, 3), (90, 0, 40), (91, 0, 40), (92, 0, 40), (93, 0, 40), (94, 0, 12), (95, 0, 12), (96, 0, 36), (97, 0, 36), (99, 0, 160), (100, 0, 3), (104, 4, 5), (104, 5, 6), (104, 8, 9), (106, 0, 1), (106, 1, 2), (106, 2, 3), (106, 3, 4), (106, 4, 5), (106, 5, 6), (106, 6, 7), (107, 0, 1), (107, 1, 2), (107, 2, 3), (107, 3, 4), (107, 4, 5), (107, 5, 6), (107, 6, 7), (108, 0, 1), (108, 1, 2), (108, 2, 3), (108, 3, 4), (108, 4, 5), (108, 5, 6), (108, 6, 7), (108, 7, 8), (109, 0, 1), (109, 3, 4), (115, 2, 3), (115, 4, 5), (115, 6, 7), (115, 9, 10), (115, 10, 11), (115, 11, 12)])
abbrev sn_q31 : List se_Nd := []
set_option maxRecDepth 100000 in
theorem sk_q31 : se_chk0 se_tt [sc_tk] se_Z 37 se_zt sc_q31 sn_q31 4 = true := by decide +kernel
theorem sm_q31 {ty : Nat → Option Nat} {J : List mm_C → Prop} {kx : Nat} {zs : List mm_Zt} (hO : se_Ok ty J kx zs) (htk : se_Met ty se_tt J kx zs sc_tk) : se_Met ty se_tt J kx zs sc_q31 := se_sound (C := [sc_tk]) hO.1 hO.2.1 hO.2.2 (fun n hn => by
  rcases List.mem_cons.mp hn with rfl | hn
  · exact htk
  exact absurd hn List.not_mem_nil) sk_q31 (fun _ hn => absurd hn List.not_mem_nil)
/-- RaftTown.restore -/
def sc_q32 : se_C := ((212, 1), ([(((90, 0, 0), 0, (0, 0, 0), (0, 0, 0)), (0, (0, 0, 0), (0, 0, 0))), (((0, 0, 0), 0, (0, 0, 0), (0, 0, 0)), (1, (1, 0, 0), (0, 0, 2)))], [some (1, 0, 0)], [((1, 0, 0), (0, 0, 2), (1, 1, 0))], []), [([(((0, (-100006), (-100006)), 0, (0, 0, 0), (0, 0, 0)), (0, (0, 0, 0), (0, 0, 0)))], some (1, 2, 0), [], [])], [(88, 7, 8)])
abbrev sn_q32 : List se_Nd := []
set_option maxRecDepth 100000 in
theorem sk_q32 : se_chk0 se_tt [] se_Z 37 se_zt sc_q32 sn_q32 5 = true := by decide +kernel
theorem sm_q32 {ty : Nat → Option Nat} {J : List mm_C → Prop} {kx : Nat} {zs : List mm_Zt} (hO : se_Ok ty J kx zs) : se_Met ty se_tt J kx zs sc_q32 := se_sound (C := []) hO.1 hO.2.1 hO.2.2 (fun _ hn => absurd hn List.not_mem_nil) sk_q32 (fun _ hn => absurd hn List.not_mem_nil)
/-- RaftTownModel.restore -/
def sc_w32 : se_C := ((328, 1), ([(((91, 0, 0), 0, (0, 0, 0), (0, 0, 0)), (0, (0, 0, 0), (0, 0, 0))), (((0, 0, 0), 0, (0, 0, 0), (0, 0, 0)), (1, (1, 0, 0), (0, 0, 2)))], [some (1, 0, 0)], [((1, 0, 0), (0, 0, 2), (1, 1, 0))], []), [([(((0, (-100006), (-100006)), 0, (0, 0, 0), (0, 0, 0)), (0, (0, 0, 0), (0, 0, 0)))], some (1, 2, 0), [], [])], [(89, 3, 4)])
abbrev sn_w32 : List se_Nd := []
set_option maxRecDepth 100000 in
theorem sk_w32 : se_chk0 se_tt [] se_Z 37 se_zt sc_w32 sn_w32 4 = true := by decide +kernel
theorem sm_w32 {ty : Nat → Option Nat} {J : List mm_C → Prop} {kx : Nat} {zs : List mm_Zt} (hO : se_Ok ty J kx zs) : se_Met ty se_tt J kx zs sc_w32 := se_sound (C := []) hO.1 hO.2.1 hO.2.2 (fun _ hn => absurd hn List.not_mem_nil) sk_w32 (fun _ hn => absurd hn List.not_mem_nil)
/-- RaftTown.restore -/
def sc_q33 : se_C := ((212, 3), ([(((90, 0, 0), 0, (0, 0, 0), (0, 0, 0)), (0, (0, 0, 0), (0, 0, 0))), (((0, 1, 1), 0, (0, 0, 0), (0, 0, 0)), (1, (1, 0, 0), (0, 0, 2))), (((89, 0, 0), 0, (0, 0, 0), (0, 0, 0)), (1, (1, 0, 0), (0, 0, 0))), (((117, 0, 0), 0, (0, 0, 0), (0, 0, 0)), (1, (1, 0, 0), (0, 0, 1))), (((0, (-2147483648), 2147483647), 0, (0, 0, 0), (0, 0, 0)), (1, (1, 3, 0), (0, 0, 9)))], [some (1, 0, 0)], [((1, 0, 0), (0, 0, 2), (1, 1, 0)), ((1, 0, 0), (0, 0, 0), (1, 2, 0)), ((1, 0, 0), (0, 0, 1), (1, 3, 0)), ((1, 3, 0), (0, 0, 9), (1, 4, 0))], []), [([], some (1, 4, 0), [((1, 2, 0), (0, 0, 9), (1, 4, 0))], [])], [(39, 0, 40), (40, 0, 40), (41, 0, 40), (42, 0, 40), (43, 0, 12), (44, 0, 12), (49, 0, 36), (50, 0, 36), (54, 0, 160), (55, 0, 3), (73, 4, 5), (73, 5, 6), (73, 8, 9), (75, 0, 1), (75, 1, 2), (75, 2, 3), (75, 3, 4), (75, 4, 5), (75, 5, 6), (75, 6, 7), (76, 0, 1), (76, 1, 2), (76, 2, 3), (76, 3, 4), (76, 4, 5), (76, 5, 6), (76, 6, 7), (77, 0, 1), (77, 1, 2), (77, 2, 3), (77, 3, 4), (77, 4, 5), (77, 5, 6), (77, 6, 7), (77, 7, 8), (81, 0, 1), (81, 3, 4), (87, 2, 3), (87, 4, 5), (87, 6, 7), (87, 9, 10), (87, 10, 11), (87, 11, 12)])
abbrev sn_q33 : List se_Nd := []
set_option maxRecDepth 100000 in
theorem sk_q33 : se_chk0 se_tt [sc_tl] se_Z 37 se_zt sc_q33 sn_q33 4 = true := by decide +kernel
theorem sm_q33 {ty : Nat → Option Nat} {J : List mm_C → Prop} {kx : Nat} {zs : List mm_Zt} (hO : se_Ok ty J kx zs) (htl : se_Met ty se_tt J kx zs sc_tl) : se_Met ty se_tt J kx zs sc_q33 := se_sound (C := [sc_tl]) hO.1 hO.2.1 hO.2.2 (fun n hn => by
  rcases List.mem_cons.mp hn with rfl | hn
  · exact htl
  exact absurd hn List.not_mem_nil) sk_q33 (fun _ hn => absurd hn List.not_mem_nil)
/-- RaftTown.day -/
def sc_q34 : se_C := ((102, 1), ([(((90, 0, 0), 0, (0, 0, 0), (0, 0, 0)), (0, (0, 0, 0), (0, 0, 0))), (((0, (-2147483648), (-1)), 0, (0, 0, 0), (0, 0, 0)), (0, (0, 1, 0), (0, 0, 0))), (((0, (-2147483648), 2147483647), 0, (0, 0, 0), (0, 0, 0)), (0, (0, 2, 0), (0, 0, 0)))], [some (1, 0, 0), some (1, 1, 0), some (1, 2, 0)], [], []), [([(((0, (-100001), (-100001)), 0, (0, 0, 0), (0, 0, 0)), (0, (0, 0, 0), (0, 0, 0)))], some (1, 3, 0), [], [])], [(88, 7, 8)])
abbrev sn_q34 : List se_Nd := []
set_option maxRecDepth 100000 in
theorem sk_q34 : se_chk0 se_tt [] se_Z 37 se_zt sc_q34 sn_q34 5 = true := by decide +kernel
theorem sm_q34 {ty : Nat → Option Nat} {J : List mm_C → Prop} {kx : Nat} {zs : List mm_Zt} (hO : se_Ok ty J kx zs) : se_Met ty se_tt J kx zs sc_q34 := se_sound (C := []) hO.1 hO.2.1 hO.2.2 (fun _ hn => absurd hn List.not_mem_nil) sk_q34 (fun _ hn => absurd hn List.not_mem_nil)
/-- RaftTownModel.day -/
def sc_w34 : se_C := ((269, 1), ([(((91, 0, 0), 0, (0, 0, 0), (0, 0, 0)), (0, (0, 0, 0), (0, 0, 0))), (((0, (-2147483648), (-1)), 0, (0, 0, 0), (0, 0, 0)), (0, (0, 1, 0), (0, 0, 0))), (((0, (-2147483648), 2147483647), 0, (0, 0, 0), (0, 0, 0)), (0, (0, 2, 0), (0, 0, 0)))], [some (1, 0, 0), some (1, 1, 0), some (1, 2, 0)], [], []), [([(((0, (-100001), (-100001)), 0, (0, 0, 0), (0, 0, 0)), (0, (0, 0, 0), (0, 0, 0)))], some (1, 3, 0), [], [])], [(89, 3, 4)])
abbrev sn_w34 : List se_Nd := []
set_option maxRecDepth 100000 in
theorem sk_w34 : se_chk0 se_tt [] se_Z 37 se_zt sc_w34 sn_w34 5 = true := by decide +kernel
theorem sm_w34 {ty : Nat → Option Nat} {J : List mm_C → Prop} {kx : Nat} {zs : List mm_Zt} (hO : se_Ok ty J kx zs) : se_Met ty se_tt J kx zs sc_w34 := se_sound (C := []) hO.1 hO.2.1 hO.2.2 (fun _ hn => absurd hn List.not_mem_nil) sk_w34 (fun _ hn => absurd hn List.not_mem_nil)
/-- RaftTown.day -/
def sc_q35 : se_C := ((102, 1), ([(((90, 0, 0), 0, (0, 0, 0), (0, 0, 0)), (0, (0, 0, 0), (0, 0, 0))), (((0, 0, 20), 0, (0, 0, 0), (0, 0, 0)), (0, (0, 1, 0), (0, 0, 0))), (((0, (-2147483648), (-1)), 0, (0, 0, 0), (0, 0, 0)), (0, (0, 2, 0), (0, 0, 0)))], [some (1, 0, 0), some (1, 1, 0), some (1, 2, 0)], [], []), [([(((0, (-100001), (-100001)), 0, (0, 0, 0), (0, 0, 0)), (0, (0, 0, 0), (0, 0, 0)))], some (1, 3, 0), [], [])], [(88, 7, 8)])
abbrev sn_q35 : List se_Nd := []
set_option maxRecDepth 100000 in
theorem sk_q35 : se_chk0 se_tt [] se_Z 37 se_zt sc_q35 sn_q35 6 = true := by decide +kernel
theorem sm_q35 {ty : Nat → Option Nat} {J : List mm_C → Prop} {kx : Nat} {zs : List mm_Zt} (hO : se_Ok ty J kx zs) : se_Met ty se_tt J kx zs sc_q35 := se_sound (C := []) hO.1 hO.2.1 hO.2.2 (fun _ hn => absurd hn List.not_mem_nil) sk_q35 (fun _ hn => absurd hn List.not_mem_nil)
/-- RaftTownModel.day -/
def sc_w35 : se_C := ((269, 1), ([(((91, 0, 0), 0, (0, 0, 0), (0, 0, 0)), (0, (0, 0, 0), (0, 0, 0))), (((0, 0, 20), 0, (0, 0, 0), (0, 0, 0)), (0, (0, 1, 0), (0, 0, 0))), (((0, (-2147483648), (-1)), 0, (0, 0, 0), (0, 0, 0)), (0, (0, 2, 0), (0, 0, 0)))], [some (1, 0, 0), some (1, 1, 0), some (1, 2, 0)], [], []), [([(((0, (-100001), (-100001)), 0, (0, 0, 0), (0, 0, 0)), (0, (0, 0, 0), (0, 0, 0)))], some (1, 3, 0), [], [])], [(89, 3, 4)])
abbrev sn_w35 : List se_Nd := []
set_option maxRecDepth 100000 in
theorem sk_w35 : se_chk0 se_tt [] se_Z 37 se_zt sc_w35 sn_w35 6 = true := by decide +kernel
theorem sm_w35 {ty : Nat → Option Nat} {J : List mm_C → Prop} {kx : Nat} {zs : List mm_Zt} (hO : se_Ok ty J kx zs) : se_Met ty se_tt J kx zs sc_w35 := se_sound (C := []) hO.1 hO.2.1 hO.2.2 (fun _ hn => absurd hn List.not_mem_nil) sk_w35 (fun _ hn => absurd hn List.not_mem_nil)
/-- RaftTown.day -/
def sc_q36 : se_C := ((102, 6), ([(((90, 0, 0), 0, (0, 0, 0), (0, 0, 0)), (0, (0, 0, 0), (0, 0, 0))), (((0, 0, 20), 0, (0, 0, 0), (0, 0, 0)), (0, (0, 1, 0), (0, 0, 0))), (((0, 0, 9), 0, (0, 0, 0), (0, 0, 0)), (0, (0, 2, 0), (0, 0, 0))), (((89, 0, 0), 0, (0, 0, 0), (0, 0, 0)), (1, (1, 0, 0), (0, 0, 0))), (((0, (-2147483648), 2147483647), 0, (0, 0, 0), (0, 0, 0)), (1, (1, 3, 0), (0, 0, 9)))], [some (1, 0, 0), some (1, 1, 0), some (1, 2, 0)], [((1, 0, 0), (0, 0, 0), (1, 3, 0)), ((1, 3, 0), (0, 0, 9), (1, 4, 0))], []), [([(((0, (-2147483648), 2147483647), 0, (0, 0, 0), (0, 0, 0)), (0, (0, 0, 0), (0, 0, 0)))], some (1, 5, 0), [((1, 3, 0), (0, 0, 9), (1, 4, 1))], [])], [(39, 0, 40), (40, 0, 40), (41, 0, 40), (42, 0, 40), (45, 0, 12), (46, 0, 12), (47, 0, 12), (48, 0, 10), (73, 4, 5), (73, 5, 6), (74, 4, 5), (74, 5, 6), (75, 0, 1), (75, 5, 6), (75, 6, 7), (76, 1, 2), (76, 2, 3), (76, 4, 5), (76, 5, 6), (76, 6, 7), (77, 5, 6), (77, 6, 7), (77, 7, 8), (87, 9, 10), (87, 10, 11), (87, 11, 12)])
abbrev sn_q36 : List se_Nd := []
set_option maxRecDepth 100000 in
theorem sk_q36 : se_chk0 se_tt [sc_pd] se_Z 37 se_zt sc_q36 sn_q36 6 = true := by decide +kernel
theorem sm_q36 {ty : Nat → Option Nat} {J : List mm_C → Prop} {kx : Nat} {zs : List mm_Zt} (hO : se_Ok ty J kx zs) (hpd : se_Met ty se_tt J kx zs sc_pd) : se_Met ty se_tt J kx zs sc_q36 := se_sound (C := [sc_pd]) hO.1 hO.2.1 hO.2.2 (fun n hn => by
  rcases List.mem_cons.mp hn with rfl | hn
  · exact hpd
  exact absurd hn List.not_mem_nil) sk_q36 (fun _ hn => absurd hn List.not_mem_nil)
/-- RaftTownModel.day -/
def sc_w36 : se_C := ((269, 7), ([(((91, 0, 0), 0, (0, 0, 0), (0, 0, 0)), (0, (0, 0, 0), (0, 0, 0))), (((0, 0, 20), 0, (0, 0, 0), (0, 0, 0)), (0, (0, 1, 0), (0, 0, 0))), (((0, 0, 9), 0, (0, 0, 0), (0, 0, 0)), (0, (0, 2, 0), (0, 0, 0))), (((58, 0, 0), 0, (0, 0, 0), (0, 0, 0)), (1, (1, 0, 0), (0, 0, 0))), (((0, (-2147483648), 2147483647), 0, (0, 0, 0), (0, 0, 0)), (1, (1, 3, 0), (0, 0, 3)))], [some (1, 0, 0), some (1, 1, 0), some (1, 2, 0)], [((1, 0, 0), (0, 0, 0), (1, 3, 0)), ((1, 3, 0), (0, 0, 3), (1, 4, 0))], []), [([(((0, (-2147483648), 2147483647), 0, (0, 0, 0), (0, 0, 0)), (0, (0, 0, 0), (0, 0, 0)))], some (1, 5, 0), [((1, 3, 0), (0, 0, 3), (1, 4, 1))], [])], [(56, 3, 4), (56, 4, 5), (56, 5, 6), (56, 6, 7), (56, 80, 150), (56, 150, 248), (56, 248, 344), (56, 344, 504), (57, 0, 10)])
abbrev sn_w36 : List se_Nd := []
set_option maxRecDepth 100000 in
theorem sk_w36 : se_chk0 se_tt [sc_ps] se_Z 37 se_zt sc_w36 sn_w36 6 = true := by decide +kernel
theorem sm_w36 {ty : Nat → Option Nat} {J : List mm_C → Prop} {kx : Nat} {zs : List mm_Zt} (hO : se_Ok ty J kx zs) (hps : se_Met ty se_tt J kx zs sc_ps) : se_Met ty se_tt J kx zs sc_w36 := se_sound (C := [sc_ps]) hO.1 hO.2.1 hO.2.2 (fun n hn => by
  rcases List.mem_cons.mp hn with rfl | hn
  · exact hps
  exact absurd hn List.not_mem_nil) sk_w36 (fun _ hn => absurd hn List.not_mem_nil)
/-- RaftTown.day -/
def sc_q37 : se_C := ((102, 1), ([(((90, 0, 0), 0, (0, 0, 0), (0, 0, 0)), (0, (0, 0, 0), (0, 0, 0))), (((0, 0, 20), 0, (0, 0, 0), (0, 0, 0)), (0, (0, 1, 0), (0, 0, 0))), (((0, 10, 2147483647), 0, (0, 0, 0), (0, 0, 0)), (0, (0, 2, 0), (0, 0, 0)))], [some (1, 0, 0), some (1, 1, 0), some (1, 2, 0)], [], []), [([(((0, (-100001), (-100001)), 0, (0, 0, 0), (0, 0, 0)), (0, (0, 0, 0), (0, 0, 0)))], some (1, 3, 0), [], [])], [(88, 7, 8)])
abbrev sn_q37 : List se_Nd := []
set_option maxRecDepth 100000 in
theorem sk_q37 : se_chk0 se_tt [] se_Z 37 se_zt sc_q37 sn_q37 6 = true := by decide +kernel
theorem sm_q37 {ty : Nat → Option Nat} {J : List mm_C → Prop} {kx : Nat} {zs : List mm_Zt} (hO : se_Ok ty J kx zs) : se_Met ty se_tt J kx zs sc_q37 := se_sound (C := []) hO.1 hO.2.1 hO.2.2 (fun _ hn => absurd hn List.not_mem_nil) sk_q37 (fun _ hn => absurd hn List.not_mem_nil)
/-- RaftTownModel.day -/
def sc_w37 : se_C := ((269, 1), ([(((91, 0, 0), 0, (0, 0, 0), (0, 0, 0)), (0, (0, 0, 0), (0, 0, 0))), (((0, 0, 20), 0, (0, 0, 0), (0, 0, 0)), (0, (0, 1, 0), (0, 0, 0))), (((0, 10, 2147483647), 0, (0, 0, 0), (0, 0, 0)), (0, (0, 2, 0), (0, 0, 0)))], [some (1, 0, 0), some (1, 1, 0), some (1, 2, 0)], [], []), [([(((0, (-100001), (-100001)), 0, (0, 0, 0), (0, 0, 0)), (0, (0, 0, 0), (0, 0, 0)))], some (1, 3, 0), [], [])], [(89, 3, 4)])
abbrev sn_w37 : List se_Nd := []
set_option maxRecDepth 100000 in
theorem sk_w37 : se_chk0 se_tt [] se_Z 37 se_zt sc_w37 sn_w37 6 = true := by decide +kernel
theorem sm_w37 {ty : Nat → Option Nat} {J : List mm_C → Prop} {kx : Nat} {zs : List mm_Zt} (hO : se_Ok ty J kx zs) : se_Met ty se_tt J kx zs sc_w37 := se_sound (C := []) hO.1 hO.2.1 hO.2.2 (fun _ hn => absurd hn List.not_mem_nil) sk_w37 (fun _ hn => absurd hn List.not_mem_nil)
/-- RaftTown.day -/
def sc_q38 : se_C := ((102, 1), ([(((90, 0, 0), 0, (0, 0, 0), (0, 0, 0)), (0, (0, 0, 0), (0, 0, 0))), (((0, 21, 2147483647), 0, (0, 0, 0), (0, 0, 0)), (0, (0, 1, 0), (0, 0, 0))), (((0, (-2147483648), 2147483647), 0, (0, 0, 0), (0, 0, 0)), (0, (0, 2, 0), (0, 0, 0)))], [some (1, 0, 0), some (1, 1, 0), some (1, 2, 0)], [], []), [([(((0, (-100001), (-100001)), 0, (0, 0, 0), (0, 0, 0)), (0, (0, 0, 0), (0, 0, 0)))], some (1, 3, 0), [], [])], [(88, 7, 8)])
abbrev sn_q38 : List se_Nd := []
set_option maxRecDepth 100000 in
theorem sk_q38 : se_chk0 se_tt [] se_Z 37 se_zt sc_q38 sn_q38 5 = true := by decide +kernel
theorem sm_q38 {ty : Nat → Option Nat} {J : List mm_C → Prop} {kx : Nat} {zs : List mm_Zt} (hO : se_Ok ty J kx zs) : se_Met ty se_tt J kx zs sc_q38 := se_sound (C := []) hO.1 hO.2.1 hO.2.2 (fun _ hn => absurd hn List.not_mem_nil) sk_q38 (fun _ hn => absurd hn List.not_mem_nil)
/-- RaftTownModel.day -/
def sc_w38 : se_C := ((269, 1), ([(((91, 0, 0), 0, (0, 0, 0), (0, 0, 0)), (0, (0, 0, 0), (0, 0, 0))), (((0, 21, 2147483647), 0, (0, 0, 0), (0, 0, 0)), (0, (0, 1, 0), (0, 0, 0))), (((0, (-2147483648), 2147483647), 0, (0, 0, 0), (0, 0, 0)), (0, (0, 2, 0), (0, 0, 0)))], [some (1, 0, 0), some (1, 1, 0), some (1, 2, 0)], [], []), [([(((0, (-100001), (-100001)), 0, (0, 0, 0), (0, 0, 0)), (0, (0, 0, 0), (0, 0, 0)))], some (1, 3, 0), [], [])], [(89, 3, 4)])
abbrev sn_w38 : List se_Nd := []
set_option maxRecDepth 100000 in
theorem sk_w38 : se_chk0 se_tt [] se_Z 37 se_zt sc_w38 sn_w38 5 = true := by decide +kernel
theorem sm_w38 {ty : Nat → Option Nat} {J : List mm_C → Prop} {kx : Nat} {zs : List mm_Zt} (hO : se_Ok ty J kx zs) : se_Met ty se_tt J kx zs sc_w38 := se_sound (C := []) hO.1 hO.2.1 hO.2.2 (fun _ hn => absurd hn List.not_mem_nil) sk_w38 (fun _ hn => absurd hn List.not_mem_nil)
/-- RaftTown.days -/
def sc_q39 : se_C := ((121, 1), ([(((90, 0, 0), 0, (0, 0, 0), (0, 0, 0)), (0, (0, 0, 0), (0, 0, 0))), (((0, (-2147483648), 0), 0, (0, 0, 0), (0, 0, 0)), (0, (0, 1, 0), (0, 0, 0))), (((0, (-2147483648), 2147483647), 0, (0, 0, 0), (0, 0, 0)), (0, (0, 2, 0), (0, 0, 0)))], [some (1, 0, 0), some (1, 1, 0), some (1, 2, 0)], [], []), [([(((0, (-100001), (-100001)), 0, (0, 0, 0), (0, 0, 0)), (0, (0, 0, 0), (0, 0, 0)))], some (1, 3, 0), [], [])], [(88, 7, 8)])
abbrev sn_q39 : List se_Nd := []
set_option maxRecDepth 100000 in
theorem sk_q39 : se_chk0 se_tt [] se_Z 37 se_zt sc_q39 sn_q39 5 = true := by decide +kernel
theorem sm_q39 {ty : Nat → Option Nat} {J : List mm_C → Prop} {kx : Nat} {zs : List mm_Zt} (hO : se_Ok ty J kx zs) : se_Met ty se_tt J kx zs sc_q39 := se_sound (C := []) hO.1 hO.2.1 hO.2.2 (fun _ hn => absurd hn List.not_mem_nil) sk_q39 (fun _ hn => absurd hn List.not_mem_nil)
/-- RaftTownModel.days -/
def sc_w39 : se_C := ((281, 1), ([(((91, 0, 0), 0, (0, 0, 0), (0, 0, 0)), (0, (0, 0, 0), (0, 0, 0))), (((0, (-2147483648), 0), 0, (0, 0, 0), (0, 0, 0)), (0, (0, 1, 0), (0, 0, 0))), (((0, (-2147483648), 2147483647), 0, (0, 0, 0), (0, 0, 0)), (0, (0, 2, 0), (0, 0, 0)))], [some (1, 0, 0), some (1, 1, 0), some (1, 2, 0)], [], []), [([(((0, (-100001), (-100001)), 0, (0, 0, 0), (0, 0, 0)), (0, (0, 0, 0), (0, 0, 0)))], some (1, 3, 0), [], [])], [(89, 3, 4)])
abbrev sn_w39 : List se_Nd := []
set_option maxRecDepth 100000 in
theorem sk_w39 : se_chk0 se_tt [] se_Z 37 se_zt sc_w39 sn_w39 5 = true := by decide +kernel
theorem sm_w39 {ty : Nat → Option Nat} {J : List mm_C → Prop} {kx : Nat} {zs : List mm_Zt} (hO : se_Ok ty J kx zs) : se_Met ty se_tt J kx zs sc_w39 := se_sound (C := []) hO.1 hO.2.1 hO.2.2 (fun _ hn => absurd hn List.not_mem_nil) sk_w39 (fun _ hn => absurd hn List.not_mem_nil)
/-- RaftTown.days -/
def sc_q40 : se_C := ((121, 1), ([(((90, 0, 0), 0, (0, 0, 0), (0, 0, 0)), (0, (0, 0, 0), (0, 0, 0))), (((0, 1, 30), 0, (0, 0, 0), (0, 0, 0)), (0, (0, 1, 0), (0, 0, 0))), (((0, (-2147483648), (-1)), 0, (0, 0, 0), (0, 0, 0)), (0, (0, 2, 0), (0, 0, 0)))], [some (1, 0, 0), some (1, 1, 0), some (1, 2, 0)], [], []), [([(((0, (-100001), (-100001)), 0, (0, 0, 0), (0, 0, 0)), (0, (0, 0, 0), (0, 0, 0)))], some (1, 3, 0), [], [])], [(88, 7, 8)])
abbrev sn_q40 : List se_Nd := []
set_option maxRecDepth 100000 in
theorem sk_q40 : se_chk0 se_tt [] se_Z 37 se_zt sc_q40 sn_q40 6 = true := by decide +kernel
theorem sm_q40 {ty : Nat → Option Nat} {J : List mm_C → Prop} {kx : Nat} {zs : List mm_Zt} (hO : se_Ok ty J kx zs) : se_Met ty se_tt J kx zs sc_q40 := se_sound (C := []) hO.1 hO.2.1 hO.2.2 (fun _ hn => absurd hn List.not_mem_nil) sk_q40 (fun _ hn => absurd hn List.not_mem_nil)
/-- RaftTownModel.days -/
def sc_w40 : se_C := ((281, 1), ([(((91, 0, 0), 0, (0, 0, 0), (0, 0, 0)), (0, (0, 0, 0), (0, 0, 0))), (((0, 1, 30), 0, (0, 0, 0), (0, 0, 0)), (0, (0, 1, 0), (0, 0, 0))), (((0, (-2147483648), (-1)), 0, (0, 0, 0), (0, 0, 0)), (0, (0, 2, 0), (0, 0, 0)))], [some (1, 0, 0), some (1, 1, 0), some (1, 2, 0)], [], []), [([(((0, (-100001), (-100001)), 0, (0, 0, 0), (0, 0, 0)), (0, (0, 0, 0), (0, 0, 0)))], some (1, 3, 0), [], [])], [(89, 3, 4)])
abbrev sn_w40 : List se_Nd := []
set_option maxRecDepth 100000 in
theorem sk_w40 : se_chk0 se_tt [] se_Z 37 se_zt sc_w40 sn_w40 6 = true := by decide +kernel
theorem sm_w40 {ty : Nat → Option Nat} {J : List mm_C → Prop} {kx : Nat} {zs : List mm_Zt} (hO : se_Ok ty J kx zs) : se_Met ty se_tt J kx zs sc_w40 := se_sound (C := []) hO.1 hO.2.1 hO.2.2 (fun _ hn => absurd hn List.not_mem_nil) sk_w40 (fun _ hn => absurd hn List.not_mem_nil)
/-- RaftTown.days -/
def sc_q41 : se_C := ((121, 1), ([(((90, 0, 0), 0, (0, 0, 0), (0, 0, 0)), (0, (0, 0, 0), (0, 0, 0))), (((0, 1, 30), 0, (0, 0, 0), (0, 0, 0)), (0, (0, 1, 0), (0, 0, 0))), (((0, 0, 0), 0, (0, 0, 0), (0, 0, 0)), (0, (0, 2, 0), (0, 0, 0))), (((88, 0, 0), 0, (0, 0, 0), (0, 0, 0)), (1, (1, 0, 0), (0, 0, 3))), (((81, 0, 0), 0, (0, 0, 0), (0, 0, 0)), (1, (1, 3, 0), (1, 2, 0))), (((0, 0, 0), 0, (0, 0, 0), (0, 0, 0)), (1, (1, 4, 0), (0, 0, 0)))], [some (1, 0, 0), some (1, 1, 0), some (1, 2, 0)], [((1, 0, 0), (0, 0, 3), (1, 3, 0)), ((1, 3, 0), (1, 2, 0), (1, 4, 0)), ((1, 4, 0), (0, 0, 0), (1, 5, 0))], []), [([(((0, (-100002), (-100002)), 0, (0, 0, 0), (0, 0, 0)), (0, (0, 0, 0), (0, 0, 0)))], some (1, 6, 0), [], [])], [(88, 7, 8)])
abbrev sn_q41 : List se_Nd := []
set_option maxRecDepth 100000 in
theorem sk_q41 : se_chk0 se_tt [] se_Z 37 se_zt sc_q41 sn_q41 6 = true := by decide +kernel
theorem sm_q41 {ty : Nat → Option Nat} {J : List mm_C → Prop} {kx : Nat} {zs : List mm_Zt} (hO : se_Ok ty J kx zs) : se_Met ty se_tt J kx zs sc_q41 := se_sound (C := []) hO.1 hO.2.1 hO.2.2 (fun _ hn => absurd hn List.not_mem_nil) sk_q41 (fun _ hn => absurd hn List.not_mem_nil)
/-- RaftTownModel.days -/
def sc_w41 : se_C := ((281, 1), ([(((91, 0, 0), 0, (0, 0, 0), (0, 0, 0)), (0, (0, 0, 0), (0, 0, 0))), (((0, 1, 30), 0, (0, 0, 0), (0, 0, 0)), (0, (0, 1, 0), (0, 0, 0))), (((0, 0, 0), 0, (0, 0, 0), (0, 0, 0)), (0, (0, 2, 0), (0, 0, 0))), (((70, 0, 0), 0, (0, 0, 0), (0, 0, 0)), (1, (1, 0, 0), (0, 0, 22))), (((0, 0, 0), 0, (0, 0, 0), (0, 0, 0)), (1, (1, 3, 0), (1, 2, 0)))], [some (1, 0, 0), some (1, 1, 0), some (1, 2, 0)], [((1, 0, 0), (0, 0, 22), (1, 3, 0)), ((1, 3, 0), (1, 2, 0), (1, 4, 0))], []), [([(((0, (-100002), (-100002)), 0, (0, 0, 0), (0, 0, 0)), (0, (0, 0, 0), (0, 0, 0)))], some (1, 5, 0), [], [])], [(89, 3, 4)])
abbrev sn_w41 : List se_Nd := []
set_option maxRecDepth 100000 in
theorem sk_w41 : se_chk0 se_tt [] se_Z 37 se_zt sc_w41 sn_w41 6 = true := by decide +kernel
theorem sm_w41 {ty : Nat → Option Nat} {J : List mm_C → Prop} {kx : Nat} {zs : List mm_Zt} (hO : se_Ok ty J kx zs) : se_Met ty se_tt J kx zs sc_w41 := se_sound (C := []) hO.1 hO.2.1 hO.2.2 (fun _ hn => absurd hn List.not_mem_nil) sk_w41 (fun _ hn => absurd hn List.not_mem_nil)
/-- RaftTown.days -/
def sc_q42 : se_C := ((121, 6), ([(((90, 0, 0), 0, (0, 0, 0), (0, 0, 0)), (0, (0, 0, 0), (0, 0, 0))), (((0, 1, 30), 0, (0, 0, 0), (0, 0, 0)), (0, (0, 1, 0), (0, 0, 0))), (((0, 0, 0), 0, (0, 0, 0), (0, 0, 0)), (0, (0, 2, 0), (0, 0, 0))), (((88, 0, 0), 0, (0, 0, 0), (0, 0, 0)), (1, (1, 0, 0), (0, 0, 3))), (((81, 0, 0), 0, (0, 0, 0), (0, 0, 0)), (1, (1, 3, 0), (1, 2, 0))), (((0, 1, 32), 0, (0, 0, 0), (0, 0, 0)), (1, (1, 4, 0), (0, 0, 0))), (((89, 0, 0), 0, (0, 0, 0), (0, 0, 0)), (1, (1, 0, 0), (0, 0, 0))), (((0, (-2147483648), 2147483647), 0, (0, 0, 0), (0, 0, 0)), (1, (1, 6, 0), (0, 0, 9)))], [some (1, 0, 0), some (1, 1, 0), some (1, 2, 0)], [((1, 0, 0), (0, 0, 3), (1, 3, 0)), ((1, 3, 0), (1, 2, 0), (1, 4, 0)), ((1, 4, 0), (0, 0, 0), (1, 5, 0)), ((1, 0, 0), (0, 0, 0), (1, 6, 0)), ((1, 6, 0), (0, 0, 9), (1, 7, 0))], []), [([(((0, (-2147483648), 2147483647), 0, (0, 0, 0), (0, 0, 0)), (0, (0, 0, 0), (0, 0, 0))), (((0, (-2147483648), 2147483647), 0, (0, 0, 0), (0, 0, 0)), (1, (1, 6, 0), (0, 0, 9))), (((0, (-2147483648), 2147483647), 2, (1, 9, 0), (1, 7, 0)), (2, (0, 0, 0), (0, 0, 0)))], some (1, 8, 0), [((1, 6, 0), (0, 0, 9), (1, 9, 0))], [(.le, (1, 10, 0), (1, 1, 0)), (.ge, (1, 10, 0), (1, 1, 0))])], [(39, 0, 40), (40, 0, 40), (41, 0, 40), (42, 0, 40), (45, 0, 12), (46, 0, 12), (47, 0, 12), (48, 0, 10), (73, 4, 5), (73, 5, 6), (74, 4, 5), (74, 5, 6), (75, 0, 1), (75, 5, 6), (75, 6, 7), (76, 1, 2), (76, 2, 3), (76, 4, 5), (76, 5, 6), (76, 6, 7), (77, 5, 6), (77, 6, 7), (77, 7, 8), (87, 9, 10), (87, 10, 11), (87, 11, 12)])
def sn_q42_0 : se_Nd := (57, ([(((90, 0, 0), 0, (0, 0, 0), (0, 0, 0)), (3, (0, 0, 0), (0, 0, 0))), (((0, 1, 30), 0, (0, 0, 0), (0, 0, 0)), (3, (0, 1, 0), (0, 0, 0))), (((0, 0, 0), 0, (0, 0, 0), (0, 0, 0)), (3, (0, 2, 0), (0, 0, 0))), (((88, 0, 0), 0, (0, 0, 0), (0, 0, 0)), (3, (0, 3, 0), (0, 0, 0))), (((81, 0, 0), 0, (0, 0, 0), (0, 0, 0)), (3, (0, 4, 0), (0, 0, 0))), (((0, 1, 32), 0, (0, 0, 0), (0, 0, 0)), (3, (0, 5, 0), (0, 0, 0))), (((89, 0, 0), 0, (0, 0, 0), (0, 0, 0)), (3, (0, 6, 0), (0, 0, 0))), (((0, (-2147483648), 2147483647), 0, (0, 0, 0), (0, 0, 0)), (3, (0, 7, 0), (0, 0, 0))), (((0, 0, 20), 0, (0, 0, 0), (0, 0, 0)), (0, (0, 4, 0), (0, 0, 0))), (((0, 0, 9), 0, (0, 0, 0), (0, 0, 0)), (0, (0, 5, 0), (0, 0, 0))), (((0, (-2147483648), 2147483647), 0, (0, 0, 0), (0, 0, 0)), (0, (0, 6, 0), (0, 0, 0))), (((0, 0, 30), 0, (0, 0, 0), (0, 0, 0)), (0, (0, 7, 0), (0, 0, 0))), (((0, (-2147483648), 2147483647), 1, (1, 7, 0), (1, 11, 0)), (2, (0, 0, 0), (0, 0, 0)))], [some (1, 0, 0), some (1, 1, 0), some (1, 2, 0), some (1, 4, 0), some (1, 8, 0), some (1, 9, 0), some (1, 10, 0), some (1, 11, 0), none, none], [((1, 6, 0), (0, 0, 9), (1, 12, 0)), ((1, 0, 0), (0, 0, 0), (1, 6, 0))], [(.le, (1, 11, 0), (1, 1, 0))]), [(0, 0, 0), ((-1), 11, 0), (0, 0, 0)])
abbrev sn_q42 : List se_Nd := [sn_q42_0]
set_option maxRecDepth 100000 in
theorem sk_q42 : se_chk0 se_tt [sc_pd] se_Z 37 se_zt sc_q42 sn_q42 7 = true := by decide +kernel
set_option maxRecDepth 100000 in
theorem sk_q42_0 : se_chkn se_tt [sc_pd] se_Z 37 se_zt sc_q42 sn_q42 7 sn_q42_0 = true := by decide +kernel
theorem sm_q42 {ty : Nat → Option Nat} {J : List mm_C → Prop} {kx : Nat} {zs : List mm_Zt} (hO : se_Ok ty J kx zs) (hpd : se_Met ty se_tt J kx zs sc_pd) : se_Met ty se_tt J kx zs sc_q42 := se_sound (C := [sc_pd]) hO.1 hO.2.1 hO.2.2 (fun n hn => by
  rcases List.mem_cons.mp hn with rfl | hn
  · exact hpd
  exact absurd hn List.not_mem_nil) sk_q42 (fun n hn => by
  rcases List.mem_cons.mp hn with rfl | hn
  · exact sk_q42_0
  exact absurd hn List.not_mem_nil)
/-- RaftTownModel.days -/
def sc_w42 : se_C := ((281, 7), ([(((91, 0, 0), 0, (0, 0, 0), (0, 0, 0)), (0, (0, 0, 0), (0, 0, 0))), (((0, 1, 30), 0, (0, 0, 0), (0, 0, 0)), (0, (0, 1, 0), (0, 0, 0))), (((0, 0, 0), 0, (0, 0, 0), (0, 0, 0)), (0, (0, 2, 0), (0, 0, 0))), (((70, 0, 0), 0, (0, 0, 0), (0, 0, 0)), (1, (1, 0, 0), (0, 0, 22))), (((0, 1, 32), 0, (0, 0, 0), (0, 0, 0)), (1, (1, 3, 0), (1, 2, 0))), (((58, 0, 0), 0, (0, 0, 0), (0, 0, 0)), (1, (1, 0, 0), (0, 0, 0))), (((0, (-2147483648), 2147483647), 0, (0, 0, 0), (0, 0, 0)), (1, (1, 5, 0), (0, 0, 3)))], [some (1, 0, 0), some (1, 1, 0), some (1, 2, 0)], [((1, 0, 0), (0, 0, 22), (1, 3, 0)), ((1, 3, 0), (1, 2, 0), (1, 4, 0)), ((1, 0, 0), (0, 0, 0), (1, 5, 0)), ((1, 5, 0), (0, 0, 3), (1, 6, 0))], []), [([(((0, (-2147483648), 2147483647), 0, (0, 0, 0), (0, 0, 0)), (0, (0, 0, 0), (0, 0, 0))), (((0, (-2147483648), 2147483647), 0, (0, 0, 0), (0, 0, 0)), (1, (1, 5, 0), (0, 0, 3))), (((0, (-2147483648), 2147483647), 2, (1, 8, 0), (1, 6, 0)), (2, (0, 0, 0), (0, 0, 0)))], some (1, 7, 0), [((1, 5, 0), (0, 0, 3), (1, 8, 0))], [(.le, (1, 9, 0), (1, 1, 0)), (.ge, (1, 9, 0), (1, 1, 0))])], [(56, 3, 4), (56, 4, 5), (56, 5, 6), (56, 6, 7), (56, 80, 150), (56, 150, 248), (56, 248, 344), (56, 344, 504), (57, 0, 10)])
def sn_w42_0 : se_Nd := (51, ([(((91, 0, 0), 0, (0, 0, 0), (0, 0, 0)), (3, (0, 0, 0), (0, 0, 0))), (((0, 1, 30), 0, (0, 0, 0), (0, 0, 0)), (3, (0, 1, 0), (0, 0, 0))), (((0, 0, 0), 0, (0, 0, 0), (0, 0, 0)), (3, (0, 2, 0), (0, 0, 0))), (((70, 0, 0), 0, (0, 0, 0), (0, 0, 0)), (3, (0, 3, 0), (0, 0, 0))), (((0, 1, 32), 0, (0, 0, 0), (0, 0, 0)), (3, (0, 4, 0), (0, 0, 0))), (((58, 0, 0), 0, (0, 0, 0), (0, 0, 0)), (3, (0, 5, 0), (0, 0, 0))), (((0, (-2147483648), 2147483647), 0, (0, 0, 0), (0, 0, 0)), (3, (0, 6, 0), (0, 0, 0))), (((0, 0, 20), 0, (0, 0, 0), (0, 0, 0)), (0, (0, 3, 0), (0, 0, 0))), (((0, 0, 9), 0, (0, 0, 0), (0, 0, 0)), (0, (0, 4, 0), (0, 0, 0))), (((0, (-2147483648), 2147483647), 0, (0, 0, 0), (0, 0, 0)), (0, (0, 5, 0), (0, 0, 0))), (((0, 0, 30), 0, (0, 0, 0), (0, 0, 0)), (0, (0, 6, 0), (0, 0, 0))), (((0, (-2147483648), 2147483647), 1, (1, 6, 0), (1, 10, 0)), (2, (0, 0, 0), (0, 0, 0)))], [some (1, 0, 0), some (1, 1, 0), some (1, 2, 0), some (1, 7, 0), some (1, 8, 0), some (1, 9, 0), some (1, 10, 0), none], [((1, 5, 0), (0, 0, 3), (1, 11, 0)), ((1, 0, 0), (0, 0, 0), (1, 5, 0))], [(.le, (1, 10, 0), (1, 1, 0))]), [(0, 0, 0), ((-1), 10, 0), (0, 0, 0)])
abbrev sn_w42 : List se_Nd := [sn_w42_0]
set_option maxRecDepth 100000 in
theorem sk_w42 : se_chk0 se_tt [sc_ps] se_Z 37 se_zt sc_w42 sn_w42 7 = true := by decide +kernel
set_option maxRecDepth 100000 in
theorem sk_w42_0 : se_chkn se_tt [sc_ps] se_Z 37 se_zt sc_w42 sn_w42 7 sn_w42_0 = true := by decide +kernel
theorem sm_w42 {ty : Nat → Option Nat} {J : List mm_C → Prop} {kx : Nat} {zs : List mm_Zt} (hO : se_Ok ty J kx zs) (hps : se_Met ty se_tt J kx zs sc_ps) : se_Met ty se_tt J kx zs sc_w42 := se_sound (C := [sc_ps]) hO.1 hO.2.1 hO.2.2 (fun n hn => by
  rcases List.mem_cons.mp hn with rfl | hn
  · exact hps
  exact absurd hn List.not_mem_nil) sk_w42 (fun n hn => by
  rcases List.mem_cons.mp hn with rfl | hn
  · exact sk_w42_0
  exact absurd hn List.not_mem_nil)
/-- RaftTown.days -/
def sc_q43 : se_C := ((121, 1), ([(((90, 0, 0), 0, (0, 0, 0), (0, 0, 0)), (0, (0, 0, 0), (0, 0, 0))), (((0, 1, 30), 0, (0, 0, 0), (0, 0, 0)), (0, (0, 1, 0), (0, 0, 0))), (((0, 1, 1), 0, (0, 0, 0), (0, 0, 0)), (0, (0, 2, 0), (0, 0, 0))), (((88, 0, 0), 0, (0, 0, 0), (0, 0, 0)), (1, (1, 0, 0), (0, 0, 3))), (((121, 0, 0), 0, (0, 0, 0), (0, 0, 0)), (1, (1, 3, 0), (1, 2, 0))), (((0, 0, 0), 0, (0, 0, 0), (0, 0, 0)), (1, (1, 4, 0), (0, 0, 0)))], [some (1, 0, 0), some (1, 1, 0), some (1, 2, 0)], [((1, 0, 0), (0, 0, 3), (1, 3, 0)), ((1, 3, 0), (1, 2, 0), (1, 4, 0)), ((1, 4, 0), (0, 0, 0), (1, 5, 0))], []), [([(((0, (-100002), (-100002)), 0, (0, 0, 0), (0, 0, 0)), (0, (0, 0, 0), (0, 0, 0)))], some (1, 6, 0), [], [])], [(88, 7, 8)])
abbrev sn_q43 : List se_Nd := []
set_option maxRecDepth 100000 in
theorem sk_q43 : se_chk0 se_tt [] se_Z 37 se_zt sc_q43 sn_q43 6 = true := by decide +kernel
theorem sm_q43 {ty : Nat → Option Nat} {J : List mm_C → Prop} {kx : Nat} {zs : List mm_Zt} (hO : se_Ok ty J kx zs) : se_Met ty se_tt J kx zs sc_q43 := se_sound (C := []) hO.1 hO.2.1 hO.2.2 (fun _ hn => absurd hn List.not_mem_nil) sk_q43 (fun _ hn => absurd hn List.not_mem_nil)
/-- RaftTownModel.days -/
def sc_w43 : se_C := ((281, 1), ([(((91, 0, 0), 0, (0, 0, 0), (0, 0, 0)), (0, (0, 0, 0), (0, 0, 0))), (((0, 1, 30), 0, (0, 0, 0), (0, 0, 0)), (0, (0, 1, 0), (0, 0, 0))), (((0, 1, 1), 0, (0, 0, 0), (0, 0, 0)), (0, (0, 2, 0), (0, 0, 0))), (((70, 0, 0), 0, (0, 0, 0), (0, 0, 0)), (1, (1, 0, 0), (0, 0, 22))), (((0, 0, 0), 0, (0, 0, 0), (0, 0, 0)), (1, (1, 3, 0), (1, 2, 0)))], [some (1, 0, 0), some (1, 1, 0), some (1, 2, 0)], [((1, 0, 0), (0, 0, 22), (1, 3, 0)), ((1, 3, 0), (1, 2, 0), (1, 4, 0))], []), [([(((0, (-100002), (-100002)), 0, (0, 0, 0), (0, 0, 0)), (0, (0, 0, 0), (0, 0, 0)))], some (1, 5, 0), [], [])], [(89, 3, 4)])
abbrev sn_w43 : List se_Nd := []
set_option maxRecDepth 100000 in
theorem sk_w43 : se_chk0 se_tt [] se_Z 37 se_zt sc_w43 sn_w43 6 = true := by decide +kernel
theorem sm_w43 {ty : Nat → Option Nat} {J : List mm_C → Prop} {kx : Nat} {zs : List mm_Zt} (hO : se_Ok ty J kx zs) : se_Met ty se_tt J kx zs sc_w43 := se_sound (C := []) hO.1 hO.2.1 hO.2.2 (fun _ hn => absurd hn List.not_mem_nil) sk_w43 (fun _ hn => absurd hn List.not_mem_nil)
/-- RaftTown.days -/
def sc_q44 : se_C := ((121, 6), ([(((90, 0, 0), 0, (0, 0, 0), (0, 0, 0)), (0, (0, 0, 0), (0, 0, 0))), (((0, 1, 30), 0, (0, 0, 0), (0, 0, 0)), (0, (0, 1, 0), (0, 0, 0))), (((0, 1, 1), 0, (0, 0, 0), (0, 0, 0)), (0, (0, 2, 0), (0, 0, 0))), (((88, 0, 0), 0, (0, 0, 0), (0, 0, 0)), (1, (1, 0, 0), (0, 0, 3))), (((121, 0, 0), 0, (0, 0, 0), (0, 0, 0)), (1, (1, 3, 0), (1, 2, 0))), (((0, 1, 32), 0, (0, 0, 0), (0, 0, 0)), (1, (1, 4, 0), (0, 0, 0))), (((89, 0, 0), 0, (0, 0, 0), (0, 0, 0)), (1, (1, 0, 0), (0, 0, 0))), (((0, (-2147483648), 2147483647), 0, (0, 0, 0), (0, 0, 0)), (1, (1, 6, 0), (0, 0, 9)))], [some (1, 0, 0), some (1, 1, 0), some (1, 2, 0)], [((1, 0, 0), (0, 0, 3), (1, 3, 0)), ((1, 3, 0), (1, 2, 0), (1, 4, 0)), ((1, 4, 0), (0, 0, 0), (1, 5, 0)), ((1, 0, 0), (0, 0, 0), (1, 6, 0)), ((1, 6, 0), (0, 0, 9), (1, 7, 0))], []), [([(((0, (-2147483648), 2147483647), 0, (0, 0, 0), (0, 0, 0)), (0, (0, 0, 0), (0, 0, 0))), (((0, (-2147483648), 2147483647), 0, (0, 0, 0), (0, 0, 0)), (1, (1, 6, 0), (0, 0, 9))), (((0, (-2147483648), 2147483647), 2, (1, 9, 0), (1, 7, 0)), (2, (0, 0, 0), (0, 0, 0)))], some (1, 8, 0), [((1, 6, 0), (0, 0, 9), (1, 9, 0))], [(.le, (1, 10, 0), (1, 1, 0)), (.ge, (1, 10, 0), (1, 1, 0))])], [(39, 0, 40), (40, 0, 40), (41, 0, 40), (42, 0, 40), (45, 0, 12), (46, 0, 12), (47, 0, 12), (48, 0, 10), (73, 4, 5), (73, 5, 6), (74, 4, 5), (74, 5, 6), (75, 0, 1), (75, 5, 6), (75, 6, 7), (76, 1, 2), (76, 2, 3), (76, 4, 5), (76, 5, 6), (76, 6, 7), (77, 5, 6), (77, 6, 7), (77, 7, 8), (87, 9, 10), (87, 10, 11), (87, 11, 12)])
def sn_q44_0 : se_Nd := (57, ([(((90, 0, 0), 0, (0, 0, 0), (0, 0, 0)), (3, (0, 0, 0), (0, 0, 0))), (((0, 1, 30), 0, (0, 0, 0), (0, 0, 0)), (3, (0, 1, 0), (0, 0, 0))), (((0, 1, 1), 0, (0, 0, 0), (0, 0, 0)), (3, (0, 2, 0), (0, 0, 0))), (((88, 0, 0), 0, (0, 0, 0), (0, 0, 0)), (3, (0, 3, 0), (0, 0, 0))), (((121, 0, 0), 0, (0, 0, 0), (0, 0, 0)), (3, (0, 4, 0), (0, 0, 0))), (((0, 1, 32), 0, (0, 0, 0), (0, 0, 0)), (3, (0, 5, 0), (0, 0, 0))), (((89, 0, 0), 0, (0, 0, 0), (0, 0, 0)), (3, (0, 6, 0), (0, 0, 0))), (((0, (-2147483648), 2147483647), 0, (0, 0, 0), (0, 0, 0)), (3, (0, 7, 0), (0, 0, 0))), (((0, 0, 20), 0, (0, 0, 0), (0, 0, 0)), (0, (0, 4, 0), (0, 0, 0))), (((0, 0, 9), 0, (0, 0, 0), (0, 0, 0)), (0, (0, 5, 0), (0, 0, 0))), (((0, (-2147483648), 2147483647), 0, (0, 0, 0), (0, 0, 0)), (0, (0, 6, 0), (0, 0, 0))), (((0, 0, 30), 0, (0, 0, 0), (0, 0, 0)), (0, (0, 7, 0), (0, 0, 0))), (((0, (-2147483648), 2147483647), 1, (1, 7, 0), (1, 11, 0)), (2, (0, 0, 0), (0, 0, 0)))], [some (1, 0, 0), some (1, 1, 0), some (1, 2, 0), some (1, 4, 0), some (1, 8, 0), some (1, 9, 0), some (1, 10, 0), some (1, 11, 0), none, none], [((1, 6, 0), (0, 0, 9), (1, 12, 0)), ((1, 0, 0), (0, 0, 0), (1, 6, 0))], [(.le, (1, 11, 0), (1, 1, 0))]), [(0, 0, 0), ((-1), 11, 0), (0, 0, 0)])
abbrev sn_q44 : List se_Nd := [sn_q44_0]
set_option maxRecDepth 100000 in
theorem sk_q44 : se_chk0 se_tt [sc_pd] se_Z 37 se_zt sc_q44 sn_q44 7 = true := by decide +kernel
set_option maxRecDepth 100000 in
theorem sk_q44_0 : se_chkn se_tt [sc_pd] se_Z 37 se_zt sc_q44 sn_q44 7 sn_q44_0 = true := by decide +kernel
theorem sm_q44 {ty : Nat → Option Nat} {J : List mm_C → Prop} {kx : Nat} {zs : List mm_Zt} (hO : se_Ok ty J kx zs) (hpd : se_Met ty se_tt J kx zs sc_pd) : se_Met ty se_tt J kx zs sc_q44 := se_sound (C := [sc_pd]) hO.1 hO.2.1 hO.2.2 (fun n hn => by
  rcases List.mem_cons.mp hn with rfl | hn
  · exact hpd
  exact absurd hn List.not_mem_nil) sk_q44 (fun n hn => by
  rcases List.mem_cons.mp hn with rfl | hn
  · exact sk_q44_0
  exact absurd hn List.not_mem_nil)
/-- RaftTownModel.days -/
def sc_w44 : se_C := ((281, 7), ([(((91, 0, 0), 0, (0, 0, 0), (0, 0, 0)), (0, (0, 0, 0), (0, 0, 0))), (((0, 1, 30), 0, (0, 0, 0), (0, 0, 0)), (0, (0, 1, 0), (0, 0, 0))), (((0, 1, 1), 0, (0, 0, 0), (0, 0, 0)), (0, (0, 2, 0), (0, 0, 0))), (((70, 0, 0), 0, (0, 0, 0), (0, 0, 0)), (1, (1, 0, 0), (0, 0, 22))), (((0, 1, 32), 0, (0, 0, 0), (0, 0, 0)), (1, (1, 3, 0), (1, 2, 0))), (((58, 0, 0), 0, (0, 0, 0), (0, 0, 0)), (1, (1, 0, 0), (0, 0, 0))), (((0, (-2147483648), 2147483647), 0, (0, 0, 0), (0, 0, 0)), (1, (1, 5, 0), (0, 0, 3)))], [some (1, 0, 0), some (1, 1, 0), some (1, 2, 0)], [((1, 0, 0), (0, 0, 22), (1, 3, 0)), ((1, 3, 0), (1, 2, 0), (1, 4, 0)), ((1, 0, 0), (0, 0, 0), (1, 5, 0)), ((1, 5, 0), (0, 0, 3), (1, 6, 0))], []), [([(((0, (-2147483648), 2147483647), 0, (0, 0, 0), (0, 0, 0)), (0, (0, 0, 0), (0, 0, 0))), (((0, (-2147483648), 2147483647), 0, (0, 0, 0), (0, 0, 0)), (1, (1, 5, 0), (0, 0, 3))), (((0, (-2147483648), 2147483647), 2, (1, 8, 0), (1, 6, 0)), (2, (0, 0, 0), (0, 0, 0)))], some (1, 7, 0), [((1, 5, 0), (0, 0, 3), (1, 8, 0))], [(.le, (1, 9, 0), (1, 1, 0)), (.ge, (1, 9, 0), (1, 1, 0))])], [(56, 3, 4), (56, 4, 5), (56, 5, 6), (56, 6, 7), (56, 80, 150), (56, 150, 248), (56, 248, 344), (56, 344, 504), (57, 0, 10)])
def sn_w44_0 : se_Nd := (51, ([(((91, 0, 0), 0, (0, 0, 0), (0, 0, 0)), (3, (0, 0, 0), (0, 0, 0))), (((0, 1, 30), 0, (0, 0, 0), (0, 0, 0)), (3, (0, 1, 0), (0, 0, 0))), (((0, 1, 1), 0, (0, 0, 0), (0, 0, 0)), (3, (0, 2, 0), (0, 0, 0))), (((70, 0, 0), 0, (0, 0, 0), (0, 0, 0)), (3, (0, 3, 0), (0, 0, 0))), (((0, 1, 32), 0, (0, 0, 0), (0, 0, 0)), (3, (0, 4, 0), (0, 0, 0))), (((58, 0, 0), 0, (0, 0, 0), (0, 0, 0)), (3, (0, 5, 0), (0, 0, 0))), (((0, (-2147483648), 2147483647), 0, (0, 0, 0), (0, 0, 0)), (3, (0, 6, 0), (0, 0, 0))), (((0, 0, 20), 0, (0, 0, 0), (0, 0, 0)), (0, (0, 3, 0), (0, 0, 0))), (((0, 0, 9), 0, (0, 0, 0), (0, 0, 0)), (0, (0, 4, 0), (0, 0, 0))), (((0, (-2147483648), 2147483647), 0, (0, 0, 0), (0, 0, 0)), (0, (0, 5, 0), (0, 0, 0))), (((0, 0, 30), 0, (0, 0, 0), (0, 0, 0)), (0, (0, 6, 0), (0, 0, 0))), (((0, (-2147483648), 2147483647), 1, (1, 6, 0), (1, 10, 0)), (2, (0, 0, 0), (0, 0, 0)))], [some (1, 0, 0), some (1, 1, 0), some (1, 2, 0), some (1, 7, 0), some (1, 8, 0), some (1, 9, 0), some (1, 10, 0), none], [((1, 5, 0), (0, 0, 3), (1, 11, 0)), ((1, 0, 0), (0, 0, 0), (1, 5, 0))], [(.le, (1, 10, 0), (1, 1, 0))]), [(0, 0, 0), ((-1), 10, 0), (0, 0, 0)])
abbrev sn_w44 : List se_Nd := [sn_w44_0]
set_option maxRecDepth 100000 in
theorem sk_w44 : se_chk0 se_tt [sc_ps] se_Z 37 se_zt sc_w44 sn_w44 7 = true := by decide +kernel
set_option maxRecDepth 100000 in
theorem sk_w44_0 : se_chkn se_tt [sc_ps] se_Z 37 se_zt sc_w44 sn_w44 7 sn_w44_0 = true := by decide +kernel
theorem sm_w44 {ty : Nat → Option Nat} {J : List mm_C → Prop} {kx : Nat} {zs : List mm_Zt} (hO : se_Ok ty J kx zs) (hps : se_Met ty se_tt J kx zs sc_ps) : se_Met ty se_tt J kx zs sc_w44 := se_sound (C := [sc_ps]) hO.1 hO.2.1 hO.2.2 (fun n hn => by
  rcases List.mem_cons.mp hn with rfl | hn
  · exact hps
  exact absurd hn List.not_mem_nil) sk_w44 (fun n hn => by
  rcases List.mem_cons.mp hn with rfl | hn
  · exact sk_w44_0
  exact absurd hn List.not_mem_nil)
/-- RaftTown.days -/
def sc_q45 : se_C := ((121, 1), ([(((90, 0, 0), 0, (0, 0, 0), (0, 0, 0)), (0, (0, 0, 0), (0, 0, 0))), (((0, 1, 30), 0, (0, 0, 0), (0, 0, 0)), (0, (0, 1, 0), (0, 0, 0))), (((0, 2, 2), 0, (0, 0, 0), (0, 0, 0)), (0, (0, 2, 0), (0, 0, 0))), (((88, 0, 0), 0, (0, 0, 0), (0, 0, 0)), (1, (1, 0, 0), (0, 0, 3))), (((122, 0, 0), 0, (0, 0, 0), (0, 0, 0)), (1, (1, 3, 0), (1, 2, 0))), (((0, 0, 0), 0, (0, 0, 0), (0, 0, 0)), (1, (1, 4, 0), (0, 0, 0)))], [some (1, 0, 0), some (1, 1, 0), some (1, 2, 0)], [((1, 0, 0), (0, 0, 3), (1, 3, 0)), ((1, 3, 0), (1, 2, 0), (1, 4, 0)), ((1, 4, 0), (0, 0, 0), (1, 5, 0))], []), [([(((0, (-100002), (-100002)), 0, (0, 0, 0), (0, 0, 0)), (0, (0, 0, 0), (0, 0, 0)))], some (1, 6, 0), [], [])], [(88, 7, 8)])
abbrev sn_q45 : List se_Nd := []
set_option maxRecDepth 100000 in
theorem sk_q45 : se_chk0 se_tt [] se_Z 37 se_zt sc_q45 sn_q45 6 = true := by decide +kernel
theorem sm_q45 {ty : Nat → Option Nat} {J : List mm_C → Prop} {kx : Nat} {zs : List mm_Zt} (hO : se_Ok ty J kx zs) : se_Met ty se_tt J kx zs sc_q45 := se_sound (C := []) hO.1 hO.2.1 hO.2.2 (fun _ hn => absurd hn List.not_mem_nil) sk_q45 (fun _ hn => absurd hn List.not_mem_nil)
/-- RaftTownModel.days -/
def sc_w45 : se_C := ((281, 1), ([(((91, 0, 0), 0, (0, 0, 0), (0, 0, 0)), (0, (0, 0, 0), (0, 0, 0))), (((0, 1, 30), 0, (0, 0, 0), (0, 0, 0)), (0, (0, 1, 0), (0, 0, 0))), (((0, 2, 2), 0, (0, 0, 0), (0, 0, 0)), (0, (0, 2, 0), (0, 0, 0))), (((70, 0, 0), 0, (0, 0, 0), (0, 0, 0)), (1, (1, 0, 0), (0, 0, 22))), (((0, 0, 0), 0, (0, 0, 0), (0, 0, 0)), (1, (1, 3, 0), (1, 2, 0)))], [some (1, 0, 0), some (1, 1, 0), some (1, 2, 0)], [((1, 0, 0), (0, 0, 22), (1, 3, 0)), ((1, 3, 0), (1, 2, 0), (1, 4, 0))], []), [([(((0, (-100002), (-100002)), 0, (0, 0, 0), (0, 0, 0)), (0, (0, 0, 0), (0, 0, 0)))], some (1, 5, 0), [], [])], [(89, 3, 4)])
abbrev sn_w45 : List se_Nd := []
set_option maxRecDepth 100000 in
theorem sk_w45 : se_chk0 se_tt [] se_Z 37 se_zt sc_w45 sn_w45 6 = true := by decide +kernel
theorem sm_w45 {ty : Nat → Option Nat} {J : List mm_C → Prop} {kx : Nat} {zs : List mm_Zt} (hO : se_Ok ty J kx zs) : se_Met ty se_tt J kx zs sc_w45 := se_sound (C := []) hO.1 hO.2.1 hO.2.2 (fun _ hn => absurd hn List.not_mem_nil) sk_w45 (fun _ hn => absurd hn List.not_mem_nil)
/-- RaftTown.days -/
def sc_q46 : se_C := ((121, 6), ([(((90, 0, 0), 0, (0, 0, 0), (0, 0, 0)), (0, (0, 0, 0), (0, 0, 0))), (((0, 1, 30), 0, (0, 0, 0), (0, 0, 0)), (0, (0, 1, 0), (0, 0, 0))), (((0, 2, 2), 0, (0, 0, 0), (0, 0, 0)), (0, (0, 2, 0), (0, 0, 0))), (((88, 0, 0), 0, (0, 0, 0), (0, 0, 0)), (1, (1, 0, 0), (0, 0, 3))), (((122, 0, 0), 0, (0, 0, 0), (0, 0, 0)), (1, (1, 3, 0), (1, 2, 0))), (((0, 1, 32), 0, (0, 0, 0), (0, 0, 0)), (1, (1, 4, 0), (0, 0, 0))), (((89, 0, 0), 0, (0, 0, 0), (0, 0, 0)), (1, (1, 0, 0), (0, 0, 0))), (((0, (-2147483648), 2147483647), 0, (0, 0, 0), (0, 0, 0)), (1, (1, 6, 0), (0, 0, 9)))], [some (1, 0, 0), some (1, 1, 0), some (1, 2, 0)], [((1, 0, 0), (0, 0, 3), (1, 3, 0)), ((1, 3, 0), (1, 2, 0), (1, 4, 0)), ((1, 4, 0), (0, 0, 0), (1, 5, 0)), ((1, 0, 0), (0, 0, 0), (1, 6, 0)), ((1, 6, 0), (0, 0, 9), (1, 7, 0))], []), [([(((0, (-2147483648), 2147483647), 0, (0, 0, 0), (0, 0, 0)), (0, (0, 0, 0), (0, 0, 0))), (((0, (-2147483648), 2147483647), 0, (0, 0, 0), (0, 0, 0)), (1, (1, 6, 0), (0, 0, 9))), (((0, (-2147483648), 2147483647), 2, (1, 9, 0), (1, 7, 0)), (2, (0, 0, 0), (0, 0, 0)))], some (1, 8, 0), [((1, 6, 0), (0, 0, 9), (1, 9, 0))], [(.le, (1, 10, 0), (1, 1, 0)), (.ge, (1, 10, 0), (1, 1, 0))])], [(39, 0, 40), (40, 0, 40), (41, 0, 40), (42, 0, 40), (45, 0, 12), (46, 0, 12), (47, 0, 12), (48, 0, 10), (73, 4, 5), (73, 5, 6), (74, 4, 5), (74, 5, 6), (75, 0, 1), (75, 5, 6), (75, 6, 7), (76, 1, 2), (76, 2, 3), (76, 4, 5), (76, 5, 6), (76, 6, 7), (77, 5, 6), (77, 6, 7), (77, 7, 8), (87, 9, 10), (87, 10, 11), (87, 11, 12)])
def sn_q46_0 : se_Nd := (57, ([(((90, 0, 0), 0, (0, 0, 0), (0, 0, 0)), (3, (0, 0, 0), (0, 0, 0))), (((0, 1, 30), 0, (0, 0, 0), (0, 0, 0)), (3, (0, 1, 0), (0, 0, 0))), (((0, 2, 2), 0, (0, 0, 0), (0, 0, 0)), (3, (0, 2, 0), (0, 0, 0))), (((88, 0, 0), 0, (0, 0, 0), (0, 0, 0)), (3, (0, 3, 0), (0, 0, 0))), (((122, 0, 0), 0, (0, 0, 0), (0, 0, 0)), (3, (0, 4, 0), (0, 0, 0))), (((0, 1, 32), 0, (0, 0, 0), (0, 0, 0)), (3, (0, 5, 0), (0, 0, 0))), (((89, 0, 0), 0, (0, 0, 0), (0, 0, 0)), (3, (0, 6, 0), (0, 0, 0))), (((0, (-2147483648), 2147483647), 0, (0, 0, 0), (0, 0, 0)), (3, (0, 7, 0), (0, 0, 0))), (((0, 0, 20), 0, (0, 0, 0), (0, 0, 0)), (0, (0, 4, 0), (0, 0, 0))), (((0, 0, 9), 0, (0, 0, 0), (0, 0, 0)), (0, (0, 5, 0), (0, 0, 0))), (((0, (-2147483648), 2147483647), 0, (0, 0, 0), (0, 0, 0)), (0, (0, 6, 0), (0, 0, 0))), (((0, 0, 30), 0, (0, 0, 0), (0, 0, 0)), (0, (0, 7, 0), (0, 0, 0))), (((0, (-2147483648), 2147483647), 1, (1, 7, 0), (1, 11, 0)), (2, (0, 0, 0), (0, 0, 0)))], [some (1, 0, 0), some (1, 1, 0), some (1, 2, 0), some (1, 4, 0), some (1, 8, 0), some (1, 9, 0), some (1, 10, 0), some (1, 11, 0), none, none], [((1, 6, 0), (0, 0, 9), (1, 12, 0)), ((1, 0, 0), (0, 0, 0), (1, 6, 0))], [(.le, (1, 11, 0), (1, 1, 0))]), [(0, 0, 0), ((-1), 11, 0), (0, 0, 0)])
abbrev sn_q46 : List se_Nd := [sn_q46_0]
set_option maxRecDepth 100000 in
theorem sk_q46 : se_chk0 se_tt [sc_pd] se_Z 37 se_zt sc_q46 sn_q46 7 = true := by decide +kernel
set_option maxRecDepth 100000 in
theorem sk_q46_0 : se_chkn se_tt [sc_pd] se_Z 37 se_zt sc_q46 sn_q46 7 sn_q46_0 = true := by decide +kernel
theorem sm_q46 {ty : Nat → Option Nat} {J : List mm_C → Prop} {kx : Nat} {zs : List mm_Zt} (hO : se_Ok ty J kx zs) (hpd : se_Met ty se_tt J kx zs sc_pd) : se_Met ty se_tt J kx zs sc_q46 := se_sound (C := [sc_pd]) hO.1 hO.2.1 hO.2.2 (fun n hn => by
  rcases List.mem_cons.mp hn with rfl | hn
  · exact hpd
  exact absurd hn List.not_mem_nil) sk_q46 (fun n hn => by
  rcases List.mem_cons.mp hn with rfl | hn
  · exact sk_q46_0
  exact absurd hn List.not_mem_nil)
/-- RaftTownModel.days -/
def sc_w46 : se_C := ((281, 7), ([(((91, 0, 0), 0, (0, 0, 0), (0, 0, 0)), (0, (0, 0, 0), (0, 0, 0))), (((0, 1, 30), 0, (0, 0, 0), (0, 0, 0)), (0, (0, 1, 0), (0, 0, 0))), (((0, 2, 2), 0, (0, 0, 0), (0, 0, 0)), (0, (0, 2, 0), (0, 0, 0))), (((70, 0, 0), 0, (0, 0, 0), (0, 0, 0)), (1, (1, 0, 0), (0, 0, 22))), (((0, 1, 32), 0, (0, 0, 0), (0, 0, 0)), (1, (1, 3, 0), (1, 2, 0))), (((58, 0, 0), 0, (0, 0, 0), (0, 0, 0)), (1, (1, 0, 0), (0, 0, 0))), (((0, (-2147483648), 2147483647), 0, (0, 0, 0), (0, 0, 0)), (1, (1, 5, 0), (0, 0, 3)))], [some (1, 0, 0), some (1, 1, 0), some (1, 2, 0)], [((1, 0, 0), (0, 0, 22), (1, 3, 0)), ((1, 3, 0), (1, 2, 0), (1, 4, 0)), ((1, 0, 0), (0, 0, 0), (1, 5, 0)), ((1, 5, 0), (0, 0, 3), (1, 6, 0))], []), [([(((0, (-2147483648), 2147483647), 0, (0, 0, 0), (0, 0, 0)), (0, (0, 0, 0), (0, 0, 0))), (((0, (-2147483648), 2147483647), 0, (0, 0, 0), (0, 0, 0)), (1, (1, 5, 0), (0, 0, 3))), (((0, (-2147483648), 2147483647), 2, (1, 8, 0), (1, 6, 0)), (2, (0, 0, 0), (0, 0, 0)))], some (1, 7, 0), [((1, 5, 0), (0, 0, 3), (1, 8, 0))], [(.le, (1, 9, 0), (1, 1, 0)), (.ge, (1, 9, 0), (1, 1, 0))])], [(56, 3, 4), (56, 4, 5), (56, 5, 6), (56, 6, 7), (56, 80, 150), (56, 150, 248), (56, 248, 344), (56, 344, 504), (57, 0, 10)])
def sn_w46_0 : se_Nd := (51, ([(((91, 0, 0), 0, (0, 0, 0), (0, 0, 0)), (3, (0, 0, 0), (0, 0, 0))), (((0, 1, 30), 0, (0, 0, 0), (0, 0, 0)), (3, (0, 1, 0), (0, 0, 0))), (((0, 2, 2), 0, (0, 0, 0), (0, 0, 0)), (3, (0, 2, 0), (0, 0, 0))), (((70, 0, 0), 0, (0, 0, 0), (0, 0, 0)), (3, (0, 3, 0), (0, 0, 0))), (((0, 1, 32), 0, (0, 0, 0), (0, 0, 0)), (3, (0, 4, 0), (0, 0, 0))), (((58, 0, 0), 0, (0, 0, 0), (0, 0, 0)), (3, (0, 5, 0), (0, 0, 0))), (((0, (-2147483648), 2147483647), 0, (0, 0, 0), (0, 0, 0)), (3, (0, 6, 0), (0, 0, 0))), (((0, 0, 20), 0, (0, 0, 0), (0, 0, 0)), (0, (0, 3, 0), (0, 0, 0))), (((0, 0, 9), 0, (0, 0, 0), (0, 0, 0)), (0, (0, 4, 0), (0, 0, 0))), (((0, (-2147483648), 2147483647), 0, (0, 0, 0), (0, 0, 0)), (0, (0, 5, 0), (0, 0, 0))), (((0, 0, 30), 0, (0, 0, 0), (0, 0, 0)), (0, (0, 6, 0), (0, 0, 0))), (((0, (-2147483648), 2147483647), 1, (1, 6, 0), (1, 10, 0)), (2, (0, 0, 0), (0, 0, 0)))], [some (1, 0, 0), some (1, 1, 0), some (1, 2, 0), some (1, 7, 0), some (1, 8, 0), some (1, 9, 0), some (1, 10, 0), none], [((1, 5, 0), (0, 0, 3), (1, 11, 0)), ((1, 0, 0), (0, 0, 0), (1, 5, 0))], [(.le, (1, 10, 0), (1, 1, 0))]), [(0, 0, 0), ((-1), 10, 0), (0, 0, 0)])
abbrev sn_w46 : List se_Nd := [sn_w46_0]
set_option maxRecDepth 100000 in
theorem sk_w46 : se_chk0 se_tt [sc_ps] se_Z 37 se_zt sc_w46 sn_w46 7 = true := by decide +kernel
set_option maxRecDepth 100000 in
theorem sk_w46_0 : se_chkn se_tt [sc_ps] se_Z 37 se_zt sc_w46 sn_w46 7 sn_w46_0 = true := by decide +kernel
theorem sm_w46 {ty : Nat → Option Nat} {J : List mm_C → Prop} {kx : Nat} {zs : List mm_Zt} (hO : se_Ok ty J kx zs) (hps : se_Met ty se_tt J kx zs sc_ps) : se_Met ty se_tt J kx zs sc_w46 := se_sound (C := [sc_ps]) hO.1 hO.2.1 hO.2.2 (fun n hn => by
  rcases List.mem_cons.mp hn with rfl | hn
  · exact hps
  exact absurd hn List.not_mem_nil) sk_w46 (fun n hn => by
  rcases List.mem_cons.mp hn with rfl | hn
  · exact sk_w46_0
  exact absurd hn List.not_mem_nil)
/-- RaftTown.days -/
def sc_q47 : se_C := ((121, 1), ([(((90, 0, 0), 0, (0, 0, 0), (0, 0, 0)), (0, (0, 0, 0), (0, 0, 0))), (((0, 1, 30), 0, (0, 0, 0), (0, 0, 0)), (0, (0, 1, 0), (0, 0, 0))), (((0, 3, 3), 0, (0, 0, 0), (0, 0, 0)), (0, (0, 2, 0), (0, 0, 0))), (((88, 0, 0), 0, (0, 0, 0), (0, 0, 0)), (1, (1, 0, 0), (0, 0, 3))), (((123, 0, 0), 0, (0, 0, 0), (0, 0, 0)), (1, (1, 3, 0), (1, 2, 0))), (((0, 0, 0), 0, (0, 0, 0), (0, 0, 0)), (1, (1, 4, 0), (0, 0, 0)))], [some (1, 0, 0), some (1, 1, 0), some (1, 2, 0)], [((1, 0, 0), (0, 0, 3), (1, 3, 0)), ((1, 3, 0), (1, 2, 0), (1, 4, 0)), ((1, 4, 0), (0, 0, 0), (1, 5, 0))], []), [([(((0, (-100002), (-100002)), 0, (0, 0, 0), (0, 0, 0)), (0, (0, 0, 0), (0, 0, 0)))], some (1, 6, 0), [], [])], [(88, 7, 8)])
abbrev sn_q47 : List se_Nd := []
set_option maxRecDepth 100000 in
theorem sk_q47 : se_chk0 se_tt [] se_Z 37 se_zt sc_q47 sn_q47 6 = true := by decide +kernel
theorem sm_q47 {ty : Nat → Option Nat} {J : List mm_C → Prop} {kx : Nat} {zs : List mm_Zt} (hO : se_Ok ty J kx zs) : se_Met ty se_tt J kx zs sc_q47 := se_sound (C := []) hO.1 hO.2.1 hO.2.2 (fun _ hn => absurd hn List.not_mem_nil) sk_q47 (fun _ hn => absurd hn List.not_mem_nil)
/-- RaftTownModel.days -/
def sc_w47 : se_C := ((281, 1), ([(((91, 0, 0), 0, (0, 0, 0), (0, 0, 0)), (0, (0, 0, 0), (0, 0, 0))), (((0, 1, 30), 0, (0, 0, 0), (0, 0, 0)), (0, (0, 1, 0), (0, 0, 0))), (((0, 3, 3), 0, (0, 0, 0), (0, 0, 0)), (0, (0, 2, 0), (0, 0, 0))), (((70, 0, 0), 0, (0, 0, 0), (0, 0, 0)), (1, (1, 0, 0), (0, 0, 22))), (((0, 0, 0), 0, (0, 0, 0), (0, 0, 0)), (1, (1, 3, 0), (1, 2, 0)))], [some (1, 0, 0), some (1, 1, 0), some (1, 2, 0)], [((1, 0, 0), (0, 0, 22), (1, 3, 0)), ((1, 3, 0), (1, 2, 0), (1, 4, 0))], []), [([(((0, (-100002), (-100002)), 0, (0, 0, 0), (0, 0, 0)), (0, (0, 0, 0), (0, 0, 0)))], some (1, 5, 0), [], [])], [(89, 3, 4)])
abbrev sn_w47 : List se_Nd := []
set_option maxRecDepth 100000 in
theorem sk_w47 : se_chk0 se_tt [] se_Z 37 se_zt sc_w47 sn_w47 6 = true := by decide +kernel
theorem sm_w47 {ty : Nat → Option Nat} {J : List mm_C → Prop} {kx : Nat} {zs : List mm_Zt} (hO : se_Ok ty J kx zs) : se_Met ty se_tt J kx zs sc_w47 := se_sound (C := []) hO.1 hO.2.1 hO.2.2 (fun _ hn => absurd hn List.not_mem_nil) sk_w47 (fun _ hn => absurd hn List.not_mem_nil)
/-- RaftTown.days -/
def sc_q48 : se_C := ((121, 6), ([(((90, 0, 0), 0, (0, 0, 0), (0, 0, 0)), (0, (0, 0, 0), (0, 0, 0))), (((0, 1, 30), 0, (0, 0, 0), (0, 0, 0)), (0, (0, 1, 0), (0, 0, 0))), (((0, 3, 3), 0, (0, 0, 0), (0, 0, 0)), (0, (0, 2, 0), (0, 0, 0))), (((88, 0, 0), 0, (0, 0, 0), (0, 0, 0)), (1, (1, 0, 0), (0, 0, 3))), (((123, 0, 0), 0, (0, 0, 0), (0, 0, 0)), (1, (1, 3, 0), (1, 2, 0))), (((0, 1, 32), 0, (0, 0, 0), (0, 0, 0)), (1, (1, 4, 0), (0, 0, 0))), (((89, 0, 0), 0, (0, 0, 0), (0, 0, 0)), (1, (1, 0, 0), (0, 0, 0))), (((0, (-2147483648), 2147483647), 0, (0, 0, 0), (0, 0, 0)), (1, (1, 6, 0), (0, 0, 9)))], [some (1, 0, 0), some (1, 1, 0), some (1, 2, 0)], [((1, 0, 0), (0, 0, 3), (1, 3, 0)), ((1, 3, 0), (1, 2, 0), (1, 4, 0)), ((1, 4, 0), (0, 0, 0), (1, 5, 0)), ((1, 0, 0), (0, 0, 0), (1, 6, 0)), ((1, 6, 0), (0, 0, 9), (1, 7, 0))], []), [([(((0, (-2147483648), 2147483647), 0, (0, 0, 0), (0, 0, 0)), (0, (0, 0, 0), (0, 0, 0))), (((0, (-2147483648), 2147483647), 0, (0, 0, 0), (0, 0, 0)), (1, (1, 6, 0), (0, 0, 9))), (((0, (-2147483648), 2147483647), 2, (1, 9, 0), (1, 7, 0)), (2, (0, 0, 0), (0, 0, 0)))], some (1, 8, 0), [((1, 6, 0), (0, 0, 9), (1, 9, 0))], [(.le, (1, 10, 0), (1, 1, 0)), (.ge, (1, 10, 0), (1, 1, 0))])], [(39, 0, 40), (40, 0, 40), (41, 0, 40), (42, 0, 40), (45, 0, 12), (46, 0, 12), (47, 0, 12), (48, 0, 10), (73, 4, 5), (73, 5, 6), (74, 4, 5), (74, 5, 6), (75, 0, 1), (75, 5, 6), (75, 6, 7), (76, 1, 2), (76, 2, 3), (76, 4, 5), (76, 5, 6), (76, 6, 7), (77, 5, 6), (77, 6, 7), (77, 7, 8), (87, 9, 10), (87, 10, 11), (87, 11, 12)])
def sn_q48_0 : se_Nd := (57, ([(((90, 0, 0), 0, (0, 0, 0), (0, 0, 0)), (3, (0, 0, 0), (0, 0, 0))), (((0, 1, 30), 0, (0, 0, 0), (0, 0, 0)), (3, (0, 1, 0), (0, 0, 0))), (((0, 3, 3), 0, (0, 0, 0), (0, 0, 0)), (3, (0, 2, 0), (0, 0, 0))), (((88, 0, 0), 0, (0, 0, 0), (0, 0, 0)), (3, (0, 3, 0), (0, 0, 0))), (((123, 0, 0), 0, (0, 0, 0), (0, 0, 0)), (3, (0, 4, 0), (0, 0, 0))), (((0, 1, 32), 0, (0, 0, 0), (0, 0, 0)), (3, (0, 5, 0), (0, 0, 0))), (((89, 0, 0), 0, (0, 0, 0), (0, 0, 0)), (3, (0, 6, 0), (0, 0, 0))), (((0, (-2147483648), 2147483647), 0, (0, 0, 0), (0, 0, 0)), (3, (0, 7, 0), (0, 0, 0))), (((0, 0, 20), 0, (0, 0, 0), (0, 0, 0)), (0, (0, 4, 0), (0, 0, 0))), (((0, 0, 9), 0, (0, 0, 0), (0, 0, 0)), (0, (0, 5, 0), (0, 0, 0))), (((0, (-2147483648), 2147483647), 0, (0, 0, 0), (0, 0, 0)), (0, (0, 6, 0), (0, 0, 0))), (((0, 0, 30), 0, (0, 0, 0), (0, 0, 0)), (0, (0, 7, 0), (0, 0, 0))), (((0, (-2147483648), 2147483647), 1, (1, 7, 0), (1, 11, 0)), (2, (0, 0, 0), (0, 0, 0)))], [some (1, 0, 0), some (1, 1, 0), some (1, 2, 0), some (1, 4, 0), some (1, 8, 0), some (1, 9, 0), some (1, 10, 0), some (1, 11, 0), none, none], [((1, 6, 0), (0, 0, 9), (1, 12, 0)), ((1, 0, 0), (0, 0, 0), (1, 6, 0))], [(.le, (1, 11, 0), (1, 1, 0))]), [(0, 0, 0), ((-1), 11, 0), (0, 0, 0)])
abbrev sn_q48 : List se_Nd := [sn_q48_0]
set_option maxRecDepth 100000 in
theorem sk_q48 : se_chk0 se_tt [sc_pd] se_Z 37 se_zt sc_q48 sn_q48 7 = true := by decide +kernel
set_option maxRecDepth 100000 in
theorem sk_q48_0 : se_chkn se_tt [sc_pd] se_Z 37 se_zt sc_q48 sn_q48 7 sn_q48_0 = true := by decide +kernel
theorem sm_q48 {ty : Nat → Option Nat} {J : List mm_C → Prop} {kx : Nat} {zs : List mm_Zt} (hO : se_Ok ty J kx zs) (hpd : se_Met ty se_tt J kx zs sc_pd) : se_Met ty se_tt J kx zs sc_q48 := se_sound (C := [sc_pd]) hO.1 hO.2.1 hO.2.2 (fun n hn => by
  rcases List.mem_cons.mp hn with rfl | hn
  · exact hpd
  exact absurd hn List.not_mem_nil) sk_q48 (fun n hn => by
  rcases List.mem_cons.mp hn with rfl | hn
  · exact sk_q48_0
  exact absurd hn List.not_mem_nil)
/-- RaftTownModel.days -/
def sc_w48 : se_C := ((281, 7), ([(((91, 0, 0), 0, (0, 0, 0), (0, 0, 0)), (0, (0, 0, 0), (0, 0, 0))), (((0, 1, 30), 0, (0, 0, 0), (0, 0, 0)), (0, (0, 1, 0), (0, 0, 0))), (((0, 3, 3), 0, (0, 0, 0), (0, 0, 0)), (0, (0, 2, 0), (0, 0, 0))), (((70, 0, 0), 0, (0, 0, 0), (0, 0, 0)), (1, (1, 0, 0), (0, 0, 22))), (((0, 1, 32), 0, (0, 0, 0), (0, 0, 0)), (1, (1, 3, 0), (1, 2, 0))), (((58, 0, 0), 0, (0, 0, 0), (0, 0, 0)), (1, (1, 0, 0), (0, 0, 0))), (((0, (-2147483648), 2147483647), 0, (0, 0, 0), (0, 0, 0)), (1, (1, 5, 0), (0, 0, 3)))], [some (1, 0, 0), some (1, 1, 0), some (1, 2, 0)], [((1, 0, 0), (0, 0, 22), (1, 3, 0)), ((1, 3, 0), (1, 2, 0), (1, 4, 0)), ((1, 0, 0), (0, 0, 0), (1, 5, 0)), ((1, 5, 0), (0, 0, 3), (1, 6, 0))], []), [([(((0, (-2147483648), 2147483647), 0, (0, 0, 0), (0, 0, 0)), (0, (0, 0, 0), (0, 0, 0))), (((0, (-2147483648), 2147483647), 0, (0, 0, 0), (0, 0, 0)), (1, (1, 5, 0), (0, 0, 3))), (((0, (-2147483648), 2147483647), 2, (1, 8, 0), (1, 6, 0)), (2, (0, 0, 0), (0, 0, 0)))], some (1, 7, 0), [((1, 5, 0), (0, 0, 3), (1, 8, 0))], [(.le, (1, 9, 0), (1, 1, 0)), (.ge, (1, 9, 0), (1, 1, 0))])], [(56, 3, 4), (56, 4, 5), (56, 5, 6), (56, 6, 7), (56, 80, 150), (56, 150, 248), (56, 248, 344), (56, 344, 504), (57, 0, 10)])
def sn_w48_0 : se_Nd := (51, ([(((91, 0, 0), 0, (0, 0, 0), (0, 0, 0)), (3, (0, 0, 0), (0, 0, 0))), (((0, 1, 30), 0, (0, 0, 0), (0, 0, 0)), (3, (0, 1, 0), (0, 0, 0))), (((0, 3, 3), 0, (0, 0, 0), (0, 0, 0)), (3, (0, 2, 0), (0, 0, 0))), (((70, 0, 0), 0, (0, 0, 0), (0, 0, 0)), (3, (0, 3, 0), (0, 0, 0))), (((0, 1, 32), 0, (0, 0, 0), (0, 0, 0)), (3, (0, 4, 0), (0, 0, 0))), (((58, 0, 0), 0, (0, 0, 0), (0, 0, 0)), (3, (0, 5, 0), (0, 0, 0))), (((0, (-2147483648), 2147483647), 0, (0, 0, 0), (0, 0, 0)), (3, (0, 6, 0), (0, 0, 0))), (((0, 0, 20), 0, (0, 0, 0), (0, 0, 0)), (0, (0, 3, 0), (0, 0, 0))), (((0, 0, 9), 0, (0, 0, 0), (0, 0, 0)), (0, (0, 4, 0), (0, 0, 0))), (((0, (-2147483648), 2147483647), 0, (0, 0, 0), (0, 0, 0)), (0, (0, 5, 0), (0, 0, 0))), (((0, 0, 30), 0, (0, 0, 0), (0, 0, 0)), (0, (0, 6, 0), (0, 0, 0))), (((0, (-2147483648), 2147483647), 1, (1, 6, 0), (1, 10, 0)), (2, (0, 0, 0), (0, 0, 0)))], [some (1, 0, 0), some (1, 1, 0), some (1, 2, 0), some (1, 7, 0), some (1, 8, 0), some (1, 9, 0), some (1, 10, 0), none], [((1, 5, 0), (0, 0, 3), (1, 11, 0)), ((1, 0, 0), (0, 0, 0), (1, 5, 0))], [(.le, (1, 10, 0), (1, 1, 0))]), [(0, 0, 0), ((-1), 10, 0), (0, 0, 0)])
abbrev sn_w48 : List se_Nd := [sn_w48_0]
set_option maxRecDepth 100000 in
theorem sk_w48 : se_chk0 se_tt [sc_ps] se_Z 37 se_zt sc_w48 sn_w48 7 = true := by decide +kernel
set_option maxRecDepth 100000 in
theorem sk_w48_0 : se_chkn se_tt [sc_ps] se_Z 37 se_zt sc_w48 sn_w48 7 sn_w48_0 = true := by decide +kernel
theorem sm_w48 {ty : Nat → Option Nat} {J : List mm_C → Prop} {kx : Nat} {zs : List mm_Zt} (hO : se_Ok ty J kx zs) (hps : se_Met ty se_tt J kx zs sc_ps) : se_Met ty se_tt J kx zs sc_w48 := se_sound (C := [sc_ps]) hO.1 hO.2.1 hO.2.2 (fun n hn => by
  rcases List.mem_cons.mp hn with rfl | hn
  · exact hps
  exact absurd hn List.not_mem_nil) sk_w48 (fun n hn => by
  rcases List.mem_cons.mp hn with rfl | hn
  · exact sk_w48_0
  exact absurd hn List.not_mem_nil)
/-- RaftTown.days -/
def sc_q49 : se_C := ((121, 1), ([(((90, 0, 0), 0, (0, 0, 0), (0, 0, 0)), (0, (0, 0, 0), (0, 0, 0))), (((0, 1, 30), 0, (0, 0, 0), (0, 0, 0)), (0, (0, 1, 0), (0, 0, 0))), (((0, 4, 2147483647), 0, (0, 0, 0), (0, 0, 0)), (0, (0, 2, 0), (0, 0, 0)))], [some (1, 0, 0), some (1, 1, 0), some (1, 2, 0)], [], []), [([(((0, (-100001), (-100001)), 0, (0, 0, 0), (0, 0, 0)), (0, (0, 0, 0), (0, 0, 0)))], some (1, 3, 0), [], [])], [(88, 7, 8)])
abbrev sn_q49 : List se_Nd := []
set_option maxRecDepth 100000 in
theorem sk_q49 : se_chk0 se_tt [] se_Z 37 se_zt sc_q49 sn_q49 6 = true := by decide +kernel
theorem sm_q49 {ty : Nat → Option Nat} {J : List mm_C → Prop} {kx : Nat} {zs : List mm_Zt} (hO : se_Ok ty J kx zs) : se_Met ty se_tt J kx zs sc_q49 := se_sound (C := []) hO.1 hO.2.1 hO.2.2 (fun _ hn => absurd hn List.not_mem_nil) sk_q49 (fun _ hn => absurd hn List.not_mem_nil)
/-- RaftTownModel.days -/
def sc_w49 : se_C := ((281, 1), ([(((91, 0, 0), 0, (0, 0, 0), (0, 0, 0)), (0, (0, 0, 0), (0, 0, 0))), (((0, 1, 30), 0, (0, 0, 0), (0, 0, 0)), (0, (0, 1, 0), (0, 0, 0))), (((0, 4, 2147483647), 0, (0, 0, 0), (0, 0, 0)), (0, (0, 2, 0), (0, 0, 0)))], [some (1, 0, 0), some (1, 1, 0), some (1, 2, 0)], [], []), [([(((0, (-100001), (-100001)), 0, (0, 0, 0), (0, 0, 0)), (0, (0, 0, 0), (0, 0, 0)))], some (1, 3, 0), [], [])], [(89, 3, 4)])
abbrev sn_w49 : List se_Nd := []
set_option maxRecDepth 100000 in
theorem sk_w49 : se_chk0 se_tt [] se_Z 37 se_zt sc_w49 sn_w49 6 = true := by decide +kernel
theorem sm_w49 {ty : Nat → Option Nat} {J : List mm_C → Prop} {kx : Nat} {zs : List mm_Zt} (hO : se_Ok ty J kx zs) : se_Met ty se_tt J kx zs sc_w49 := se_sound (C := []) hO.1 hO.2.1 hO.2.2 (fun _ hn => absurd hn List.not_mem_nil) sk_w49 (fun _ hn => absurd hn List.not_mem_nil)
/-- RaftTown.days -/
def sc_q50 : se_C := ((121, 1), ([(((90, 0, 0), 0, (0, 0, 0), (0, 0, 0)), (0, (0, 0, 0), (0, 0, 0))), (((0, 31, 2147483647), 0, (0, 0, 0), (0, 0, 0)), (0, (0, 1, 0), (0, 0, 0))), (((0, (-2147483648), 2147483647), 0, (0, 0, 0), (0, 0, 0)), (0, (0, 2, 0), (0, 0, 0)))], [some (1, 0, 0), some (1, 1, 0), some (1, 2, 0)], [], []), [([(((0, (-100001), (-100001)), 0, (0, 0, 0), (0, 0, 0)), (0, (0, 0, 0), (0, 0, 0)))], some (1, 3, 0), [], [])], [(88, 7, 8)])
abbrev sn_q50 : List se_Nd := []
set_option maxRecDepth 100000 in
theorem sk_q50 : se_chk0 se_tt [] se_Z 37 se_zt sc_q50 sn_q50 5 = true := by decide +kernel
theorem sm_q50 {ty : Nat → Option Nat} {J : List mm_C → Prop} {kx : Nat} {zs : List mm_Zt} (hO : se_Ok ty J kx zs) : se_Met ty se_tt J kx zs sc_q50 := se_sound (C := []) hO.1 hO.2.1 hO.2.2 (fun _ hn => absurd hn List.not_mem_nil) sk_q50 (fun _ hn => absurd hn List.not_mem_nil)
/-- RaftTownModel.days -/
def sc_w50 : se_C := ((281, 1), ([(((91, 0, 0), 0, (0, 0, 0), (0, 0, 0)), (0, (0, 0, 0), (0, 0, 0))), (((0, 31, 2147483647), 0, (0, 0, 0), (0, 0, 0)), (0, (0, 1, 0), (0, 0, 0))), (((0, (-2147483648), 2147483647), 0, (0, 0, 0), (0, 0, 0)), (0, (0, 2, 0), (0, 0, 0)))], [some (1, 0, 0), some (1, 1, 0), some (1, 2, 0)], [], []), [([(((0, (-100001), (-100001)), 0, (0, 0, 0), (0, 0, 0)), (0, (0, 0, 0), (0, 0, 0)))], some (1, 3, 0), [], [])], [(89, 3, 4)])
abbrev sn_w50 : List se_Nd := []
set_option maxRecDepth 100000 in
theorem sk_w50 : se_chk0 se_tt [] se_Z 37 se_zt sc_w50 sn_w50 5 = true := by decide +kernel
theorem sm_w50 {ty : Nat → Option Nat} {J : List mm_C → Prop} {kx : Nat} {zs : List mm_Zt} (hO : se_Ok ty J kx zs) : se_Met ty se_tt J kx zs sc_w50 := se_sound (C := []) hO.1 hO.2.1 hO.2.2 (fun _ hn => absurd hn List.not_mem_nil) sk_w50 (fun _ hn => absurd hn List.not_mem_nil)
