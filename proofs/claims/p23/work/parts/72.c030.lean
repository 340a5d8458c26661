/-! ===== printed by wip/p2/gen_tab.py: contracts and their checks ===== -/
/-- RaftTown$Text.endOf -/
def sc_30 : se_C := ((87, 1), ([(((112, 0, 0), 0, (0, 0, 0), (0, 0, 0)), (0, (0, 0, 0), (0, 0, 0))), (((0, (-2147483648), 2147483647), 0, (0, 0, 0), (0, 0, 0)), (0, (0, 1, 0), (0, 0, 0)))], [some (1, 0, 0), some (1, 1, 0)], [], []), [([(((0, 0, 160), 0, (0, 0, 0), (0, 0, 0)), (0, (0, 0, 0), (0, 0, 0)))], some (1, 2, 0), [], [])], [])
abbrev sn_30 : List se_Nd := []
set_option maxRecDepth 100000 in
theorem sk_30 : se_chk0 se_tt [] se_Z 37 se_zt sc_30 sn_30 5 = true := by decide +kernel
theorem sm_30 {ty : Nat → Option Nat} {J : List mm_C → Prop} {kx : Nat} {zs : List mm_Zt} (hO : se_Ok ty J kx zs) : se_Met ty se_tt J kx zs sc_30 := se_sound (C := []) hO.1 hO.2.1 hO.2.2 (fun _ hn => absurd hn List.not_mem_nil) sk_30 (fun _ hn => absurd hn List.not_mem_nil)
/-- RaftTown$Text.startOf -/
def sc_31 : se_C := ((88, 1), ([(((83, 0, 0), 0, (0, 0, 0), (0, 0, 0)), (0, (0, 0, 0), (0, 0, 0))), (((0, (-2147483648), 2147483647), 0, (0, 0, 0), (0, 0, 0)), (0, (0, 1, 0), (0, 0, 0)))], [some (1, 0, 0), some (1, 1, 0)], [], []), [([(((0, 0, 160), 0, (0, 0, 0), (0, 0, 0)), (0, (0, 0, 0), (0, 0, 0)))], some (1, 2, 0), [], [])], [])
abbrev sn_31 : List se_Nd := []
set_option maxRecDepth 100000 in
theorem sk_31 : se_chk0 se_tt [] se_Z 37 se_zt sc_31 sn_31 5 = true := by decide +kernel
theorem sm_31 {ty : Nat → Option Nat} {J : List mm_C → Prop} {kx : Nat} {zs : List mm_Zt} (hO : se_Ok ty J kx zs) : se_Met ty se_tt J kx zs sc_31 := se_sound (C := []) hO.1 hO.2.1 hO.2.2 (fun _ hn => absurd hn List.not_mem_nil) sk_31 (fun _ hn => absurd hn List.not_mem_nil)
/-- RaftTown$Text.startOf -/
def sc_32 : se_C := ((88, 1), ([(((112, 0, 0), 0, (0, 0, 0), (0, 0, 0)), (0, (0, 0, 0), (0, 0, 0))), (((0, (-2147483648), 2147483647), 0, (0, 0, 0), (0, 0, 0)), (0, (0, 1, 0), (0, 0, 0)))], [some (1, 0, 0), some (1, 1, 0)], [], []), [([(((0, 0, 160), 0, (0, 0, 0), (0, 0, 0)), (0, (0, 0, 0), (0, 0, 0)))], some (1, 2, 0), [], [])], [])
abbrev sn_32 : List se_Nd := []
set_option maxRecDepth 100000 in
theorem sk_32 : se_chk0 se_tt [] se_Z 37 se_zt sc_32 sn_32 5 = true := by decide +kernel
theorem sm_32 {ty : Nat → Option Nat} {J : List mm_C → Prop} {kx : Nat} {zs : List mm_Zt} (hO : se_Ok ty J kx zs) : se_Met ty se_tt J kx zs sc_32 := se_sound (C := []) hO.1 hO.2.1 hO.2.2 (fun _ hn => absurd hn List.not_mem_nil) sk_32 (fun _ hn => absurd hn List.not_mem_nil)
/-- RaftTown$Judge.joined -/
def sc_33 : se_C := ((91, 1), ([(((0, (-2147483648), 2147483647), 0, (0, 0, 0), (0, 0, 0)), (0, (0, 0, 0), (0, 0, 0))), (((0, (-2147483648), 2147483647), 0, (0, 0, 0), (0, 0, 0)), (0, (0, 1, 0), (0, 0, 0))), (((0, (-2147483648), 2147483647), 0, (0, 0, 0), (0, 0, 0)), (0, (0, 2, 0), (0, 0, 0)))], [some (1, 0, 0), some (1, 1, 0), some (1, 2, 0)], [], []), [([(((0, (-2147483648), 2147483647), 0, (0, 0, 0), (0, 0, 0)), (0, (0, 0, 0), (0, 0, 0)))], some (1, 3, 0), [], [])], [])
abbrev sn_33 : List se_Nd := []
set_option maxRecDepth 100000 in
theorem sk_33 : se_chk0 se_tt [] se_Z 37 se_zt sc_33 sn_33 4 = true := by decide +kernel
theorem sm_33 {ty : Nat → Option Nat} {J : List mm_C → Prop} {kx : Nat} {zs : List mm_Zt} (hO : se_Ok ty J kx zs) : se_Met ty se_tt J kx zs sc_33 := se_sound (C := []) hO.1 hO.2.1 hO.2.2 (fun _ hn => absurd hn List.not_mem_nil) sk_33 (fun _ hn => absurd hn List.not_mem_nil)
/-- RaftTown$Judge.comesTo -/
def sc_34 : se_C := ((86, 2), ([(((74, 0, 0), 0, (0, 0, 0), (0, 0, 0)), (0, (0, 0, 0), (0, 0, 0))), (((83, 0, 0), 0, (0, 0, 0), (0, 0, 0)), (0, (0, 1, 0), (0, 0, 0))), (((0, (-2147483648), 2147483647), 0, (0, 0, 0), (0, 0, 0)), (0, (0, 2, 0), (0, 0, 0)))], [some (1, 0, 0), some (1, 1, 0), some (1, 2, 0)], [], []), [([(((0, (-2147483648), 2147483647), 0, (0, 0, 0), (0, 0, 0)), (0, (0, 0, 0), (0, 0, 0)))], some (1, 3, 0), [], [])], [(38, 0, 24), (72, 2, 3)])
def sn_34_0 : se_Nd := (18, ([(((74, 0, 0), 0, (0, 0, 0), (0, 0, 0)), (3, (0, 0, 0), (0, 0, 0))), (((83, 0, 0), 0, (0, 0, 0), (0, 0, 0)), (3, (0, 1, 0), (0, 0, 0))), (((0, (-2147483648), 2147483647), 0, (0, 0, 0), (0, 0, 0)), (3, (0, 2, 0), (0, 0, 0))), (((0, 0, 160), 0, (0, 0, 0), (0, 0, 0)), (0, (0, 3, 0), (0, 0, 0))), (((0, 0, 160), 0, (0, 0, 0), (0, 0, 0)), (0, (0, 4, 0), (0, 0, 0)))], [some (1, 0, 0), some (1, 1, 0), some (1, 2, 0), some (1, 3, 0), some (1, 4, 0), none, none, none], [], []), [(0, 0, 0), ((-1), 4, 0), (0, 0, 0)])
abbrev sn_34 : List se_Nd := [sn_34_0]
set_option maxRecDepth 100000 in
theorem sk_34 : se_chk0 se_tt [sc_29, sc_31, sc_33] se_Z 37 se_zt sc_34 sn_34 7 = true := by decide +kernel
set_option maxRecDepth 100000 in
theorem sk_34_0 : se_chkn se_tt [sc_29, sc_31, sc_33] se_Z 37 se_zt sc_34 sn_34 7 sn_34_0 = true := by decide +kernel
theorem sm_34 {ty : Nat → Option Nat} {J : List mm_C → Prop} {kx : Nat} {zs : List mm_Zt} (hO : se_Ok ty J kx zs) (h29 : se_Met ty se_tt J kx zs sc_29) (h31 : se_Met ty se_tt J kx zs sc_31) (h33 : se_Met ty se_tt J kx zs sc_33) : se_Met ty se_tt J kx zs sc_34 := se_sound (C := [sc_29, sc_31, sc_33]) hO.1 hO.2.1 hO.2.2 (fun n hn => by
  rcases List.mem_cons.mp hn with rfl | hn
  · exact h29
  rcases List.mem_cons.mp hn with rfl | hn
  · exact h31
  rcases List.mem_cons.mp hn with rfl | hn
  · exact h33
  exact absurd hn List.not_mem_nil) sk_34 (fun n hn => by
  rcases List.mem_cons.mp hn with rfl | hn
  · exact sk_34_0
  exact absurd hn List.not_mem_nil)
/-- RaftTown$Net.countParts -/
def sc_35 : se_C := ((92, 2), ([(((76, 0, 0), 0, (0, 0, 0), (0, 0, 0)), (0, (0, 0, 0), (0, 0, 0)))], [some (1, 0, 0)], [], []), [([(((0, (-2147483648), 2147483647), 0, (0, 0, 0), (0, 0, 0)), (0, (0, 0, 0), (0, 0, 0)))], some (1, 1, 0), [], [])], [])
def sn_35_0 : se_Nd := (9, ([(((76, 0, 0), 0, (0, 0, 0), (0, 0, 0)), (3, (0, 0, 0), (0, 0, 0))), (((0, (-2147483648), 2147483647), 0, (0, 0, 0), (0, 0, 0)), (0, (0, 1, 0), (0, 0, 0))), (((0, 0, 1023), 0, (0, 0, 0), (0, 0, 0)), (0, (0, 2, 0), (0, 0, 0))), (((0, 0, 10), 0, (0, 0, 0), (0, 0, 0)), (0, (0, 3, 0), (0, 0, 0)))], [some (1, 0, 0), some (1, 1, 0), some (1, 2, 0), some (1, 3, 0)], [], []), [(0, 0, 0), ((-1), 3, 0), (0, 0, 0)])
abbrev sn_35 : List se_Nd := [sn_35_0]
set_option maxRecDepth 100000 in
theorem sk_35 : se_chk0 se_tt [sc_5] se_Z 37 se_zt sc_35 sn_35 6 = true := by decide +kernel
set_option maxRecDepth 100000 in
theorem sk_35_0 : se_chkn se_tt [sc_5] se_Z 37 se_zt sc_35 sn_35 6 sn_35_0 = true := by decide +kernel
theorem sm_35 {ty : Nat → Option Nat} {J : List mm_C → Prop} {kx : Nat} {zs : List mm_Zt} (hO : se_Ok ty J kx zs) (h5 : se_Met ty se_tt J kx zs sc_5) : se_Met ty se_tt J kx zs sc_35 := se_sound (C := [sc_5]) hO.1 hO.2.1 hO.2.2 (fun n hn => by
  rcases List.mem_cons.mp hn with rfl | hn
  · exact h5
  exact absurd hn List.not_mem_nil) sk_35 (fun n hn => by
  rcases List.mem_cons.mp hn with rfl | hn
  · exact sk_35_0
  exact absurd hn List.not_mem_nil)
/-- RaftTown.cut -/
def sc_36 : se_C := ((65, 4), ([(((90, 0, 0), 0, (0, 0, 0), (0, 0, 0)), (0, (0, 0, 0), (0, 0, 0))), (((0, (-2147483648), 2147483647), 0, (0, 0, 0), (0, 0, 0)), (0, (0, 1, 0), (0, 0, 0)))], [some (1, 0, 0), some (1, 1, 0)], [], []), [([(((0, (-2147483648), 2147483647), 0, (0, 0, 0), (0, 0, 0)), (0, (0, 0, 0), (0, 0, 0)))], some (1, 2, 0), [], [])], [(37, 0, 9), (38, 0, 24), (39, 0, 40), (40, 0, 40), (41, 0, 40), (42, 0, 40), (45, 0, 12), (46, 0, 12), (47, 0, 12), (48, 0, 10), (72, 2, 3), (73, 4, 5), (73, 5, 6), (74, 4, 5), (74, 5, 6), (77, 7, 8), (88, 7, 8)])
abbrev sn_36 : List se_Nd := []
set_option maxRecDepth 100000 in
theorem sk_36 : se_chk0 se_tt [sc_4, sc_5, sc_17, sc_20, sc_28, sc_34, sc_35] se_Z 37 se_zt sc_36 sn_36 8 = true := by decide +kernel
theorem sm_36 {ty : Nat → Option Nat} {J : List mm_C → Prop} {kx : Nat} {zs : List mm_Zt} (hO : se_Ok ty J kx zs) (h4 : se_Met ty se_tt J kx zs sc_4) (h5 : se_Met ty se_tt J kx zs sc_5) (h17 : se_Met ty se_tt J kx zs sc_17) (h20 : se_Met ty se_tt J kx zs sc_20) (h28 : se_Met ty se_tt J kx zs sc_28) (h34 : se_Met ty se_tt J kx zs sc_34) (h35 : se_Met ty se_tt J kx zs sc_35) : se_Met ty se_tt J kx zs sc_36 := se_sound (C := [sc_4, sc_5, sc_17, sc_20, sc_28, sc_34, sc_35]) hO.1 hO.2.1 hO.2.2 (fun n hn => by
  rcases List.mem_cons.mp hn with rfl | hn
  · exact h4
  rcases List.mem_cons.mp hn with rfl | hn
  · exact h5
  rcases List.mem_cons.mp hn with rfl | hn
  · exact h17
  rcases List.mem_cons.mp hn with rfl | hn
  · exact h20
  rcases List.mem_cons.mp hn with rfl | hn
  · exact h28
  rcases List.mem_cons.mp hn with rfl | hn
  · exact h34
  rcases List.mem_cons.mp hn with rfl | hn
  · exact h35
  exact absurd hn List.not_mem_nil) sk_36 (fun _ hn => absurd hn List.not_mem_nil)
/-- RaftTown.rope -/
def sc_37 : se_C := ((93, 3), ([(((90, 0, 0), 0, (0, 0, 0), (0, 0, 0)), (0, (0, 0, 0), (0, 0, 0))), (((0, (-2147483648), 2147483647), 0, (0, 0, 0), (0, 0, 0)), (0, (0, 1, 0), (0, 0, 0))), (((0, (-2147483648), 2147483647), 0, (0, 0, 0), (0, 0, 0)), (0, (0, 2, 0), (0, 0, 0)))], [some (1, 0, 0), some (1, 1, 0), some (1, 2, 0)], [], []), [([(((0, (-2147483648), 2147483647), 0, (0, 0, 0), (0, 0, 0)), (0, (0, 0, 0), (0, 0, 0)))], some (1, 3, 0), [], [])], [(45, 0, 12), (46, 0, 12), (47, 0, 12), (48, 0, 10), (74, 4, 5), (74, 5, 6), (88, 7, 8)])
abbrev sn_37 : List se_Nd := []
set_option maxRecDepth 100000 in
theorem sk_37 : se_chk0 se_tt [sc_4, sc_23] se_Z 37 se_zt sc_37 sn_37 7 = true := by decide +kernel
theorem sm_37 {ty : Nat → Option Nat} {J : List mm_C → Prop} {kx : Nat} {zs : List mm_Zt} (hO : se_Ok ty J kx zs) (h4 : se_Met ty se_tt J kx zs sc_4) (h23 : se_Met ty se_tt J kx zs sc_23) : se_Met ty se_tt J kx zs sc_37 := se_sound (C := [sc_4, sc_23]) hO.1 hO.2.1 hO.2.2 (fun n hn => by
  rcases List.mem_cons.mp hn with rfl | hn
  · exact h4
  rcases List.mem_cons.mp hn with rfl | hn
  · exact h23
  exact absurd hn List.not_mem_nil) sk_37 (fun _ hn => absurd hn List.not_mem_nil)
/-- RaftTown.bears -/
def sc_38 : se_C := ((94, 3), ([(((90, 0, 0), 0, (0, 0, 0), (0, 0, 0)), (0, (0, 0, 0), (0, 0, 0))), (((0, (-2147483648), 2147483647), 0, (0, 0, 0), (0, 0, 0)), (0, (0, 1, 0), (0, 0, 0))), (((0, (-2147483648), 2147483647), 0, (0, 0, 0), (0, 0, 0)), (0, (0, 2, 0), (0, 0, 0)))], [some (1, 0, 0), some (1, 1, 0), some (1, 2, 0)], [], []), [([(((0, (-2147483648), 2147483647), 0, (0, 0, 0), (0, 0, 0)), (0, (0, 0, 0), (0, 0, 0)))], some (1, 3, 0), [], [])], [(45, 0, 12), (46, 0, 12), (47, 0, 12), (48, 0, 10), (74, 4, 5), (74, 5, 6), (88, 7, 8)])
abbrev sn_38 : List se_Nd := []
set_option maxRecDepth 100000 in
theorem sk_38 : se_chk0 se_tt [sc_4, sc_23] se_Z 37 se_zt sc_38 sn_38 7 = true := by decide +kernel
theorem sm_38 {ty : Nat → Option Nat} {J : List mm_C → Prop} {kx : Nat} {zs : List mm_Zt} (hO : se_Ok ty J kx zs) (h4 : se_Met ty se_tt J kx zs sc_4) (h23 : se_Met ty se_tt J kx zs sc_23) : se_Met ty se_tt J kx zs sc_38 := se_sound (C := [sc_4, sc_23]) hO.1 hO.2.1 hO.2.2 (fun n hn => by
  rcases List.mem_cons.mp hn with rfl | hn
  · exact h4
  rcases List.mem_cons.mp hn with rfl | hn
  · exact h23
  exact absurd hn List.not_mem_nil) sk_38 (fun _ hn => absurd hn List.not_mem_nil)
/-- RaftTown.parts -/
def sc_39 : se_C := ((96, 3), ([(((90, 0, 0), 0, (0, 0, 0), (0, 0, 0)), (0, (0, 0, 0), (0, 0, 0)))], [some (1, 0, 0)], [], []), [([(((0, (-2147483648), 2147483647), 0, (0, 0, 0), (0, 0, 0)), (0, (0, 0, 0), (0, 0, 0)))], some (1, 1, 0), [], [])], [(45, 0, 12), (46, 0, 12), (47, 0, 12), (48, 0, 10), (74, 4, 5), (74, 5, 6)])
abbrev sn_39 : List se_Nd := []
set_option maxRecDepth 100000 in
theorem sk_39 : se_chk0 se_tt [sc_4, sc_35] se_Z 37 se_zt sc_39 sn_39 4 = true := by decide +kernel
theorem sm_39 {ty : Nat → Option Nat} {J : List mm_C → Prop} {kx : Nat} {zs : List mm_Zt} (hO : se_Ok ty J kx zs) (h4 : se_Met ty se_tt J kx zs sc_4) (h35 : se_Met ty se_tt J kx zs sc_35) : se_Met ty se_tt J kx zs sc_39 := se_sound (C := [sc_4, sc_35]) hO.1 hO.2.1 hO.2.2 (fun n hn => by
  rcases List.mem_cons.mp hn with rfl | hn
  · exact h4
  rcases List.mem_cons.mp hn with rfl | hn
  · exact h35
  exact absurd hn List.not_mem_nil) sk_39 (fun _ hn => absurd hn List.not_mem_nil)
/-- RaftTown.part -/
def sc_40 : se_C := ((97, 2), ([(((90, 0, 0), 0, (0, 0, 0), (0, 0, 0)), (0, (0, 0, 0), (0, 0, 0))), (((0, (-2147483648), 2147483647), 0, (0, 0, 0), (0, 0, 0)), (0, (0, 1, 0), (0, 0, 0)))], [some (1, 0, 0), some (1, 1, 0)], [], []), [([(((0, (-2147483648), 2147483647), 0, (0, 0, 0), (0, 0, 0)), (0, (0, 0, 0), (0, 0, 0)))], some (1, 2, 0), [], [])], [(45, 0, 12), (46, 0, 12), (47, 0, 12), (48, 0, 10), (74, 4, 5), (74, 5, 6), (88, 7, 8)])
abbrev sn_40 : List se_Nd := []
set_option maxRecDepth 100000 in
theorem sk_40 : se_chk0 se_tt [sc_4, sc_5] se_Z 37 se_zt sc_40 sn_40 7 = true := by decide +kernel
theorem sm_40 {ty : Nat → Option Nat} {J : List mm_C → Prop} {kx : Nat} {zs : List mm_Zt} (hO : se_Ok ty J kx zs) (h4 : se_Met ty se_tt J kx zs sc_4) (h5 : se_Met ty se_tt J kx zs sc_5) : se_Met ty se_tt J kx zs sc_40 := se_sound (C := [sc_4, sc_5]) hO.1 hO.2.1 hO.2.2 (fun n hn => by
  rcases List.mem_cons.mp hn with rfl | hn
  · exact h4
  rcases List.mem_cons.mp hn with rfl | hn
  · exact h5
  exact absurd hn List.not_mem_nil) sk_40 (fun _ hn => absurd hn List.not_mem_nil)
/-- RaftTown$Net.worstOf -/
def sc_41 : se_C := ((100, 3), ([(((76, 0, 0), 0, (0, 0, 0), (0, 0, 0)), (0, (0, 0, 0), (0, 0, 0))), (((0, (-2147483648), 2147483647), 0, (0, 0, 0), (0, 0, 0)), (0, (0, 1, 0), (0, 0, 0))), (((0, (-2147483648), 2147483647), 0, (0, 0, 0), (0, 0, 0)), (0, (0, 2, 0), (0, 0, 0)))], [some (1, 0, 0), some (1, 1, 0), some (1, 2, 0)], [], []), [([(((0, (-1), 11), 0, (0, 0, 0), (0, 0, 0)), (0, (0, 0, 0), (0, 0, 0)))], some (1, 3, 0), [], [])], [])
def sn_41_0 : se_Nd := (8, ([(((76, 0, 0), 0, (0, 0, 0), (0, 0, 0)), (3, (0, 0, 0), (0, 0, 0))), (((0, (-2147483648), 2147483647), 0, (0, 0, 0), (0, 0, 0)), (3, (0, 1, 0), (0, 0, 0))), (((0, (-2147483648), 2147483647), 0, (0, 0, 0), (0, 0, 0)), (3, (0, 2, 0), (0, 0, 0))), (((0, (-1), 11), 0, (0, 0, 0), (0, 0, 0)), (0, (0, 3, 0), (0, 0, 0))), (((0, 0, 2147483647), 0, (0, 0, 0), (0, 0, 0)), (0, (0, 4, 0), (0, 0, 0))), (((0, 0, 12), 0, (0, 0, 0), (0, 0, 0)), (0, (0, 5, 0), (0, 0, 0)))], [some (1, 0, 0), some (1, 1, 0), some (1, 2, 0), some (1, 3, 0), some (1, 4, 0), some (1, 5, 0), none], [], []), [(0, 0, 0), ((-1), 5, 0), (0, 0, 0)])
abbrev sn_41 : List se_Nd := [sn_41_0]
set_option maxRecDepth 100000 in
theorem sk_41 : se_chk0 se_tt [sc_23] se_Z 37 se_zt sc_41 sn_41 6 = true := by decide +kernel
set_option maxRecDepth 100000 in
theorem sk_41_0 : se_chkn se_tt [sc_23] se_Z 37 se_zt sc_41 sn_41 6 sn_41_0 = true := by decide +kernel
theorem sm_41 {ty : Nat → Option Nat} {J : List mm_C → Prop} {kx : Nat} {zs : List mm_Zt} (hO : se_Ok ty J kx zs) (h23 : se_Met ty se_tt J kx zs sc_23) : se_Met ty se_tt J kx zs sc_41 := se_sound (C := [sc_23]) hO.1 hO.2.1 hO.2.2 (fun n hn => by
  rcases List.mem_cons.mp hn with rfl | hn
  · exact h23
  exact absurd hn List.not_mem_nil) sk_41 (fun n hn => by
  rcases List.mem_cons.mp hn with rfl | hn
  · exact sk_41_0
  exact absurd hn List.not_mem_nil)
/-- RaftTown$Net.countParting -/
def sc_42 : se_C := ((99, 4), ([(((76, 0, 0), 0, (0, 0, 0), (0, 0, 0)), (0, (0, 0, 0), (0, 0, 0))), (((0, (-2147483648), 2147483647), 0, (0, 0, 0), (0, 0, 0)), (0, (0, 1, 0), (0, 0, 0))), (((0, (-2147483648), 2147483647), 0, (0, 0, 0), (0, 0, 0)), (0, (0, 2, 0), (0, 0, 0))), (((0, (-2147483648), 2147483647), 0, (0, 0, 0), (0, 0, 0)), (0, (0, 3, 0), (0, 0, 0)))], [some (1, 0, 0), some (1, 1, 0), some (1, 2, 0), some (1, 3, 0)], [], []), [([(((0, 0, 2147483647), 0, (0, 0, 0), (0, 0, 0)), (0, (0, 0, 0), (0, 0, 0)))], some (1, 4, 0), [], [])], [])
def sn_42_0 : se_Nd := (9, ([(((76, 0, 0), 0, (0, 0, 0), (0, 0, 0)), (3, (0, 0, 0), (0, 0, 0))), (((0, (-2147483648), 2147483647), 0, (0, 0, 0), (0, 0, 0)), (3, (0, 1, 0), (0, 0, 0))), (((0, (-2147483648), 2147483647), 0, (0, 0, 0), (0, 0, 0)), (3, (0, 2, 0), (0, 0, 0))), (((0, (-2147483648), 2147483647), 0, (0, 0, 0), (0, 0, 0)), (3, (0, 3, 0), (0, 0, 0))), (((0, (-2147483648), 2147483647), 0, (0, 0, 0), (0, 0, 0)), (0, (0, 4, 0), (0, 0, 0))), (((0, 0, 2147483647), 0, (0, 0, 0), (0, 0, 0)), (0, (0, 5, 0), (0, 0, 0))), (((0, 0, 12), 0, (0, 0, 0), (0, 0, 0)), (0, (0, 6, 0), (0, 0, 0)))], [some (1, 0, 0), some (1, 1, 0), some (1, 2, 0), some (1, 3, 0), some (1, 4, 0), some (1, 5, 0), some (1, 6, 0), none], [], []), [(0, 0, 0), ((-1), 5, 0), (0, 0, 0)])
abbrev sn_42 : List se_Nd := [sn_42_0]
set_option maxRecDepth 100000 in
theorem sk_42 : se_chk0 se_tt [sc_41] se_Z 37 se_zt sc_42 sn_42 5 = true := by decide +kernel
set_option maxRecDepth 100000 in
theorem sk_42_0 : se_chkn se_tt [sc_41] se_Z 37 se_zt sc_42 sn_42 5 sn_42_0 = true := by decide +kernel
theorem sm_42 {ty : Nat → Option Nat} {J : List mm_C → Prop} {kx : Nat} {zs : List mm_Zt} (hO : se_Ok ty J kx zs) (h41 : se_Met ty se_tt J kx zs sc_41) : se_Met ty se_tt J kx zs sc_42 := se_sound (C := [sc_41]) hO.1 hO.2.1 hO.2.2 (fun n hn => by
  rcases List.mem_cons.mp hn with rfl | hn
  · exact h41
  exact absurd hn List.not_mem_nil) sk_42 (fun n hn => by
  rcases List.mem_cons.mp hn with rfl | hn
  · exact sk_42_0
  exact absurd hn List.not_mem_nil)
/-- RaftTown$Net.partingAt -/
def sc_43 : se_C := ((101, 4), ([(((76, 0, 0), 0, (0, 0, 0), (0, 0, 0)), (0, (0, 0, 0), (0, 0, 0))), (((0, (-2147483648), 2147483647), 0, (0, 0, 0), (0, 0, 0)), (0, (0, 1, 0), (0, 0, 0))), (((0, (-2147483648), 2147483647), 0, (0, 0, 0), (0, 0, 0)), (0, (0, 2, 0), (0, 0, 0)))], [some (1, 0, 0), some (1, 1, 0), some (1, 2, 0)], [], []), [([(((0, (-1), 11), 0, (0, 0, 0), (0, 0, 0)), (0, (0, 0, 0), (0, 0, 0)))], some (1, 3, 0), [], [])], [])
def sn_43_0 : se_Nd := (8, ([(((76, 0, 0), 0, (0, 0, 0), (0, 0, 0)), (3, (0, 0, 0), (0, 0, 0))), (((0, (-2147483648), 2147483647), 0, (0, 0, 0), (0, 0, 0)), (3, (0, 1, 0), (0, 0, 0))), (((0, (-2147483648), 2147483647), 0, (0, 0, 0), (0, 0, 0)), (3, (0, 2, 0), (0, 0, 0))), (((0, 0, 4095), 0, (0, 0, 0), (0, 0, 0)), (0, (0, 3, 0), (0, 0, 0))), (((0, 0, 12), 0, (0, 0, 0), (0, 0, 0)), (0, (0, 4, 0), (0, 0, 0)))], [some (1, 0, 0), some (1, 1, 0), some (1, 2, 0), some (1, 3, 0), some (1, 4, 0), none], [], []), [(0, 0, 0), ((-1), 4, 0), (0, 0, 0)])
abbrev sn_43 : List se_Nd := [sn_43_0]
set_option maxRecDepth 100000 in
theorem sk_43 : se_chk0 se_tt [sc_41] se_Z 37 se_zt sc_43 sn_43 5 = true := by decide +kernel
set_option maxRecDepth 100000 in
theorem sk_43_0 : se_chkn se_tt [sc_41] se_Z 37 se_zt sc_43 sn_43 5 sn_43_0 = true := by decide +kernel
theorem sm_43 {ty : Nat → Option Nat} {J : List mm_C → Prop} {kx : Nat} {zs : List mm_Zt} (hO : se_Ok ty J kx zs) (h41 : se_Met ty se_tt J kx zs sc_41) : se_Met ty se_tt J kx zs sc_43 := se_sound (C := [sc_41]) hO.1 hO.2.1 hO.2.2 (fun n hn => by
  rcases List.mem_cons.mp hn with rfl | hn
  · exact h41
  exact absurd hn List.not_mem_nil) sk_43 (fun n hn => by
  rcases List.mem_cons.mp hn with rfl | hn
  · exact sk_43_0
  exact absurd hn List.not_mem_nil)
/-- RaftTown.worst -/
def sc_44 : se_C := ((98, 5), ([(((90, 0, 0), 0, (0, 0, 0), (0, 0, 0)), (0, (0, 0, 0), (0, 0, 0))), (((0, (-2147483648), 2147483647), 0, (0, 0, 0), (0, 0, 0)), (0, (0, 1, 0), (0, 0, 0))), (((0, (-2147483648), 2147483647), 0, (0, 0, 0), (0, 0, 0)), (0, (0, 2, 0), (0, 0, 0)))], [some (1, 0, 0), some (1, 1, 0), some (1, 2, 0)], [], []), [([(((0, (-100006), 2147483647), 0, (0, 0, 0), (0, 0, 0)), (0, (0, 0, 0), (0, 0, 0)))], some (1, 3, 0), [], [])], [(45, 0, 12), (46, 0, 12), (47, 0, 12), (48, 0, 10), (74, 4, 5), (74, 5, 6), (88, 7, 8)])
abbrev sn_44 : List se_Nd := []
set_option maxRecDepth 100000 in
theorem sk_44 : se_chk0 se_tt [sc_4, sc_42, sc_43] se_Z 37 se_zt sc_44 sn_44 6 = true := by decide +kernel
theorem sm_44 {ty : Nat → Option Nat} {J : List mm_C → Prop} {kx : Nat} {zs : List mm_Zt} (hO : se_Ok ty J kx zs) (h4 : se_Met ty se_tt J kx zs sc_4) (h42 : se_Met ty se_tt J kx zs sc_42) (h43 : se_Met ty se_tt J kx zs sc_43) : se_Met ty se_tt J kx zs sc_44 := se_sound (C := [sc_4, sc_42, sc_43]) hO.1 hO.2.1 hO.2.2 (fun n hn => by
  rcases List.mem_cons.mp hn with rfl | hn
  · exact h4
  rcases List.mem_cons.mp hn with rfl | hn
  · exact h42
  rcases List.mem_cons.mp hn with rfl | hn
  · exact h43
  exact absurd hn List.not_mem_nil) sk_44 (fun _ hn => absurd hn List.not_mem_nil)
