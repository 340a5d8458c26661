/-! ===== printed by wip/p2/gen_tab.py: contracts and their checks ===== -/
/-- RaftTown$Town.partUnder -/
def sc_45 : se_C := ((105, 4), ([(((89, 0, 0), 0, (0, 0, 0), (0, 0, 0)), (0, (0, 0, 0), (0, 0, 0))), (((0, (-2147483648), 2147483647), 0, (0, 0, 0), (0, 0, 0)), (0, (0, 1, 0), (0, 0, 0))), (((76, 0, 0), 0, (0, 0, 0), (0, 0, 0)), (0, (0, 2, 0), (0, 0, 0)))], [some (1, 0, 0), some (1, 1, 0), some (1, 2, 0)], [], []), [([(((0, (-2147483648), 2147483647), 0, (0, 0, 0), (0, 0, 0)), (0, (0, 0, 0), (0, 0, 0)))], some (1, 3, 0), [], [])], [(39, 0, 40), (40, 0, 40), (41, 0, 40), (42, 0, 40), (73, 4, 5), (73, 5, 6), (74, 4, 5), (77, 7, 8)])
def sn_45_0 : se_Nd := (5, ([(((89, 0, 0), 0, (0, 0, 0), (0, 0, 0)), (3, (0, 0, 0), (0, 0, 0))), (((0, (-2147483648), 2147483647), 0, (0, 0, 0), (0, 0, 0)), (3, (0, 1, 0), (0, 0, 0))), (((76, 0, 0), 0, (0, 0, 0), (0, 0, 0)), (3, (0, 2, 0), (0, 0, 0))), (((0, (-2147483648), 2147483647), 0, (0, 0, 0), (0, 0, 0)), (0, (0, 3, 0), (0, 0, 0))), (((0, 0, 12), 0, (0, 0, 0), (0, 0, 0)), (0, (0, 4, 0), (0, 0, 0)))], [some (1, 0, 0), some (1, 1, 0), some (1, 2, 0), some (1, 3, 0), some (1, 4, 0), none], [], []), [(0, 0, 0), ((-1), 4, 0), (0, 0, 0)])
abbrev sn_45 : List se_Nd := [sn_45_0]
set_option maxRecDepth 100000 in
theorem sk_45 : se_chk0 se_tt [sc_5, sc_17, sc_41] se_Z 37 se_zt sc_45 sn_45 7 = true := by decide +kernel
set_option maxRecDepth 100000 in
theorem sk_45_0 : se_chkn se_tt [sc_5, sc_17, sc_41] se_Z 37 se_zt sc_45 sn_45 7 sn_45_0 = true := by decide +kernel
theorem sm_45 {ty : Nat → Option Nat} {J : List mm_C → Prop} {kx : Nat} {zs : List mm_Zt} (hO : se_Ok ty J kx zs) (h5 : se_Met ty se_tt J kx zs sc_5) (h17 : se_Met ty se_tt J kx zs sc_17) (h41 : se_Met ty se_tt J kx zs sc_41) : se_Met ty se_tt J kx zs sc_45 := se_sound (C := [sc_5, sc_17, sc_41]) hO.1 hO.2.1 hO.2.2 (fun n hn => by
  rcases List.mem_cons.mp hn with rfl | hn
  · exact h5
  rcases List.mem_cons.mp hn with rfl | hn
  · exact h17
  rcases List.mem_cons.mp hn with rfl | hn
  · exact h41
  exact absurd hn List.not_mem_nil) sk_45 (fun n hn => by
  rcases List.mem_cons.mp hn with rfl | hn
  · exact sk_45_0
  exact absurd hn List.not_mem_nil)
/-- RaftTown$Town.catchRain -/
def sc_46 : se_C := ((107, 1), ([(((89, 0, 0), 0, (0, 0, 0), (0, 0, 0)), (0, (0, 0, 0), (0, 0, 0))), (((0, (-2147483648), 2147483647), 0, (0, 0, 0), (0, 0, 0)), (0, (0, 1, 0), (0, 0, 0)))], [some (1, 0, 0), some (1, 1, 0)], [], []), [([], none, [], [])], [(76, 4, 5)])
def sn_46_0 : se_Nd := (2, ([(((89, 0, 0), 0, (0, 0, 0), (0, 0, 0)), (3, (0, 0, 0), (0, 0, 0))), (((0, (-2147483648), 2147483647), 0, (0, 0, 0), (0, 0, 0)), (3, (0, 1, 0), (0, 0, 0))), (((0, 0, 2147483647), 0, (0, 0, 0), (0, 0, 0)), (0, (0, 2, 0), (0, 0, 0)))], [some (1, 0, 0), some (1, 1, 0), some (1, 2, 0), none], [], []), [(0, 0, 0), ((-1), 2, 0), (0, 0, 0)])
abbrev sn_46 : List se_Nd := [sn_46_0]
set_option maxRecDepth 100000 in
theorem sk_46 : se_chk0 se_tt [] se_Z 37 se_zt sc_46 sn_46 7 = true := by decide +kernel
set_option maxRecDepth 100000 in
theorem sk_46_0 : se_chkn se_tt [] se_Z 37 se_zt sc_46 sn_46 7 sn_46_0 = true := by decide +kernel
theorem sm_46 {ty : Nat → Option Nat} {J : List mm_C → Prop} {kx : Nat} {zs : List mm_Zt} (hO : se_Ok ty J kx zs) : se_Met ty se_tt J kx zs sc_46 := se_sound (C := []) hO.1 hO.2.1 hO.2.2 (fun _ hn => absurd hn List.not_mem_nil) sk_46 (fun n hn => by
  rcases List.mem_cons.mp hn with rfl | hn
  · exact sk_46_0
  exact absurd hn List.not_mem_nil)
/-- RaftTown$Town.waterGardens -/
def sc_47 : se_C := ((108, 1), ([(((89, 0, 0), 0, (0, 0, 0), (0, 0, 0)), (0, (0, 0, 0), (0, 0, 0)))], [some (1, 0, 0)], [], []), [([], none, [], [])], [(76, 4, 5), (87, 10, 11)])
def sn_47_0 : se_Nd := (2, ([(((89, 0, 0), 0, (0, 0, 0), (0, 0, 0)), (3, (0, 0, 0), (0, 0, 0))), (((0, 0, 2147483647), 0, (0, 0, 0), (0, 0, 0)), (0, (0, 1, 0), (0, 0, 0)))], [some (1, 0, 0), some (1, 1, 0), none], [], []), [(0, 0, 0), ((-1), 1, 0), (0, 0, 0)])
abbrev sn_47 : List se_Nd := [sn_47_0]
set_option maxRecDepth 100000 in
theorem sk_47 : se_chk0 se_tt [] se_Z 37 se_zt sc_47 sn_47 6 = true := by decide +kernel
set_option maxRecDepth 100000 in
theorem sk_47_0 : se_chkn se_tt [] se_Z 37 se_zt sc_47 sn_47 6 sn_47_0 = true := by decide +kernel
theorem sm_47 {ty : Nat → Option Nat} {J : List mm_C → Prop} {kx : Nat} {zs : List mm_Zt} (hO : se_Ok ty J kx zs) : se_Met ty se_tt J kx zs sc_47 := se_sound (C := []) hO.1 hO.2.1 hO.2.2 (fun _ hn => absurd hn List.not_mem_nil) sk_47 (fun n hn => by
  rcases List.mem_cons.mp hn with rfl | hn
  · exact sk_47_0
  exact absurd hn List.not_mem_nil)
/-- RaftTown$Town.fullestOf -/
def sc_48 : se_C := ((111, 2), ([(((89, 0, 0), 0, (0, 0, 0), (0, 0, 0)), (0, (0, 0, 0), (0, 0, 0))), (((0, (-2147483648), 2147483647), 0, (0, 0, 0), (0, 0, 0)), (0, (0, 1, 0), (0, 0, 0)))], [some (1, 0, 0), some (1, 1, 0)], [], []), [([(((78, 0, 0), 0, (0, 0, 0), (0, 0, 0)), (0, (0, 0, 0), (0, 0, 0)))], some (1, 2, 0), [], [])], [])
def sn_48_0 : se_Nd := (11, ([(((89, 0, 0), 0, (0, 0, 0), (0, 0, 0)), (3, (0, 0, 0), (0, 0, 0))), (((0, (-2147483648), 2147483647), 0, (0, 0, 0), (0, 0, 0)), (3, (0, 1, 0), (0, 0, 0))), (((78, 0, 0), 0, (0, 0, 0), (0, 0, 0)), (0, (0, 2, 0), (0, 0, 0))), (((0, 0, 10), 0, (0, 0, 0), (0, 0, 0)), (0, (0, 3, 0), (0, 0, 0)))], [some (1, 0, 0), some (1, 1, 0), some (1, 2, 0), some (1, 3, 0)], [], []), [(0, 0, 0), ((-1), 3, 0), (0, 0, 0)])
abbrev sn_48 : List se_Nd := [sn_48_0]
set_option maxRecDepth 100000 in
theorem sk_48 : se_chk0 se_tt [sc_6] se_Z 37 se_zt sc_48 sn_48 5 = true := by decide +kernel
set_option maxRecDepth 100000 in
theorem sk_48_0 : se_chkn se_tt [sc_6] se_Z 37 se_zt sc_48 sn_48 5 sn_48_0 = true := by decide +kernel
theorem sm_48 {ty : Nat → Option Nat} {J : List mm_C → Prop} {kx : Nat} {zs : List mm_Zt} (hO : se_Ok ty J kx zs) (h6 : se_Met ty se_tt J kx zs sc_6) : se_Met ty se_tt J kx zs sc_48 := se_sound (C := [sc_6]) hO.1 hO.2.1 hO.2.2 (fun n hn => by
  rcases List.mem_cons.mp hn with rfl | hn
  · exact h6
  exact absurd hn List.not_mem_nil) sk_48 (fun n hn => by
  rcases List.mem_cons.mp hn with rfl | hn
  · exact sk_48_0
  exact absurd hn List.not_mem_nil)
/-- RaftTown$Town.drink -/
def sc_49 : se_C := ((110, 3), ([(((89, 0, 0), 0, (0, 0, 0), (0, 0, 0)), (0, (0, 0, 0), (0, 0, 0))), (((0, (-2147483648), 2147483647), 0, (0, 0, 0), (0, 0, 0)), (0, (0, 1, 0), (0, 0, 0))), (((0, (-2147483648), 2147483647), 0, (0, 0, 0), (0, 0, 0)), (0, (0, 2, 0), (0, 0, 0)))], [some (1, 0, 0), some (1, 1, 0), some (1, 2, 0)], [], []), [([], none, [], [])], [(39, 0, 40), (40, 0, 40), (41, 0, 40), (42, 0, 40), (73, 4, 5), (73, 5, 6), (75, 5, 6), (75, 6, 7), (76, 4, 5), (87, 10, 11)])
abbrev sn_49 : List se_Nd := []
set_option maxRecDepth 100000 in
theorem sk_49 : se_chk0 se_tt [sc_17, sc_48] se_Z 37 se_zt sc_49 sn_49 7 = true := by decide +kernel
theorem sm_49 {ty : Nat → Option Nat} {J : List mm_C → Prop} {kx : Nat} {zs : List mm_Zt} (hO : se_Ok ty J kx zs) (h17 : se_Met ty se_tt J kx zs sc_17) (h48 : se_Met ty se_tt J kx zs sc_48) : se_Met ty se_tt J kx zs sc_49 := se_sound (C := [sc_17, sc_48]) hO.1 hO.2.1 hO.2.2 (fun n hn => by
  rcases List.mem_cons.mp hn with rfl | hn
  · exact h17
  rcases List.mem_cons.mp hn with rfl | hn
  · exact h48
  exact absurd hn List.not_mem_nil) sk_49 (fun _ hn => absurd hn List.not_mem_nil)
/-- RaftTown$Town.drinkAll -/
def sc_50 : se_C := ((109, 4), ([(((89, 0, 0), 0, (0, 0, 0), (0, 0, 0)), (0, (0, 0, 0), (0, 0, 0))), (((76, 0, 0), 0, (0, 0, 0), (0, 0, 0)), (0, (0, 1, 0), (0, 0, 0)))], [some (1, 0, 0), some (1, 1, 0)], [], []), [([], none, [], [])], [(39, 0, 40), (40, 0, 40), (41, 0, 40), (42, 0, 40), (73, 4, 5), (73, 5, 6), (75, 5, 6), (75, 6, 7), (76, 4, 5), (87, 10, 11)])
def sn_50_0 : se_Nd := (2, ([(((89, 0, 0), 0, (0, 0, 0), (0, 0, 0)), (3, (0, 0, 0), (0, 0, 0))), (((76, 0, 0), 0, (0, 0, 0), (0, 0, 0)), (3, (0, 1, 0), (0, 0, 0))), (((0, 0, 2147483647), 0, (0, 0, 0), (0, 0, 0)), (0, (0, 2, 0), (0, 0, 0)))], [some (1, 0, 0), some (1, 1, 0), some (1, 2, 0), none], [], []), [(0, 0, 0), ((-1), 2, 0), (0, 0, 0)])
abbrev sn_50 : List se_Nd := [sn_50_0]
set_option maxRecDepth 100000 in
theorem sk_50 : se_chk0 se_tt [sc_5, sc_49] se_Z 37 se_zt sc_50 sn_50 6 = true := by decide +kernel
set_option maxRecDepth 100000 in
theorem sk_50_0 : se_chkn se_tt [sc_5, sc_49] se_Z 37 se_zt sc_50 sn_50 6 sn_50_0 = true := by decide +kernel
theorem sm_50 {ty : Nat → Option Nat} {J : List mm_C → Prop} {kx : Nat} {zs : List mm_Zt} (hO : se_Ok ty J kx zs) (h5 : se_Met ty se_tt J kx zs sc_5) (h49 : se_Met ty se_tt J kx zs sc_49) : se_Met ty se_tt J kx zs sc_50 := se_sound (C := [sc_5, sc_49]) hO.1 hO.2.1 hO.2.2 (fun n hn => by
  rcases List.mem_cons.mp hn with rfl | hn
  · exact h5
  rcases List.mem_cons.mp hn with rfl | hn
  · exact h49
  exact absurd hn List.not_mem_nil) sk_50 (fun n hn => by
  rcases List.mem_cons.mp hn with rfl | hn
  · exact sk_50_0
  exact absurd hn List.not_mem_nil)
/-- RaftTown$Town.ageRopes -/
def sc_51 : se_C := ((113, 1), ([(((89, 0, 0), 0, (0, 0, 0), (0, 0, 0)), (0, (0, 0, 0), (0, 0, 0))), (((0, 0, 1), 0, (0, 0, 0), (0, 0, 0)), (0, (0, 1, 0), (0, 0, 0)))], [some (1, 0, 0), some (1, 1, 0)], [], []), [([], none, [], [])], [(77, 5, 6), (77, 6, 7)])
def sn_51_0 : se_Nd := (2, ([(((89, 0, 0), 0, (0, 0, 0), (0, 0, 0)), (3, (0, 0, 0), (0, 0, 0))), (((0, 0, 1), 0, (0, 0, 0), (0, 0, 0)), (3, (0, 1, 0), (0, 0, 0))), (((0, 0, 12), 0, (0, 0, 0), (0, 0, 0)), (0, (0, 2, 0), (0, 0, 0)))], [some (1, 0, 0), some (1, 1, 0), some (1, 2, 0)], [], []), [(0, 0, 0), ((-1), 2, 0), (0, 0, 0)])
abbrev sn_51 : List se_Nd := [sn_51_0]
set_option maxRecDepth 100000 in
theorem sk_51 : se_chk0 se_tt [] se_Z 37 se_zt sc_51 sn_51 6 = true := by decide +kernel
set_option maxRecDepth 100000 in
theorem sk_51_0 : se_chkn se_tt [] se_Z 37 se_zt sc_51 sn_51 6 sn_51_0 = true := by decide +kernel
theorem sm_51 {ty : Nat → Option Nat} {J : List mm_C → Prop} {kx : Nat} {zs : List mm_Zt} (hO : se_Ok ty J kx zs) : se_Met ty se_tt J kx zs sc_51 := se_sound (C := []) hO.1 hO.2.1 hO.2.2 (fun _ hn => absurd hn List.not_mem_nil) sk_51 (fun n hn => by
  rcases List.mem_cons.mp hn with rfl | hn
  · exact sk_51_0
  exact absurd hn List.not_mem_nil)
/-- RaftTown$Town.sink -/
def sc_52 : se_C := ((115, 2), ([(((89, 0, 0), 0, (0, 0, 0), (0, 0, 0)), (0, (0, 0, 0), (0, 0, 0))), (((0, (-2147483648), 2147483647), 0, (0, 0, 0), (0, 0, 0)), (0, (0, 1, 0), (0, 0, 0))), (((76, 0, 0), 0, (0, 0, 0), (0, 0, 0)), (0, (0, 2, 0), (0, 0, 0)))], [some (1, 0, 0), some (1, 1, 0), some (1, 2, 0)], [], []), [([], none, [], [])], [(39, 0, 40), (40, 0, 40), (41, 0, 40), (42, 0, 40), (45, 0, 12), (46, 0, 12), (47, 0, 12), (48, 0, 10), (73, 4, 5), (73, 5, 6), (74, 4, 5), (74, 5, 6), (75, 0, 1), (75, 6, 7), (76, 4, 5), (76, 5, 6), (76, 6, 7), (77, 7, 8), (87, 11, 12)])
def sn_52_0 : se_Nd := (32, ([(((89, 0, 0), 0, (0, 0, 0), (0, 0, 0)), (3, (0, 0, 0), (0, 0, 0))), (((0, (-2147483648), 2147483647), 0, (0, 0, 0), (0, 0, 0)), (3, (0, 1, 0), (0, 0, 0))), (((76, 0, 0), 0, (0, 0, 0), (0, 0, 0)), (3, (0, 2, 0), (0, 0, 0))), (((0, (-2147483648), 2147483647), 0, (0, 0, 0), (0, 0, 0)), (0, (0, 3, 0), (0, 0, 0))), (((0, (-2147483648), 2147483647), 0, (0, 0, 0), (0, 0, 0)), (0, (0, 4, 0), (0, 0, 0))), (((0, 0, 14), 0, (0, 0, 0), (0, 0, 0)), (0, (0, 5, 0), (0, 0, 0)))], [some (1, 0, 0), some (1, 1, 0), some (1, 2, 0), some (1, 3, 0), some (1, 4, 0), some (1, 5, 0), none], [], []), [(0, 0, 1), ((-1), 5, 0), (0, 0, 0)])
def sn_52_1 : se_Nd := (151, ([(((89, 0, 0), 0, (0, 0, 0), (0, 0, 0)), (3, (0, 0, 0), (0, 0, 0))), (((0, (-2147483648), 2147483647), 0, (0, 0, 0), (0, 0, 0)), (3, (0, 1, 0), (0, 0, 0))), (((76, 0, 0), 0, (0, 0, 0), (0, 0, 0)), (3, (0, 2, 0), (0, 0, 0))), (((0, (-2147483648), 2147483647), 0, (0, 0, 0), (0, 0, 0)), (0, (0, 3, 0), (0, 0, 0))), (((0, (-2147483648), 2147483647), 0, (0, 0, 0), (0, 0, 0)), (0, (0, 4, 0), (0, 0, 0))), (((78, 0, 0), 0, (0, 0, 0), (0, 0, 0)), (0, (0, 5, 0), (0, 0, 0))), (((0, 0, 12), 0, (0, 0, 0), (0, 0, 0)), (0, (0, 6, 0), (0, 0, 0)))], [some (1, 0, 0), some (1, 1, 0), some (1, 2, 0), some (1, 3, 0), some (1, 4, 0), some (1, 5, 0), some (1, 6, 0)], [], []), [(0, 0, 0), ((-1), 6, 0), (0, 0, 0)])
abbrev sn_52 : List se_Nd := [sn_52_0, sn_52_1]
set_option maxRecDepth 100000 in
theorem sk_52 : se_chk0 se_tt [sc_4, sc_5, sc_6, sc_17] se_Z 37 se_zt sc_52 sn_52 7 = true := by decide +kernel
set_option maxRecDepth 100000 in
theorem sk_52_0 : se_chkn se_tt [sc_4, sc_5, sc_6, sc_17] se_Z 37 se_zt sc_52 sn_52 7 sn_52_0 = true := by decide +kernel
set_option maxRecDepth 100000 in
theorem sk_52_1 : se_chkn se_tt [sc_4, sc_5, sc_6, sc_17] se_Z 37 se_zt sc_52 sn_52 7 sn_52_1 = true := by decide +kernel
theorem sm_52 {ty : Nat → Option Nat} {J : List mm_C → Prop} {kx : Nat} {zs : List mm_Zt} (hO : se_Ok ty J kx zs) (h4 : se_Met ty se_tt J kx zs sc_4) (h5 : se_Met ty se_tt J kx zs sc_5) (h6 : se_Met ty se_tt J kx zs sc_6) (h17 : se_Met ty se_tt J kx zs sc_17) : se_Met ty se_tt J kx zs sc_52 := se_sound (C := [sc_4, sc_5, sc_6, sc_17]) hO.1 hO.2.1 hO.2.2 (fun n hn => by
  rcases List.mem_cons.mp hn with rfl | hn
  · exact h4
  rcases List.mem_cons.mp hn with rfl | hn
  · exact h5
  rcases List.mem_cons.mp hn with rfl | hn
  · exact h6
  rcases List.mem_cons.mp hn with rfl | hn
  · exact h17
  exact absurd hn List.not_mem_nil) sk_52 (fun n hn => by
  rcases List.mem_cons.mp hn with rfl | hn
  · exact sk_52_0
  rcases List.mem_cons.mp hn with rfl | hn
  · exact sk_52_1
  exact absurd hn List.not_mem_nil)
/-- RaftTown$Town.rot -/
def sc_53 : se_C := ((114, 3), ([(((89, 0, 0), 0, (0, 0, 0), (0, 0, 0)), (0, (0, 0, 0), (0, 0, 0))), (((76, 0, 0), 0, (0, 0, 0), (0, 0, 0)), (0, (0, 1, 0), (0, 0, 0)))], [some (1, 0, 0), some (1, 1, 0)], [], []), [([], none, [], [])], [(39, 0, 40), (40, 0, 40), (41, 0, 40), (42, 0, 40), (45, 0, 12), (46, 0, 12), (47, 0, 12), (48, 0, 10), (73, 4, 5), (73, 5, 6), (74, 4, 5), (74, 5, 6), (75, 0, 1), (75, 6, 7), (76, 2, 3), (76, 4, 5), (76, 5, 6), (76, 6, 7), (77, 7, 8), (87, 11, 12)])
def sn_53_0 : se_Nd := (18, ([(((89, 0, 0), 0, (0, 0, 0), (0, 0, 0)), (3, (0, 0, 0), (0, 0, 0))), (((76, 0, 0), 0, (0, 0, 0), (0, 0, 0)), (3, (0, 1, 0), (0, 0, 0))), (((0, 0, 1), 0, (0, 0, 0), (0, 0, 0)), (0, (0, 2, 0), (0, 0, 0))), (((0, 0, 2147483647), 0, (0, 0, 0), (0, 0, 0)), (0, (0, 3, 0), (0, 0, 0)))], [some (1, 0, 0), some (1, 1, 0), some (1, 2, 0), some (1, 3, 0), none], [], []), [(0, 0, 0), ((-1), 3, 0), (0, 0, 0)])
abbrev sn_53 : List se_Nd := [sn_53_0]
set_option maxRecDepth 100000 in
theorem sk_53 : se_chk0 se_tt [sc_52] se_Z 37 se_zt sc_53 sn_53 6 = true := by decide +kernel
set_option maxRecDepth 100000 in
theorem sk_53_0 : se_chkn se_tt [sc_52] se_Z 37 se_zt sc_53 sn_53 6 sn_53_0 = true := by decide +kernel
theorem sm_53 {ty : Nat → Option Nat} {J : List mm_C → Prop} {kx : Nat} {zs : List mm_Zt} (hO : se_Ok ty J kx zs) (h52 : se_Met ty se_tt J kx zs sc_52) : se_Met ty se_tt J kx zs sc_53 := se_sound (C := [sc_52]) hO.1 hO.2.1 hO.2.2 (fun n hn => by
  rcases List.mem_cons.mp hn with rfl | hn
  · exact h52
  exact absurd hn List.not_mem_nil) sk_53 (fun n hn => by
  rcases List.mem_cons.mp hn with rfl | hn
  · exact sk_53_0
  exact absurd hn List.not_mem_nil)
/-- RaftTown$Town.drift -/
def sc_54 : se_C := ((117, 1), ([(((89, 0, 0), 0, (0, 0, 0), (0, 0, 0)), (0, (0, 0, 0), (0, 0, 0)))], [some (1, 0, 0)], [], []), [([], none, [], [])], [(76, 1, 2)])
def sn_54_0 : se_Nd := (2, ([(((89, 0, 0), 0, (0, 0, 0), (0, 0, 0)), (3, (0, 0, 0), (0, 0, 0))), (((0, 0, 2147483647), 0, (0, 0, 0), (0, 0, 0)), (0, (0, 1, 0), (0, 0, 0)))], [some (1, 0, 0), some (1, 1, 0), none], [], []), [(0, 0, 0), ((-1), 1, 0), (0, 0, 0)])
abbrev sn_54 : List se_Nd := [sn_54_0]
set_option maxRecDepth 100000 in
theorem sk_54 : se_chk0 se_tt [] se_Z 37 se_zt sc_54 sn_54 7 = true := by decide +kernel
set_option maxRecDepth 100000 in
theorem sk_54_0 : se_chkn se_tt [] se_Z 37 se_zt sc_54 sn_54 7 sn_54_0 = true := by decide +kernel
theorem sm_54 {ty : Nat → Option Nat} {J : List mm_C → Prop} {kx : Nat} {zs : List mm_Zt} (hO : se_Ok ty J kx zs) : se_Met ty se_tt J kx zs sc_54 := se_sound (C := []) hO.1 hO.2.1 hO.2.2 (fun _ hn => absurd hn List.not_mem_nil) sk_54 (fun n hn => by
  rcases List.mem_cons.mp hn with rfl | hn
  · exact sk_54_0
  exact absurd hn List.not_mem_nil)
/-- RaftTown.day -/
def sc_55 : se_C := ((102, 5), ([(((90, 0, 0), 0, (0, 0, 0), (0, 0, 0)), (0, (0, 0, 0), (0, 0, 0))), (((0, (-2147483648), 2147483647), 0, (0, 0, 0), (0, 0, 0)), (0, (0, 1, 0), (0, 0, 0))), (((0, (-2147483648), 2147483647), 0, (0, 0, 0), (0, 0, 0)), (0, (0, 2, 0), (0, 0, 0)))], [some (1, 0, 0), some (1, 1, 0), some (1, 2, 0)], [], []), [([(((0, (-2147483648), 2147483647), 0, (0, 0, 0), (0, 0, 0)), (0, (0, 0, 0), (0, 0, 0)))], some (1, 3, 0), [], [])], [(39, 0, 40), (40, 0, 40), (41, 0, 40), (42, 0, 40), (45, 0, 12), (46, 0, 12), (47, 0, 12), (48, 0, 10), (73, 4, 5), (73, 5, 6), (74, 4, 5), (74, 5, 6), (75, 0, 1), (75, 5, 6), (75, 6, 7), (76, 1, 2), (76, 2, 3), (76, 4, 5), (76, 5, 6), (76, 6, 7), (77, 5, 6), (77, 6, 7), (77, 7, 8), (87, 9, 10), (87, 10, 11), (87, 11, 12), (88, 7, 8)])
abbrev sn_55 : List se_Nd := []
set_option maxRecDepth 100000 in
theorem sk_55 : se_chk0 se_tt [sc_4, sc_45, sc_46, sc_47, sc_50, sc_51, sc_53, sc_54] se_Z 37 se_zt sc_55 sn_55 7 = true := by decide +kernel
theorem sm_55 {ty : Nat → Option Nat} {J : List mm_C → Prop} {kx : Nat} {zs : List mm_Zt} (hO : se_Ok ty J kx zs) (h4 : se_Met ty se_tt J kx zs sc_4) (h45 : se_Met ty se_tt J kx zs sc_45) (h46 : se_Met ty se_tt J kx zs sc_46) (h47 : se_Met ty se_tt J kx zs sc_47) (h50 : se_Met ty se_tt J kx zs sc_50) (h51 : se_Met ty se_tt J kx zs sc_51) (h53 : se_Met ty se_tt J kx zs sc_53) (h54 : se_Met ty se_tt J kx zs sc_54) : se_Met ty se_tt J kx zs sc_55 := se_sound (C := [sc_4, sc_45, sc_46, sc_47, sc_50, sc_51, sc_53, sc_54]) hO.1 hO.2.1 hO.2.2 (fun n hn => by
  rcases List.mem_cons.mp hn with rfl | hn
  · exact h4
  rcases List.mem_cons.mp hn with rfl | hn
  · exact h45
  rcases List.mem_cons.mp hn with rfl | hn
  · exact h46
  rcases List.mem_cons.mp hn with rfl | hn
  · exact h47
  rcases List.mem_cons.mp hn with rfl | hn
  · exact h50
  rcases List.mem_cons.mp hn with rfl | hn
  · exact h51
  rcases List.mem_cons.mp hn with rfl | hn
  · exact h53
  rcases List.mem_cons.mp hn with rfl | hn
  · exact h54
  exact absurd hn List.not_mem_nil) sk_55 (fun _ hn => absurd hn List.not_mem_nil)
/-- RaftTown.days -/
def sc_56 : se_C := ((121, 5), ([(((90, 0, 0), 0, (0, 0, 0), (0, 0, 0)), (0, (0, 0, 0), (0, 0, 0))), (((0, (-2147483648), 2147483647), 0, (0, 0, 0), (0, 0, 0)), (0, (0, 1, 0), (0, 0, 0))), (((0, (-2147483648), 2147483647), 0, (0, 0, 0), (0, 0, 0)), (0, (0, 2, 0), (0, 0, 0)))], [some (1, 0, 0), some (1, 1, 0), some (1, 2, 0)], [], []), [([(((0, (-2147483648), 2147483647), 0, (0, 0, 0), (0, 0, 0)), (0, (0, 0, 0), (0, 0, 0)))], some (1, 3, 0), [], [])], [(39, 0, 40), (40, 0, 40), (41, 0, 40), (42, 0, 40), (45, 0, 12), (46, 0, 12), (47, 0, 12), (48, 0, 10), (73, 4, 5), (73, 5, 6), (74, 4, 5), (74, 5, 6), (75, 0, 1), (75, 5, 6), (75, 6, 7), (76, 1, 2), (76, 2, 3), (76, 4, 5), (76, 5, 6), (76, 6, 7), (77, 5, 6), (77, 6, 7), (77, 7, 8), (87, 9, 10), (87, 10, 11), (87, 11, 12), (88, 7, 8)])
def sn_56_0 : se_Nd := (57, ([(((90, 0, 0), 0, (0, 0, 0), (0, 0, 0)), (3, (0, 0, 0), (0, 0, 0))), (((0, 1, 30), 0, (0, 0, 0), (0, 0, 0)), (3, (0, 1, 0), (0, 0, 0))), (((0, 0, 0), 0, (0, 0, 0), (0, 0, 0)), (3, (0, 2, 0), (0, 0, 0))), (((81, 0, 0), 0, (0, 0, 0), (0, 0, 0)), (0, (0, 3, 0), (0, 0, 0))), (((0, 0, 20), 0, (0, 0, 0), (0, 0, 0)), (0, (0, 4, 0), (0, 0, 0))), (((0, 0, 9), 0, (0, 0, 0), (0, 0, 0)), (0, (0, 5, 0), (0, 0, 0))), (((0, (-2147483648), 2147483647), 0, (0, 0, 0), (0, 0, 0)), (0, (0, 6, 0), (0, 0, 0))), (((0, 0, 30), 0, (0, 0, 0), (0, 0, 0)), (0, (0, 7, 0), (0, 0, 0)))], [some (1, 0, 0), some (1, 1, 0), some (1, 2, 0), some (1, 3, 0), some (1, 4, 0), some (1, 5, 0), some (1, 6, 0), some (1, 7, 0), none, none], [], []), [(0, 0, 0), ((-1), 7, 0), (0, 0, 0)])
def sn_56_1 : se_Nd := (57, ([(((90, 0, 0), 0, (0, 0, 0), (0, 0, 0)), (3, (0, 0, 0), (0, 0, 0))), (((0, 1, 30), 0, (0, 0, 0), (0, 0, 0)), (3, (0, 1, 0), (0, 0, 0))), (((0, 1, 1), 0, (0, 0, 0), (0, 0, 0)), (3, (0, 2, 0), (0, 0, 0))), (((121, 0, 0), 0, (0, 0, 0), (0, 0, 0)), (0, (0, 3, 0), (0, 0, 0))), (((0, 0, 20), 0, (0, 0, 0), (0, 0, 0)), (0, (0, 4, 0), (0, 0, 0))), (((0, 0, 9), 0, (0, 0, 0), (0, 0, 0)), (0, (0, 5, 0), (0, 0, 0))), (((0, (-2147483648), 2147483647), 0, (0, 0, 0), (0, 0, 0)), (0, (0, 6, 0), (0, 0, 0))), (((0, 0, 30), 0, (0, 0, 0), (0, 0, 0)), (0, (0, 7, 0), (0, 0, 0)))], [some (1, 0, 0), some (1, 1, 0), some (1, 2, 0), some (1, 3, 0), some (1, 4, 0), some (1, 5, 0), some (1, 6, 0), some (1, 7, 0), none, none], [], []), [(0, 0, 1), ((-1), 7, 0), (0, 0, 0)])
def sn_56_2 : se_Nd := (57, ([(((90, 0, 0), 0, (0, 0, 0), (0, 0, 0)), (3, (0, 0, 0), (0, 0, 0))), (((0, 1, 30), 0, (0, 0, 0), (0, 0, 0)), (3, (0, 1, 0), (0, 0, 0))), (((0, 2, 2), 0, (0, 0, 0), (0, 0, 0)), (3, (0, 2, 0), (0, 0, 0))), (((122, 0, 0), 0, (0, 0, 0), (0, 0, 0)), (0, (0, 3, 0), (0, 0, 0))), (((0, 0, 20), 0, (0, 0, 0), (0, 0, 0)), (0, (0, 4, 0), (0, 0, 0))), (((0, 0, 9), 0, (0, 0, 0), (0, 0, 0)), (0, (0, 5, 0), (0, 0, 0))), (((0, (-2147483648), 2147483647), 0, (0, 0, 0), (0, 0, 0)), (0, (0, 6, 0), (0, 0, 0))), (((0, 0, 30), 0, (0, 0, 0), (0, 0, 0)), (0, (0, 7, 0), (0, 0, 0)))], [some (1, 0, 0), some (1, 1, 0), some (1, 2, 0), some (1, 3, 0), some (1, 4, 0), some (1, 5, 0), some (1, 6, 0), some (1, 7, 0), none, none], [], []), [(0, 0, 2), ((-1), 7, 0), (0, 0, 0)])
def sn_56_3 : se_Nd := (57, ([(((90, 0, 0), 0, (0, 0, 0), (0, 0, 0)), (3, (0, 0, 0), (0, 0, 0))), (((0, 1, 30), 0, (0, 0, 0), (0, 0, 0)), (3, (0, 1, 0), (0, 0, 0))), (((0, 3, 3), 0, (0, 0, 0), (0, 0, 0)), (3, (0, 2, 0), (0, 0, 0))), (((123, 0, 0), 0, (0, 0, 0), (0, 0, 0)), (0, (0, 3, 0), (0, 0, 0))), (((0, 0, 20), 0, (0, 0, 0), (0, 0, 0)), (0, (0, 4, 0), (0, 0, 0))), (((0, 0, 9), 0, (0, 0, 0), (0, 0, 0)), (0, (0, 5, 0), (0, 0, 0))), (((0, (-2147483648), 2147483647), 0, (0, 0, 0), (0, 0, 0)), (0, (0, 6, 0), (0, 0, 0))), (((0, 0, 30), 0, (0, 0, 0), (0, 0, 0)), (0, (0, 7, 0), (0, 0, 0)))], [some (1, 0, 0), some (1, 1, 0), some (1, 2, 0), some (1, 3, 0), some (1, 4, 0), some (1, 5, 0), some (1, 6, 0), some (1, 7, 0), none, none], [], []), [(0, 0, 3), ((-1), 7, 0), (0, 0, 0)])
abbrev sn_56 : List se_Nd := [sn_56_0, sn_56_1, sn_56_2, sn_56_3]
set_option maxRecDepth 100000 in
theorem sk_56 : se_chk0 se_tt [sc_4, sc_45, sc_46, sc_47, sc_50, sc_51, sc_53, sc_54] se_Z 37 se_zt sc_56 sn_56 8 = true := by decide +kernel
set_option maxRecDepth 100000 in
theorem sk_56_0 : se_chkn se_tt [sc_4, sc_45, sc_46, sc_47, sc_50, sc_51, sc_53, sc_54] se_Z 37 se_zt sc_56 sn_56 8 sn_56_0 = true := by decide +kernel
set_option maxRecDepth 100000 in
theorem sk_56_1 : se_chkn se_tt [sc_4, sc_45, sc_46, sc_47, sc_50, sc_51, sc_53, sc_54] se_Z 37 se_zt sc_56 sn_56 8 sn_56_1 = true := by decide +kernel
set_option maxRecDepth 100000 in
theorem sk_56_2 : se_chkn se_tt [sc_4, sc_45, sc_46, sc_47, sc_50, sc_51, sc_53, sc_54] se_Z 37 se_zt sc_56 sn_56 8 sn_56_2 = true := by decide +kernel
set_option maxRecDepth 100000 in
theorem sk_56_3 : se_chkn se_tt [sc_4, sc_45, sc_46, sc_47, sc_50, sc_51, sc_53, sc_54] se_Z 37 se_zt sc_56 sn_56 8 sn_56_3 = true := by decide +kernel
theorem sm_56 {ty : Nat → Option Nat} {J : List mm_C → Prop} {kx : Nat} {zs : List mm_Zt} (hO : se_Ok ty J kx zs) (h4 : se_Met ty se_tt J kx zs sc_4) (h45 : se_Met ty se_tt J kx zs sc_45) (h46 : se_Met ty se_tt J kx zs sc_46) (h47 : se_Met ty se_tt J kx zs sc_47) (h50 : se_Met ty se_tt J kx zs sc_50) (h51 : se_Met ty se_tt J kx zs sc_51) (h53 : se_Met ty se_tt J kx zs sc_53) (h54 : se_Met ty se_tt J kx zs sc_54) : se_Met ty se_tt J kx zs sc_56 := se_sound (C := [sc_4, sc_45, sc_46, sc_47, sc_50, sc_51, sc_53, sc_54]) hO.1 hO.2.1 hO.2.2 (fun n hn => by
  rcases List.mem_cons.mp hn with rfl | hn
  · exact h4
  rcases List.mem_cons.mp hn with rfl | hn
  · exact h45
  rcases List.mem_cons.mp hn with rfl | hn
  · exact h46
  rcases List.mem_cons.mp hn with rfl | hn
  · exact h47
  rcases List.mem_cons.mp hn with rfl | hn
  · exact h50
  rcases List.mem_cons.mp hn with rfl | hn
  · exact h51
  rcases List.mem_cons.mp hn with rfl | hn
  · exact h53
  rcases List.mem_cons.mp hn with rfl | hn
  · exact h54
  exact absurd hn List.not_mem_nil) sk_56 (fun n hn => by
  rcases List.mem_cons.mp hn with rfl | hn
  · exact sk_56_0
  rcases List.mem_cons.mp hn with rfl | hn
  · exact sk_56_1
  rcases List.mem_cons.mp hn with rfl | hn
  · exact sk_56_2
  rcases List.mem_cons.mp hn with rfl | hn
  · exact sk_56_3
  exact absurd hn List.not_mem_nil)
/-- RaftTown$Town.countKind -/
def sc_57 : se_C := ((126, 1), ([(((89, 0, 0), 0, (0, 0, 0), (0, 0, 0)), (0, (0, 0, 0), (0, 0, 0))), (((0, (-2147483648), 2147483647), 0, (0, 0, 0), (0, 0, 0)), (0, (0, 1, 0), (0, 0, 0))), (((0, (-2147483648), 2147483647), 0, (0, 0, 0), (0, 0, 0)), (0, (0, 2, 0), (0, 0, 0)))], [some (1, 0, 0), some (1, 1, 0), some (1, 2, 0)], [], []), [([(((0, (-2147483648), 2147483647), 0, (0, 0, 0), (0, 0, 0)), (0, (0, 0, 0), (0, 0, 0)))], some (1, 3, 0), [], [])], [])
def sn_57_0 : se_Nd := (5, ([(((89, 0, 0), 0, (0, 0, 0), (0, 0, 0)), (3, (0, 0, 0), (0, 0, 0))), (((0, (-2147483648), 2147483647), 0, (0, 0, 0), (0, 0, 0)), (3, (0, 1, 0), (0, 0, 0))), (((0, (-2147483648), 2147483647), 0, (0, 0, 0), (0, 0, 0)), (3, (0, 2, 0), (0, 0, 0))), (((0, (-2147483648), 2147483647), 0, (0, 0, 0), (0, 0, 0)), (0, (0, 3, 0), (0, 0, 0))), (((0, 0, 10), 0, (0, 0, 0), (0, 0, 0)), (0, (0, 4, 0), (0, 0, 0)))], [some (1, 0, 0), some (1, 1, 0), some (1, 2, 0), some (1, 3, 0), some (1, 4, 0)], [], []), [(0, 0, 0), ((-1), 4, 0), (0, 0, 0)])
abbrev sn_57 : List se_Nd := [sn_57_0]
set_option maxRecDepth 100000 in
theorem sk_57 : se_chk0 se_tt [] se_Z 37 se_zt sc_57 sn_57 5 = true := by decide +kernel
set_option maxRecDepth 100000 in
theorem sk_57_0 : se_chkn se_tt [] se_Z 37 se_zt sc_57 sn_57 5 sn_57_0 = true := by decide +kernel
theorem sm_57 {ty : Nat → Option Nat} {J : List mm_C → Prop} {kx : Nat} {zs : List mm_Zt} (hO : se_Ok ty J kx zs) : se_Met ty se_tt J kx zs sc_57 := se_sound (C := []) hO.1 hO.2.1 hO.2.2 (fun _ hn => absurd hn List.not_mem_nil) sk_57 (fun n hn => by
  rcases List.mem_cons.mp hn with rfl | hn
  · exact sk_57_0
  exact absurd hn List.not_mem_nil)
/-- RaftTown.lasts -/
def sc_58 : se_C := ((125, 2), ([(((90, 0, 0), 0, (0, 0, 0), (0, 0, 0)), (0, (0, 0, 0), (0, 0, 0))), (((0, (-2147483648), 2147483647), 0, (0, 0, 0), (0, 0, 0)), (0, (0, 1, 0), (0, 0, 0)))], [some (1, 0, 0), some (1, 1, 0)], [], []), [([(((0, (-2147483648), 2147483647), 0, (0, 0, 0), (0, 0, 0)), (0, (0, 0, 0), (0, 0, 0)))], some (1, 2, 0), [], [])], [(45, 0, 12), (46, 0, 12), (47, 0, 12), (48, 0, 10), (74, 4, 5), (74, 5, 6), (88, 7, 8)])
abbrev sn_58 : List se_Nd := []
set_option maxRecDepth 100000 in
theorem sk_58 : se_chk0 se_tt [sc_4, sc_5, sc_24, sc_25, sc_27, sc_57] se_Z 37 se_zt sc_58 sn_58 7 = true := by decide +kernel
theorem sm_58 {ty : Nat → Option Nat} {J : List mm_C → Prop} {kx : Nat} {zs : List mm_Zt} (hO : se_Ok ty J kx zs) (h4 : se_Met ty se_tt J kx zs sc_4) (h5 : se_Met ty se_tt J kx zs sc_5) (h24 : se_Met ty se_tt J kx zs sc_24) (h25 : se_Met ty se_tt J kx zs sc_25) (h27 : se_Met ty se_tt J kx zs sc_27) (h57 : se_Met ty se_tt J kx zs sc_57) : se_Met ty se_tt J kx zs sc_58 := se_sound (C := [sc_4, sc_5, sc_24, sc_25, sc_27, sc_57]) hO.1 hO.2.1 hO.2.2 (fun n hn => by
  rcases List.mem_cons.mp hn with rfl | hn
  · exact h4
  rcases List.mem_cons.mp hn with rfl | hn
  · exact h5
  rcases List.mem_cons.mp hn with rfl | hn
  · exact h24
  rcases List.mem_cons.mp hn with rfl | hn
  · exact h25
  rcases List.mem_cons.mp hn with rfl | hn
  · exact h27
  rcases List.mem_cons.mp hn with rfl | hn
  · exact h57
  exact absurd hn List.not_mem_nil) sk_58 (fun _ hn => absurd hn List.not_mem_nil)
/-- RaftTown$Tape.append -/
def sc_59 : se_C := ((129, 1), ([(((82, 0, 0), 0, (0, 0, 0), (0, 0, 0)), (0, (0, 0, 0), (0, 0, 0))), (((0, (-2147483648), 2147483647), 0, (0, 0, 0), (0, 0, 0)), (0, (0, 1, 0), (0, 0, 0))), (((1, 0, 0), 0, (0, 0, 0), (0, 0, 0)), (0, (0, 2, 0), (0, 0, 0)))], [some (1, 0, 0), some (1, 1, 0), some (1, 2, 0), none], [], []), [([(((0, 0, 160), 0, (0, 0, 0), (0, 0, 0)), (0, (0, 0, 0), (0, 0, 0)))], some (1, 3, 0), [], [])], [(53, 0, 160), (80, 1, 2)])
def sn_59_0 : se_Nd := (3, ([(((82, 0, 0), 0, (0, 0, 0), (0, 0, 0)), (3, (0, 0, 0), (0, 0, 0))), (((0, (-2147483648), 2147483647), 0, (0, 0, 0), (0, 0, 0)), (3, (0, 1, 0), (0, 0, 0))), (((1, 0, 0), 0, (0, 0, 0), (0, 0, 0)), (3, (0, 2, 0), (0, 0, 0))), (((0, 0, 2147483647), 0, (0, 0, 0), (0, 0, 0)), (0, (0, 4, 0), (0, 0, 0)))], [some (1, 0, 0), some (1, 1, 0), some (1, 2, 0), none, some (1, 3, 0)], [], []), [(0, 0, 0), ((-1), 3, 0), (0, 0, 0)])
abbrev sn_59 : List se_Nd := [sn_59_0]
set_option maxRecDepth 100000 in
theorem sk_59 : se_chk0 se_tt [] se_Z 37 se_zt sc_59 sn_59 5 = true := by decide +kernel
set_option maxRecDepth 100000 in
theorem sk_59_0 : se_chkn se_tt [] se_Z 37 se_zt sc_59 sn_59 5 sn_59_0 = true := by decide +kernel
theorem sm_59 {ty : Nat → Option Nat} {J : List mm_C → Prop} {kx : Nat} {zs : List mm_Zt} (hO : se_Ok ty J kx zs) : se_Met ty se_tt J kx zs sc_59 := se_sound (C := []) hO.1 hO.2.1 hO.2.2 (fun _ hn => absurd hn List.not_mem_nil) sk_59 (fun n hn => by
  rcases List.mem_cons.mp hn with rfl | hn
  · exact sk_59_0
  exact absurd hn List.not_mem_nil)
