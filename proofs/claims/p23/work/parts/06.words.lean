/-! ===== printed by wip/gen_names.py: pools, methods, their words ===== -/
set_option maxRecDepth 100000 in
theorem mm_pool_0 : (mm_pool 0).all (mm_pchk 0) = true := by decide +kernel
set_option maxRecDepth 100000 in
theorem mm_pool_1 : (mm_pool 1).all (mm_pchk 1) = true := by decide +kernel
set_option maxRecDepth 100000 in
theorem mm_pool_2 : (mm_pool 2).all (mm_pchk 2) = true := by decide +kernel
set_option maxRecDepth 100000 in
theorem mm_pool_3 : (mm_pool 3).all (mm_pchk 3) = true := by decide +kernel
set_option maxRecDepth 100000 in
theorem mm_pool_4 : (mm_pool 4).all (mm_pchk 4) = true := by decide +kernel
set_option maxRecDepth 100000 in
theorem mm_pool_5 : (mm_pool 5).all (mm_pchk 5) = true := by decide +kernel
set_option maxRecDepth 100000 in
theorem mm_pool_6 : (mm_pool 6).all (mm_pchk 6) = true := by decide +kernel
set_option maxRecDepth 100000 in
theorem mm_pool_7 : (mm_pool 7).all (mm_pchk 7) = true := by decide +kernel
set_option maxRecDepth 100000 in
theorem mm_pool_8 : (mm_pool 8).all (mm_pchk 8) = true := by decide +kernel
set_option maxRecDepth 100000 in
theorem mm_pool_9 : (mm_pool 9).all (mm_pchk 9) = true := by decide +kernel
set_option maxRecDepth 100000 in
theorem mm_pool_10 : (mm_pool 10).all (mm_pchk 10) = true := by decide +kernel
set_option maxRecDepth 100000 in
theorem mm_pool_11 : (mm_pool 11).all (mm_pchk 11) = true := by decide +kernel
set_option maxRecDepth 100000 in
theorem mm_pool_12 : (mm_pool 12).all (mm_pchk 12) = true := by decide +kernel
set_option maxRecDepth 100000 in
theorem mm_pool_13 : (mm_pool 13).all (mm_pchk 13) = true := by decide +kernel
set_option maxRecDepth 100000 in
theorem mm_pool_14 : (mm_pool 14).all (mm_pchk 14) = true := by decide +kernel
set_option maxRecDepth 100000 in
theorem mm_pool_15 : (mm_pool 15).all (mm_pchk 15) = true := by decide +kernel
set_option maxRecDepth 100000 in
theorem mm_pool_16 : (mm_pool 16).all (mm_pchk 16) = true := by decide +kernel
set_option maxRecDepth 100000 in
theorem mm_pool_17 : (mm_pool 17).all (mm_pchk 17) = true := by decide +kernel
set_option maxRecDepth 100000 in
theorem mm_pool_18 : (mm_pool 18).all (mm_pchk 18) = true := by decide +kernel
set_option maxRecDepth 100000 in
theorem mm_pool_19 : (mm_pool 19).all (mm_pchk 19) = true := by decide +kernel
theorem mm_pool_ok : ∀ o e, e ∈ mm_pool o → mm_pchk o e = true := by
  intro o e h
  match o, h with
  | 0, h => exact List.all_eq_true.mp mm_pool_0 e h
  | 1, h => exact List.all_eq_true.mp mm_pool_1 e h
  | 2, h => exact List.all_eq_true.mp mm_pool_2 e h
  | 3, h => exact List.all_eq_true.mp mm_pool_3 e h
  | 4, h => exact List.all_eq_true.mp mm_pool_4 e h
  | 5, h => exact List.all_eq_true.mp mm_pool_5 e h
  | 6, h => exact List.all_eq_true.mp mm_pool_6 e h
  | 7, h => exact List.all_eq_true.mp mm_pool_7 e h
  | 8, h => exact List.all_eq_true.mp mm_pool_8 e h
  | 9, h => exact List.all_eq_true.mp mm_pool_9 e h
  | 10, h => exact List.all_eq_true.mp mm_pool_10 e h
  | 11, h => exact List.all_eq_true.mp mm_pool_11 e h
  | 12, h => exact List.all_eq_true.mp mm_pool_12 e h
  | 13, h => exact List.all_eq_true.mp mm_pool_13 e h
  | 14, h => exact List.all_eq_true.mp mm_pool_14 e h
  | 15, h => exact List.all_eq_true.mp mm_pool_15 e h
  | 16, h => exact List.all_eq_true.mp mm_pool_16 e h
  | 17, h => exact List.all_eq_true.mp mm_pool_17 e h
  | 18, h => exact List.all_eq_true.mp mm_pool_18 e h
  | 19, h => exact List.all_eq_true.mp mm_pool_19 e h
  | o + 20, h => exact absurd h List.not_mem_nil
/-- the word of a method's code is there -/
def mm_cwd (t : mm_Mt) : Prop := (mm_tab (t.2.2.2.2.2.2.2.getD 0 0 / 1000))[t.2.2.2.2.2.2.2.getD 0 0 % 1000]? = some (.code t.2.1 t.2.2.1 t.2.2.2.1 t.2.2.2.2.1)
set_option maxRecDepth 100000 in
theorem mm_mths_0_ok : mm_mths_0.all mm_mchk = true := by decide +kernel
theorem mm_cw_0 : mm_cwd (11, ⟨"RaftTown", "<init>", "()V"⟩, prog_1_method_1_code, 2, (none), 0, 2, [1026, 1025, 0, 1001]) := rfl
theorem mm_cw_1 : mm_cwd (10, ⟨"RaftTown$Town", "<init>", "()V"⟩, prog_12_method_1_code, 2, (none), 0, 2, [1034, 1033, 0, 1002]) := rfl
theorem mm_cw_2 : mm_cwd (6, ⟨"RaftTown$Sea", "<init>", "()V"⟩, prog_8_method_1_code, 1, (none), 0, 2, [1040, 1039, 0, 1003]) := rfl
theorem mm_cw_3 : mm_cwd (1, ⟨"RaftTown$Log", "<init>", "()V"⟩, prog_3_method_1_code, 1, (none), 0, 2, [1064, 1063, 0, 1004]) := rfl
theorem mm_cw_4 : mm_cwd (4, ⟨"RaftTown$Raft", "<init>", "()V"⟩, prog_6_method_1_code, 1, (none), 0, 2, [1101, 1100, 0, 1005]) := rfl
theorem mm_cw_5 : mm_cwd (3, ⟨"RaftTown$Person", "<init>", "()V"⟩, prog_5_method_1_code, 1, (none), 0, 2, [1142, 1141, 0, 1006]) := rfl
theorem mm_cw_6 : mm_cwd (5, ⟨"RaftTown$Rope", "<init>", "()V"⟩, prog_7_method_1_code, 1, (none), 0, 2, [1183, 1182, 0, 1007]) := rfl
theorem mm_cw_7 : mm_cwd (9, ⟨"RaftTown$Text", "<init>", "()V"⟩, prog_11_method_1_code, 1, (none), 0, 2, [1229, 1228, 0, 1008]) := rfl
theorem mm_cw_8 : mm_cwd (7, ⟨"RaftTown$Sheet", "<init>", "()V"⟩, prog_9_method_1_code, 1, (none), 0, 2, [2056, 2055, 0, 1009]) := rfl
theorem mm_cw_9 : mm_cwd (8, ⟨"RaftTown$Tape", "<init>", "()V"⟩, prog_10_method_1_code, 1, (none), 0, 2, [2075, 2074, 0, 1010]) := rfl
theorem mm_cw_10 : mm_cwd (2, ⟨"RaftTown$Net", "<init>", "()V"⟩, prog_4_method_1_code, 1, (none), 0, 2, [2106, 2105, 0, 1011]) := rfl
theorem mm_cw_11 : mm_cwd (0, ⟨"RaftTown$Judge", "<init>", "()V"⟩, prog_2_method_1_code, 1, (none), 0, 2, [2134, 2133, 0, 1012]) := rfl
theorem mm_cw_12 : mm_cwd (11, ⟨"RaftTown", "stream", "(III)I"⟩, prog_1_method_2_code, 4, (some .int), 3, 1, [2174, 2172, 2173, 1001]) := rfl
theorem mm_cw_13 : mm_cwd (11, ⟨"RaftTown", "isCell", "(I)Z"⟩, prog_1_method_49_code, 1, (some .boolean), 1, 0, [2177, 2176, 0, 1001]) := rfl
theorem mm_cw_14 : mm_cwd (11, ⟨"RaftTown", "within", "(III)Z"⟩, prog_1_method_48_code, 3, (some .boolean), 3, 0, [2180, 2179, 0, 1001]) := rfl
theorem mm_cw_15 : mm_cwd (11, ⟨"RaftTown", "noted", "(I)I"⟩, prog_1_method_42_code, 2, (some .int), 1, 1, [2185, 2184, 0, 1001]) := rfl
theorem mm_cw_16 : mm_cwd (6, ⟨"RaftTown$Sea", "lead", "(III)V"⟩, prog_8_method_3_code, 4, (none), 3, 1, [2190, 2188, 2189, 1003]) := rfl
theorem mm_cw_17 : mm_cwd (11, ⟨"RaftTown", "raft", "(IIII)I"⟩, prog_1_method_3_code, 5, (some .int), 4, 1, [2195, 2193, 2194, 1001]) := rfl
theorem mm_cw_18 : mm_cwd (11, ⟨"RaftTown", "isKind", "(I)Z"⟩, prog_1_method_50_code, 1, (some .boolean), 1, 0, [2198, 2197, 0, 1001]) := rfl
theorem mm_cw_19 : mm_cwd (10, ⟨"RaftTown$Town", "addRaft", "(IIII)I"⟩, prog_12_method_11_code, 6, (some .int), 4, 1, [2203, 2201, 2202, 1002]) := rfl
theorem mm_cw_20 : mm_cwd (10, ⟨"RaftTown$Town", "raftAt", "(I)LRaftTown$Raft;"⟩, prog_12_method_6_code, 2, (some (.object "RaftTown$Raft")), 1, 1, [2207, 2205, 2206, 1002]) := rfl
theorem mm_cw_21 : mm_cwd (4, ⟨"RaftTown$Raft", "launch", "(IIII)V"⟩, prog_6_method_3_code, 5, (none), 4, 1, [2212, 2210, 2211, 1005]) := rfl
theorem mm_cw_22 : mm_cwd (11, ⟨"RaftTown", "as", "(II)I"⟩, prog_1_method_4_code, 3, (some .int), 2, 1, [2216, 2214, 2215, 1001]) := rfl
theorem mm_cw_23 : mm_cwd (10, ⟨"RaftTown$Town", "hasRaft", "(I)Z"⟩, prog_12_method_3_code, 2, (some .boolean), 1, 1, [2220, 2218, 2219, 1002]) := rfl
theorem mm_cw_24 : mm_cwd (4, ⟨"RaftTown$Raft", "isOf", "(I)Z"⟩, prog_6_method_4_code, 4, (some .boolean), 1, 1, [2225, 2223, 2224, 1005]) := rfl
theorem mm_cw_25 : mm_cwd (11, ⟨"RaftTown", "raftIs", "(II)I"⟩, prog_1_method_5_code, 4, (some .int), 2, 1, [2233, 2231, 2232, 1001]) := rfl
theorem mm_cw_26 : mm_cwd (11, ⟨"RaftTown", "surveyed", "()LRaftTown$Net;"⟩, prog_1_method_43_code, 1, (some (.object "RaftTown$Net")), 0, 1, [2237, 2236, 1, 1001]) := rfl
theorem mm_cw_27 : mm_cwd (2, ⟨"RaftTown$Net", "survey", "(LRaftTown$Town;)V"⟩, prog_4_method_2_code, 4, (none), 1, 1, [3001, 2239, 3000, 1011]) := rfl
theorem mm_cw_28 : mm_cwd (4, ⟨"RaftTown$Raft", "ownWeight", "()I"⟩, prog_6_method_6_code, 1, (some .int), 0, 1, [3006, 3004, 3005, 1005]) := rfl
theorem mm_cw_29 : mm_cwd (4, ⟨"RaftTown$Raft", "area", "()I"⟩, prog_6_method_5_code, 1, (some .int), 0, 1, [3010, 3008, 3009, 1005]) := rfl
theorem mm_cw_30 : mm_cwd (10, ⟨"RaftTown$Town", "personAt", "(I)LRaftTown$Person;"⟩, prog_12_method_7_code, 2, (some (.object "RaftTown$Person")), 1, 1, [3017, 3015, 3016, 1002]) := rfl
theorem mm_cw_31 : mm_cwd (10, ⟨"RaftTown$Town", "ropeAt", "(I)LRaftTown$Rope;"⟩, prog_12_method_8_code, 2, (some (.object "RaftTown$Rope")), 1, 1, [3022, 3020, 3021, 1002]) := rfl
theorem mm_cw_32 : mm_cwd (5, ⟨"RaftTown$Rope", "strength", "()I"⟩, prog_7_method_4_code, 1, (some .int), 0, 1, [3026, 3024, 3025, 1007]) := rfl
theorem mm_cw_33 : mm_cwd (2, ⟨"RaftTown$Net", "weightAt", "(I)I"⟩, prog_4_method_3_code, 2, (some .int), 1, 1, [3033, 3031, 3032, 1011]) := rfl
theorem mm_cw_34 : mm_cwd (2, ⟨"RaftTown$Net", "partOf", "(I)I"⟩, prog_4_method_6_code, 2, (some .int), 1, 1, [3042, 3040, 3041, 1011]) := rfl
theorem mm_cw_35 : mm_cwd (2, ⟨"RaftTown$Net", "reach", "(II)I"⟩, prog_4_method_5_code, 7, (some .int), 2, 1, [3046, 3045, 2, 1011]) := rfl
theorem mm_cw_36 : mm_cwd (11, ⟨"RaftTown", "leastOf", "(I)I"⟩, prog_1_method_57_code, 1, (some .int), 1, 0, [3049, 3048, 0, 1001]) := rfl
theorem mm_cw_37 : mm_cwd (14, ⟨"java/lang/Integer", "numberOfTrailingZeros", "(I)I"⟩, prog_15_method_48_code, 2, (some .int), 1, 0, [3052, 3051, 0, 1015]) := rfl
theorem mm_cw_38 : mm_cwd (11, ⟨"RaftTown", "load", "(IIZ)I"⟩, prog_1_method_6_code, 5, (some .int), 3, 1, [3057, 3055, 3056, 1001]) := rfl
theorem mm_cw_39 : mm_cwd (4, ⟨"RaftTown$Raft", "room", "()I"⟩, prog_6_method_7_code, 1, (some .int), 0, 1, [3062, 3060, 3061, 1005]) := rfl
theorem mm_cws_0 : ∀ t ∈ mm_mths_0, mm_cwd t := List.forall_mem_cons.mpr ⟨mm_cw_0, List.forall_mem_cons.mpr ⟨mm_cw_1, List.forall_mem_cons.mpr ⟨mm_cw_2, List.forall_mem_cons.mpr ⟨mm_cw_3, List.forall_mem_cons.mpr ⟨mm_cw_4, List.forall_mem_cons.mpr ⟨mm_cw_5, List.forall_mem_cons.mpr ⟨mm_cw_6, List.forall_mem_cons.mpr ⟨mm_cw_7, List.forall_mem_cons.mpr ⟨mm_cw_8, List.forall_mem_cons.mpr ⟨mm_cw_9, List.forall_mem_cons.mpr ⟨mm_cw_10, List.forall_mem_cons.mpr ⟨mm_cw_11, List.forall_mem_cons.mpr ⟨mm_cw_12, List.forall_mem_cons.mpr ⟨mm_cw_13, List.forall_mem_cons.mpr ⟨mm_cw_14, List.forall_mem_cons.mpr ⟨mm_cw_15, List.forall_mem_cons.mpr ⟨mm_cw_16, List.forall_mem_cons.mpr ⟨mm_cw_17, List.forall_mem_cons.mpr ⟨mm_cw_18, List.forall_mem_cons.mpr ⟨mm_cw_19, List.forall_mem_cons.mpr ⟨mm_cw_20, List.forall_mem_cons.mpr ⟨mm_cw_21, List.forall_mem_cons.mpr ⟨mm_cw_22, List.forall_mem_cons.mpr ⟨mm_cw_23, List.forall_mem_cons.mpr ⟨mm_cw_24, List.forall_mem_cons.mpr ⟨mm_cw_25, List.forall_mem_cons.mpr ⟨mm_cw_26, List.forall_mem_cons.mpr ⟨mm_cw_27, List.forall_mem_cons.mpr ⟨mm_cw_28, List.forall_mem_cons.mpr ⟨mm_cw_29, List.forall_mem_cons.mpr ⟨mm_cw_30, List.forall_mem_cons.mpr ⟨mm_cw_31, List.forall_mem_cons.mpr ⟨mm_cw_32, List.forall_mem_cons.mpr ⟨mm_cw_33, List.forall_mem_cons.mpr ⟨mm_cw_34, List.forall_mem_cons.mpr ⟨mm_cw_35, List.forall_mem_cons.mpr ⟨mm_cw_36, List.forall_mem_cons.mpr ⟨mm_cw_37, List.forall_mem_cons.mpr ⟨mm_cw_38, List.forall_mem_cons.mpr ⟨mm_cw_39, fun _ h => absurd h List.not_mem_nil⟩⟩⟩⟩⟩⟩⟩⟩⟩⟩⟩⟩⟩⟩⟩⟩⟩⟩⟩⟩⟩⟩⟩⟩⟩⟩⟩⟩⟩⟩⟩⟩⟩⟩⟩⟩⟩⟩⟩⟩
set_option maxRecDepth 100000 in
theorem mm_mths_1_ok : mm_mths_1.all mm_mchk = true := by decide +kernel
theorem mm_cw_40 : mm_cwd (4, ⟨"RaftTown$Raft", "stow", "(IZ)I"⟩, prog_6_method_9_code, 3, (some .int), 2, 1, [3066, 3064, 3065, 1005]) := rfl
theorem mm_cw_41 : mm_cwd (4, ⟨"RaftTown$Raft", "casks", "(Z)I"⟩, prog_6_method_8_code, 2, (some .int), 1, 1, [3070, 3068, 3069, 1005]) := rfl
theorem mm_cw_42 : mm_cwd (11, ⟨"RaftTown", "trade", "(IIIZ)I"⟩, prog_1_method_7_code, 7, (some .int), 4, 1, [3074, 3072, 3073, 1001]) := rfl
theorem mm_cw_43 : mm_cwd (2, ⟨"RaftTown$Net", "inOnePart", "(II)Z"⟩, prog_4_method_7_code, 3, (some .boolean), 2, 1, [3079, 3077, 3078, 1011]) := rfl
theorem mm_cw_44 : mm_cwd (11, ⟨"RaftTown", "has", "(II)Z"⟩, prog_1_method_56_code, 2, (some .boolean), 2, 0, [3083, 3082, 0, 1001]) := rfl
theorem mm_cw_45 : mm_cwd (11, ⟨"RaftTown", "person", "(IIII)I"⟩, prog_1_method_8_code, 5, (some .int), 4, 1, [3090, 3088, 3089, 1001]) := rfl
theorem mm_cw_46 : mm_cwd (11, ⟨"RaftTown", "areParents", "(II)Z"⟩, prog_1_method_47_code, 3, (some .boolean), 2, 1, [3094, 3093, 3, 1001]) := rfl
theorem mm_cw_47 : mm_cwd (10, ⟨"RaftTown$Town", "addPerson", "(IIII)I"⟩, prog_12_method_12_code, 6, (some .int), 4, 1, [3098, 3096, 3097, 1002]) := rfl
theorem mm_cw_48 : mm_cwd (3, ⟨"RaftTown$Person", "arrive", "(IIII)V"⟩, prog_5_method_3_code, 5, (none), 4, 1, [3103, 3101, 3102, 1006]) := rfl
theorem mm_cw_49 : mm_cwd (11, ⟨"RaftTown", "wed", "(II)I"⟩, prog_1_method_9_code, 5, (some .int), 2, 1, [3107, 3105, 3106, 1001]) := rfl
theorem mm_cw_50 : mm_cwd (10, ⟨"RaftTown$Town", "hasPerson", "(I)Z"⟩, prog_12_method_4_code, 2, (some .boolean), 1, 1, [3111, 3109, 3110, 1002]) := rfl
theorem mm_cw_51 : mm_cwd (11, ⟨"RaftTown", "move", "(II)I"⟩, prog_1_method_10_code, 5, (some .int), 2, 1, [3117, 3115, 3116, 1001]) := rfl
theorem mm_cw_52 : mm_cwd (11, ⟨"RaftTown", "personIs", "(II)I"⟩, prog_1_method_11_code, 4, (some .int), 2, 1, [3121, 3119, 3120, 1001]) := rfl
theorem mm_cw_53 : mm_cwd (10, ⟨"RaftTown$Town", "kinOf", "(I)I"⟩, prog_12_method_16_code, 4, (some .int), 1, 1, [3125, 3123, 3124, 1002]) := rfl
theorem mm_cw_54 : mm_cwd (10, ⟨"RaftTown$Town", "areKin", "(II)Z"⟩, prog_12_method_15_code, 5, (some .boolean), 2, 1, [3129, 3128, 4, 1002]) := rfl
theorem mm_cw_55 : mm_cwd (3, ⟨"RaftTown$Person", "hasParent", "(I)Z"⟩, prog_5_method_4_code, 2, (some .boolean), 1, 1, [3133, 3131, 3132, 1006]) := rfl
theorem mm_cw_56 : mm_cwd (11, ⟨"RaftTown", "tie", "(IIIII)I"⟩, prog_1_method_12_code, 10, (some .int), 5, 1, [3137, 3135, 3136, 1001]) := rfl
theorem mm_cw_57 : mm_cwd (11, ⟨"RaftTown", "isSide", "(I)Z"⟩, prog_1_method_51_code, 1, (some .boolean), 1, 0, [3140, 3139, 0, 1001]) := rfl
theorem mm_cw_58 : mm_cwd (10, ⟨"RaftTown$Town", "hasRoomAt", "(II)Z"⟩, prog_12_method_13_code, 5, (some .boolean), 2, 1, [3144, 3142, 3143, 1002]) := rfl
theorem mm_cw_59 : mm_cwd (5, ⟨"RaftTown$Rope", "isAtSide", "(II)Z"⟩, prog_7_method_6_code, 3, (some .boolean), 2, 1, [3148, 3146, 3147, 1007]) := rfl
theorem mm_cw_60 : mm_cwd (10, ⟨"RaftTown$Town", "freeRope", "()I"⟩, prog_12_method_14_code, 2, (some .int), 0, 1, [3152, 3150, 3151, 1002]) := rfl
theorem mm_cw_61 : mm_cwd (5, ⟨"RaftTown$Rope", "lay", "(IIIII)V"⟩, prog_7_method_3_code, 6, (none), 5, 1, [3158, 3156, 3157, 1007]) := rfl
theorem mm_cw_62 : mm_cwd (1, ⟨"RaftTown$Log", "add", "(IIII)V"⟩, prog_3_method_5_code, 6, (none), 4, 1, [3162, 3160, 3161, 1004]) := rfl
theorem mm_cw_63 : mm_cwd (1, ⟨"RaftTown$Log", "placeOf", "(I)I"⟩, prog_3_method_3_code, 3, (some .int), 1, 1, [3166, 3165, 5, 1004]) := rfl
theorem mm_cw_64 : mm_cwd (1, ⟨"RaftTown$Log", "tellOn", "(I)V"⟩, prog_3_method_7_code, 3, (none), 1, 1, [3170, 3168, 3169, 1004]) := rfl
theorem mm_cw_65 : mm_cwd (11, ⟨"RaftTown", "cut", "(I)I"⟩, prog_1_method_13_code, 4, (some .int), 1, 1, [3174, 3172, 3173, 1001]) := rfl
theorem mm_cw_66 : mm_cwd (10, ⟨"RaftTown$Town", "hasRope", "(I)Z"⟩, prog_12_method_5_code, 2, (some .boolean), 1, 1, [3178, 3176, 3177, 1002]) := rfl
theorem mm_cw_67 : mm_cwd (1, ⟨"RaftTown$Log", "lawOf", "(I)I"⟩, prog_3_method_9_code, 4, (some .int), 1, 1, [3182, 3180, 3181, 1004]) := rfl
theorem mm_cw_68 : mm_cwd (11, ⟨"RaftTown", "ropeRuling", "(III)I"⟩, prog_1_method_45_code, 4, (some .int), 3, 1, [3186, 3185, 6, 1001]) := rfl
theorem mm_cw_69 : mm_cwd (0, ⟨"RaftTown$Judge", "nameRope", "(LRaftTown$Town;LRaftTown$Net;II)V"⟩, prog_2_method_3_code, 6, (none), 4, 1, [3190, 3188, 3189, 1012]) := rfl
theorem mm_cw_70 : mm_cwd (0, ⟨"RaftTown$Judge", "nameNothing", "()V"⟩, prog_2_method_2_code, 2, (none), 0, 1, [3195, 3194, 7, 1012]) := rfl
theorem mm_cw_71 : mm_cwd (2, ⟨"RaftTown$Net", "loadOf", "(III)I"⟩, prog_4_method_11_code, 4, (some .int), 3, 1, [3199, 3197, 3198, 1011]) := rfl
theorem mm_cw_72 : mm_cwd (2, ⟨"RaftTown$Net", "hang", "(II)I"⟩, prog_4_method_10_code, 7, (some .int), 2, 1, [3203, 3201, 3202, 1011]) := rfl
theorem mm_cw_73 : mm_cwd (2, ⟨"RaftTown$Net", "weigh", "(I)I"⟩, prog_4_method_9_code, 4, (some .int), 1, 1, [3207, 3206, 8, 1011]) := rfl
theorem mm_cw_74 : mm_cwd (10, ⟨"RaftTown$Town", "kinBetween", "(II)I"⟩, prog_12_method_19_code, 6, (some .int), 2, 1, [3212, 3210, 3211, 1002]) := rfl
theorem mm_cw_75 : mm_cwd (10, ⟨"RaftTown$Town", "personsOf", "(I)I"⟩, prog_12_method_17_code, 4, (some .int), 1, 1, [3216, 3214, 3215, 1002]) := rfl
theorem mm_cw_76 : mm_cwd (3, ⟨"RaftTown$Person", "isAmong", "(I)Z"⟩, prog_5_method_6_code, 2, (some .boolean), 1, 1, [3220, 3218, 3219, 1006]) := rfl
theorem mm_cw_77 : mm_cwd (3, ⟨"RaftTown$Person", "isOn", "(I)Z"⟩, prog_5_method_5_code, 2, (some .boolean), 1, 1, [3224, 3222, 3223, 1006]) := rfl
theorem mm_cw_78 : mm_cwd (14, ⟨"java/lang/Integer", "bitCount", "(I)I"⟩, prog_15_method_49_code, 1, (some .int), 1, 0, [3228, 3227, 0, 1015]) := rfl
theorem mm_cw_79 : mm_cwd (0, ⟨"RaftTown$Judge", "namePart", "(LRaftTown$Town;I)V"⟩, prog_2_method_6_code, 3, (none), 2, 1, [3236, 3235, 9, 1012]) := rfl
theorem mm_cws_1 : ∀ t ∈ mm_mths_1, mm_cwd t := List.forall_mem_cons.mpr ⟨mm_cw_40, List.forall_mem_cons.mpr ⟨mm_cw_41, List.forall_mem_cons.mpr ⟨mm_cw_42, List.forall_mem_cons.mpr ⟨mm_cw_43, List.forall_mem_cons.mpr ⟨mm_cw_44, List.forall_mem_cons.mpr ⟨mm_cw_45, List.forall_mem_cons.mpr ⟨mm_cw_46, List.forall_mem_cons.mpr ⟨mm_cw_47, List.forall_mem_cons.mpr ⟨mm_cw_48, List.forall_mem_cons.mpr ⟨mm_cw_49, List.forall_mem_cons.mpr ⟨mm_cw_50, List.forall_mem_cons.mpr ⟨mm_cw_51, List.forall_mem_cons.mpr ⟨mm_cw_52, List.forall_mem_cons.mpr ⟨mm_cw_53, List.forall_mem_cons.mpr ⟨mm_cw_54, List.forall_mem_cons.mpr ⟨mm_cw_55, List.forall_mem_cons.mpr ⟨mm_cw_56, List.forall_mem_cons.mpr ⟨mm_cw_57, List.forall_mem_cons.mpr ⟨mm_cw_58, List.forall_mem_cons.mpr ⟨mm_cw_59, List.forall_mem_cons.mpr ⟨mm_cw_60, List.forall_mem_cons.mpr ⟨mm_cw_61, List.forall_mem_cons.mpr ⟨mm_cw_62, List.forall_mem_cons.mpr ⟨mm_cw_63, List.forall_mem_cons.mpr ⟨mm_cw_64, List.forall_mem_cons.mpr ⟨mm_cw_65, List.forall_mem_cons.mpr ⟨mm_cw_66, List.forall_mem_cons.mpr ⟨mm_cw_67, List.forall_mem_cons.mpr ⟨mm_cw_68, List.forall_mem_cons.mpr ⟨mm_cw_69, List.forall_mem_cons.mpr ⟨mm_cw_70, List.forall_mem_cons.mpr ⟨mm_cw_71, List.forall_mem_cons.mpr ⟨mm_cw_72, List.forall_mem_cons.mpr ⟨mm_cw_73, List.forall_mem_cons.mpr ⟨mm_cw_74, List.forall_mem_cons.mpr ⟨mm_cw_75, List.forall_mem_cons.mpr ⟨mm_cw_76, List.forall_mem_cons.mpr ⟨mm_cw_77, List.forall_mem_cons.mpr ⟨mm_cw_78, List.forall_mem_cons.mpr ⟨mm_cw_79, fun _ h => absurd h List.not_mem_nil⟩⟩⟩⟩⟩⟩⟩⟩⟩⟩⟩⟩⟩⟩⟩⟩⟩⟩⟩⟩⟩⟩⟩⟩⟩⟩⟩⟩⟩⟩⟩⟩⟩⟩⟩⟩⟩⟩⟩⟩
set_option maxRecDepth 100000 in
theorem mm_mths_2_ok : mm_mths_2.all mm_mchk = true := by decide +kernel
theorem mm_cw_80 : mm_cwd (10, ⟨"RaftTown$Town", "headsOf", "(I)I"⟩, prog_12_method_18_code, 2, (some .int), 1, 1, [4000, 3238, 3239, 1002]) := rfl
theorem mm_cw_81 : mm_cwd (10, ⟨"RaftTown$Town", "waterOf", "(I)I"⟩, prog_12_method_20_code, 4, (some .int), 1, 1, [4004, 4002, 4003, 1002]) := rfl
theorem mm_cw_82 : mm_cwd (10, ⟨"RaftTown$Town", "textOfLaw", "(I)LRaftTown$Text;"⟩, prog_12_method_10_code, 2, (some (.object "RaftTown$Text")), 1, 1, [4009, 4007, 4008, 1002]) := rfl
theorem mm_cw_83 : mm_cwd (1, ⟨"RaftTown$Log", "textOf", "(I)I"⟩, prog_3_method_10_code, 2, (some .int), 1, 1, [4013, 4011, 4012, 1004]) := rfl
theorem mm_cw_84 : mm_cwd (10, ⟨"RaftTown$Town", "textAt", "(I)LRaftTown$Text;"⟩, prog_12_method_9_code, 2, (some (.object "RaftTown$Text")), 1, 1, [4018, 4016, 4017, 1002]) := rfl
theorem mm_cw_85 : mm_cwd (11, ⟨"RaftTown", "isText", "(I)Z"⟩, prog_1_method_52_code, 1, (some .boolean), 1, 0, [4021, 4020, 0, 1001]) := rfl
theorem mm_cw_86 : mm_cwd (0, ⟨"RaftTown$Judge", "comesTo", "(LRaftTown$Text;I)I"⟩, prog_2_method_7_code, 8, (some .int), 2, 1, [4025, 4023, 4024, 1012]) := rfl
theorem mm_cw_87 : mm_cwd (9, ⟨"RaftTown$Text", "endOf", "(I)I"⟩, prog_11_method_8_code, 2, (some .int), 1, 1, [4029, 4027, 4028, 1008]) := rfl
theorem mm_cw_88 : mm_cwd (9, ⟨"RaftTown$Text", "startOf", "(I)I"⟩, prog_11_method_7_code, 2, (some .int), 1, 1, [4035, 4033, 4034, 1008]) := rfl
theorem mm_cw_89 : mm_cwd (0, ⟨"RaftTown$Judge", "push", "(I)V"⟩, prog_2_method_8_code, 2, (none), 1, 1, [4039, 4038, 10, 1012]) := rfl
theorem mm_cw_90 : mm_cwd (0, ⟨"RaftTown$Judge", "pop", "()I"⟩, prog_2_method_9_code, 1, (some .int), 0, 1, [4043, 4042, 11, 1012]) := rfl
theorem mm_cw_91 : mm_cwd (0, ⟨"RaftTown$Judge", "joined", "(III)I"⟩, prog_2_method_10_code, 3, (some .int), 3, 0, [4046, 4045, 0, 1012]) := rfl
theorem mm_cw_92 : mm_cwd (2, ⟨"RaftTown$Net", "countParts", "()I"⟩, prog_4_method_8_code, 4, (some .int), 0, 1, [4051, 4049, 4050, 1011]) := rfl
theorem mm_cw_93 : mm_cwd (11, ⟨"RaftTown", "rope", "(II)I"⟩, prog_1_method_14_code, 4, (some .int), 2, 1, [4055, 4053, 4054, 1001]) := rfl
theorem mm_cw_94 : mm_cwd (11, ⟨"RaftTown", "bears", "(II)I"⟩, prog_1_method_15_code, 3, (some .int), 2, 1, [4061, 4059, 4060, 1001]) := rfl
theorem mm_cw_95 : mm_cwd (11, ⟨"RaftTown", "areWaves", "(I)Z"⟩, prog_1_method_54_code, 1, (some .boolean), 1, 0, [4064, 4063, 0, 1001]) := rfl
theorem mm_cw_96 : mm_cwd (11, ⟨"RaftTown", "parts", "()I"⟩, prog_1_method_16_code, 1, (some .int), 0, 1, [4069, 4067, 4068, 1001]) := rfl
theorem mm_cw_97 : mm_cwd (11, ⟨"RaftTown", "part", "(I)I"⟩, prog_1_method_17_code, 2, (some .int), 1, 1, [4073, 4071, 4072, 1001]) := rfl
theorem mm_cw_98 : mm_cwd (11, ⟨"RaftTown", "worst", "(II)I"⟩, prog_1_method_18_code, 4, (some .int), 2, 1, [4077, 4075, 4076, 1001]) := rfl
theorem mm_cw_99 : mm_cwd (2, ⟨"RaftTown$Net", "countParting", "(III)I"⟩, prog_4_method_13_code, 8, (some .int), 3, 1, [4081, 4079, 4080, 1011]) := rfl
theorem mm_cw_100 : mm_cwd (2, ⟨"RaftTown$Net", "worstOf", "(II)I"⟩, prog_4_method_12_code, 7, (some .int), 2, 1, [4085, 4083, 4084, 1011]) := rfl
theorem mm_cw_101 : mm_cwd (2, ⟨"RaftTown$Net", "partingAt", "(II)I"⟩, prog_4_method_14_code, 6, (some .int), 2, 1, [4090, 4088, 4089, 1011]) := rfl
theorem mm_cw_102 : mm_cwd (11, ⟨"RaftTown", "day", "(II)I"⟩, prog_1_method_19_code, 3, (some .int), 2, 1, [4094, 4092, 4093, 1001]) := rfl
theorem mm_cw_103 : mm_cwd (11, ⟨"RaftTown", "isRain", "(I)Z"⟩, prog_1_method_55_code, 1, (some .boolean), 1, 0, [4097, 4096, 0, 1001]) := rfl
theorem mm_cw_104 : mm_cwd (10, ⟨"RaftTown$Town", "passDay", "(IILRaftTown$Net;)I"⟩, prog_12_method_26_code, 5, (some .int), 3, 1, [4101, 4099, 4100, 1002]) := rfl
theorem mm_cw_105 : mm_cwd (10, ⟨"RaftTown$Town", "partUnder", "(ILRaftTown$Net;)I"⟩, prog_12_method_27_code, 6, (some .int), 2, 1, [4106, 4105, 12, 1002]) := rfl
theorem mm_cw_106 : mm_cwd (2, ⟨"RaftTown$Net", "drop", "(I)V"⟩, prog_4_method_4_code, 2, (none), 1, 1, [4114, 4112, 4113, 1011]) := rfl
theorem mm_cw_107 : mm_cwd (10, ⟨"RaftTown$Town", "catchRain", "(I)V"⟩, prog_12_method_28_code, 4, (none), 1, 1, [4118, 4117, 13, 1002]) := rfl
theorem mm_cw_108 : mm_cwd (10, ⟨"RaftTown$Town", "waterGardens", "()V"⟩, prog_12_method_29_code, 3, (none), 0, 1, [4126, 4125, 14, 1002]) := rfl
theorem mm_cw_109 : mm_cwd (10, ⟨"RaftTown$Town", "drinkAll", "(LRaftTown$Net;)V"⟩, prog_12_method_30_code, 4, (none), 1, 1, [4130, 4129, 15, 1002]) := rfl
theorem mm_cw_110 : mm_cwd (10, ⟨"RaftTown$Town", "drink", "(II)V"⟩, prog_12_method_31_code, 5, (none), 2, 1, [4134, 4133, 16, 1002]) := rfl
theorem mm_cw_111 : mm_cwd (10, ⟨"RaftTown$Town", "fullestOf", "(I)LRaftTown$Raft;"⟩, prog_12_method_32_code, 4, (some (.object "RaftTown$Raft")), 1, 1, [4138, 4137, 17, 1002]) := rfl
theorem mm_cw_112 : mm_cwd (10, ⟨"RaftTown$Town", "lose", "(II)V"⟩, prog_12_method_33_code, 3, (none), 2, 1, [4143, 4142, 18, 1002]) := rfl
theorem mm_cw_113 : mm_cwd (10, ⟨"RaftTown$Town", "ageRopes", "(Z)V"⟩, prog_12_method_34_code, 3, (none), 1, 1, [4147, 4146, 19, 1002]) := rfl
theorem mm_cw_114 : mm_cwd (10, ⟨"RaftTown$Town", "rot", "(LRaftTown$Net;)V"⟩, prog_12_method_35_code, 5, (none), 1, 1, [4151, 4150, 20, 1002]) := rfl
theorem mm_cw_115 : mm_cwd (10, ⟨"RaftTown$Town", "sink", "(ILRaftTown$Net;)V"⟩, prog_12_method_36_code, 7, (none), 2, 1, [4155, 4154, 21, 1002]) := rfl
theorem mm_cw_116 : mm_cwd (5, ⟨"RaftTown$Rope", "isAt", "(I)Z"⟩, prog_7_method_5_code, 2, (some .boolean), 1, 1, [4159, 4157, 4158, 1007]) := rfl
theorem mm_cw_117 : mm_cwd (10, ⟨"RaftTown$Town", "drift", "()V"⟩, prog_12_method_37_code, 3, (none), 0, 1, [4163, 4162, 22, 1002]) := rfl
theorem mm_cw_118 : mm_cwd (6, ⟨"RaftTown$Sea", "drifted", "(I)I"⟩, prog_8_method_6_code, 2, (some .int), 1, 1, [4167, 4165, 4166, 1003]) := rfl
theorem mm_cw_119 : mm_cwd (6, ⟨"RaftTown$Sea", "ledBy", "(II)I"⟩, prog_8_method_5_code, 3, (some .int), 2, 1, [4171, 4170, 23, 1003]) := rfl
theorem mm_cws_2 : ∀ t ∈ mm_mths_2, mm_cwd t := List.forall_mem_cons.mpr ⟨mm_cw_80, List.forall_mem_cons.mpr ⟨mm_cw_81, List.forall_mem_cons.mpr ⟨mm_cw_82, List.forall_mem_cons.mpr ⟨mm_cw_83, List.forall_mem_cons.mpr ⟨mm_cw_84, List.forall_mem_cons.mpr ⟨mm_cw_85, List.forall_mem_cons.mpr ⟨mm_cw_86, List.forall_mem_cons.mpr ⟨mm_cw_87, List.forall_mem_cons.mpr ⟨mm_cw_88, List.forall_mem_cons.mpr ⟨mm_cw_89, List.forall_mem_cons.mpr ⟨mm_cw_90, List.forall_mem_cons.mpr ⟨mm_cw_91, List.forall_mem_cons.mpr ⟨mm_cw_92, List.forall_mem_cons.mpr ⟨mm_cw_93, List.forall_mem_cons.mpr ⟨mm_cw_94, List.forall_mem_cons.mpr ⟨mm_cw_95, List.forall_mem_cons.mpr ⟨mm_cw_96, List.forall_mem_cons.mpr ⟨mm_cw_97, List.forall_mem_cons.mpr ⟨mm_cw_98, List.forall_mem_cons.mpr ⟨mm_cw_99, List.forall_mem_cons.mpr ⟨mm_cw_100, List.forall_mem_cons.mpr ⟨mm_cw_101, List.forall_mem_cons.mpr ⟨mm_cw_102, List.forall_mem_cons.mpr ⟨mm_cw_103, List.forall_mem_cons.mpr ⟨mm_cw_104, List.forall_mem_cons.mpr ⟨mm_cw_105, List.forall_mem_cons.mpr ⟨mm_cw_106, List.forall_mem_cons.mpr ⟨mm_cw_107, List.forall_mem_cons.mpr ⟨mm_cw_108, List.forall_mem_cons.mpr ⟨mm_cw_109, List.forall_mem_cons.mpr ⟨mm_cw_110, List.forall_mem_cons.mpr ⟨mm_cw_111, List.forall_mem_cons.mpr ⟨mm_cw_112, List.forall_mem_cons.mpr ⟨mm_cw_113, List.forall_mem_cons.mpr ⟨mm_cw_114, List.forall_mem_cons.mpr ⟨mm_cw_115, List.forall_mem_cons.mpr ⟨mm_cw_116, List.forall_mem_cons.mpr ⟨mm_cw_117, List.forall_mem_cons.mpr ⟨mm_cw_118, List.forall_mem_cons.mpr ⟨mm_cw_119, fun _ h => absurd h List.not_mem_nil⟩⟩⟩⟩⟩⟩⟩⟩⟩⟩⟩⟩⟩⟩⟩⟩⟩⟩⟩⟩⟩⟩⟩⟩⟩⟩⟩⟩⟩⟩⟩⟩⟩⟩⟩⟩⟩⟩⟩⟩
set_option maxRecDepth 100000 in
theorem mm_mths_3_ok : mm_mths_3.all mm_mchk = true := by decide +kernel
theorem mm_cw_120 : mm_cwd (6, ⟨"RaftTown$Sea", "stepped", "(III)I"⟩, prog_8_method_4_code, 6, (some .int), 3, 0, [4174, 4173, 0, 1003]) := rfl
theorem mm_cw_121 : mm_cwd (11, ⟨"RaftTown", "days", "(II)I"⟩, prog_1_method_20_code, 10, (some .int), 2, 1, [4179, 4177, 4178, 1001]) := rfl
theorem mm_cw_122 : mm_cwd (11, ⟨"RaftTown", "isSheet", "(I)Z"⟩, prog_1_method_53_code, 1, (some .boolean), 1, 0, [4182, 4181, 0, 1001]) := rfl
theorem mm_cw_123 : mm_cwd (7, ⟨"RaftTown$Sheet", "isMissing", "()Z"⟩, prog_9_method_2_code, 1, (some .boolean), 0, 1, [4186, 4184, 4185, 1009]) := rfl
theorem mm_cw_124 : mm_cwd (7, ⟨"RaftTown$Sheet", "numberOr", "(II)I"⟩, prog_9_method_5_code, 3, (some .int), 2, 1, [4190, 4188, 4189, 1009]) := rfl
theorem mm_cw_125 : mm_cwd (11, ⟨"RaftTown", "lasts", "(I)I"⟩, prog_1_method_21_code, 4, (some .int), 1, 1, [4195, 4193, 4194, 1001]) := rfl
theorem mm_cw_126 : mm_cwd (10, ⟨"RaftTown$Town", "countKind", "(II)I"⟩, prog_12_method_21_code, 5, (some .int), 2, 1, [4200, 4198, 4199, 1002]) := rfl
theorem mm_cw_127 : mm_cwd (11, ⟨"RaftTown", "feed", "(IJ)I"⟩, prog_1_method_22_code, 4, (some .int), 2, 1, [4205, 4203, 4204, 1001]) := rfl
theorem mm_cw_128 : mm_cwd (8, ⟨"RaftTown$Tape", "hasRoom", "(I)Z"⟩, prog_10_method_2_code, 2, (some .boolean), 1, 1, [4209, 4207, 4208, 1010]) := rfl
theorem mm_cw_129 : mm_cwd (8, ⟨"RaftTown$Tape", "append", "(IJ)I"⟩, prog_10_method_3_code, 5, (some .int), 2, 1, [4213, 4211, 4212, 1010]) := rfl
theorem mm_cw_130 : mm_cwd (11, ⟨"RaftTown", "text", "(I)I"⟩, prog_1_method_23_code, 3, (some .int), 1, 1, [4218, 4216, 4217, 1001]) := rfl
theorem mm_cw_131 : mm_cwd (8, ⟨"RaftTown$Tape", "read", "()I"⟩, prog_10_method_4_code, 2, (some .int), 0, 1, [4223, 4221, 4222, 1010]) := rfl
theorem mm_cw_132 : mm_cwd (9, ⟨"RaftTown$Text", "clear", "()V"⟩, prog_11_method_3_code, 1, (none), 0, 1, [4227, 4225, 4226, 1008]) := rfl
theorem mm_cw_133 : mm_cwd (8, ⟨"RaftTown$Tape", "next", "()V"⟩, prog_10_method_13_code, 2, (none), 0, 1, [4231, 4230, 24, 1010]) := rfl
theorem mm_cw_134 : mm_cwd (8, ⟨"RaftTown$Tape", "byteAt", "(I)I"⟩, prog_10_method_14_code, 2, (some .int), 1, 1, [4235, 4234, 25, 1010]) := rfl
theorem mm_cw_135 : mm_cwd (8, ⟨"RaftTown$Tape", "isLetter", "(I)Z"⟩, prog_10_method_18_code, 1, (some .boolean), 1, 0, [4238, 4237, 0, 1010]) := rfl
theorem mm_cw_136 : mm_cwd (8, ⟨"RaftTown$Tape", "nextWord", "()V"⟩, prog_10_method_15_code, 2, (none), 0, 1, [5003, 5002, 26, 1010]) := rfl
theorem mm_cw_137 : mm_cwd (8, ⟨"RaftTown$Tape", "word", "(I)Ljava/lang/String;"⟩, prog_10_method_21_code, 1, (some (.object "java/lang/String")), 1, 0, [5006, 5005, 0, 1010]) := rfl
theorem mm_cw_138 : mm_cwd (8, ⟨"RaftTown$Tape", "standsHere", "(Ljava/lang/String;)Z"⟩, prog_10_method_16_code, 3, (some .boolean), 1, 1, [5026, 5025, 27, 1010]) := rfl
theorem mm_cw_139 : mm_cwd (15, ⟨"java/lang/String", "length", "()I"⟩, prog_18_method_54_code, 1, (some .int), 0, 1, [5030, 5028, 5029, 1016]) := rfl
theorem mm_cw_140 : mm_cwd (15, ⟨"java/lang/String", "coder", "()B"⟩, prog_18_method_152_code, 1, (some .byte), 0, 1, [5034, 5032, 5033, 1016]) := rfl
theorem mm_cw_141 : mm_cwd (15, ⟨"java/lang/String", "charAt", "(I)C"⟩, prog_18_method_56_code, 2, (some .char), 1, 1, [5040, 5038, 5039, 1016]) := rfl
theorem mm_cw_142 : mm_cwd (15, ⟨"java/lang/String", "isLatin1", "()Z"⟩, prog_18_method_154_code, 1, (some .boolean), 0, 1, [5044, 5042, 5043, 1016]) := rfl
theorem mm_cw_143 : mm_cwd (16, ⟨"java/lang/StringLatin1", "charAt", "([BI)C"⟩, prog_19_method_2_code, 2, (some .char), 2, 0, [5047, 5046, 0, 1017]) := rfl
theorem mm_cw_144 : mm_cwd (15, ⟨"java/lang/String", "checkIndex", "(II)V"⟩, prog_18_method_155_code, 2, (none), 2, 0, [5050, 5049, 0, 1016]) := rfl
theorem mm_cw_145 : mm_cwd (17, ⟨"jdk/internal/util/Preconditions", "checkIndex", "(IILjava/util/function/BiFunction;)I"⟩, prog_22_method_11_code, 3, (some .int), 3, 0, [5055, 5054, 0, 1018]) := rfl
theorem mm_cw_146 : mm_cwd (18, ⟨"java/lang/StringUTF16", "charAt", "([BI)C"⟩, prog_20_method_83_code, 2, (some .char), 2, 0, [5058, 5057, 0, 1019]) := rfl
theorem mm_cw_147 : mm_cwd (18, ⟨"java/lang/StringUTF16", "checkIndex", "(I[B)V"⟩, prog_20_method_91_code, 2, (none), 2, 0, [5061, 5060, 0, 1019]) := rfl
theorem mm_cw_148 : mm_cwd (18, ⟨"java/lang/StringUTF16", "length", "([B)I"⟩, prog_20_method_6_code, 1, (some .int), 1, 0, [5064, 5063, 0, 1019]) := rfl
theorem mm_cw_149 : mm_cwd (18, ⟨"java/lang/StringUTF16", "getChar", "([BI)C"⟩, prog_20_method_5_code, 2, (some .char), 2, 0, [5068, 5067, 0, 1019]) := rfl
theorem mm_cw_150 : mm_cwd (8, ⟨"RaftTown$Tape", "isDigit", "(I)Z"⟩, prog_10_method_19_code, 1, (some .boolean), 1, 0, [5077, 5076, 0, 1010]) := rfl
theorem mm_cw_151 : mm_cwd (8, ⟨"RaftTown$Tape", "nextNumber", "()V"⟩, prog_10_method_17_code, 1, (none), 0, 1, [5081, 5080, 28, 1010]) := rfl
theorem mm_cw_152 : mm_cwd (8, ⟨"RaftTown$Tape", "signOf", "(I)I"⟩, prog_10_method_20_code, 1, (some .int), 1, 0, [5084, 5083, 0, 1010]) := rfl
theorem mm_cw_153 : mm_cwd (8, ⟨"RaftTown$Tape", "readClause", "(II)Z"⟩, prog_10_method_5_code, 4, (some .boolean), 2, 1, [5088, 5087, 29, 1010]) := rfl
theorem mm_cw_154 : mm_cwd (8, ⟨"RaftTown$Tape", "pass", "(I)Z"⟩, prog_10_method_6_code, 2, (some .boolean), 1, 1, [5092, 5091, 30, 1010]) := rfl
theorem mm_cw_155 : mm_cwd (8, ⟨"RaftTown$Tape", "readOr", "(I)Z"⟩, prog_10_method_7_code, 4, (some .boolean), 1, 1, [5096, 5095, 31, 1010]) := rfl
theorem mm_cw_156 : mm_cwd (8, ⟨"RaftTown$Tape", "readAnd", "(I)Z"⟩, prog_10_method_8_code, 4, (some .boolean), 1, 1, [5100, 5099, 32, 1010]) := rfl
theorem mm_cw_157 : mm_cwd (8, ⟨"RaftTown$Tape", "readNot", "(I)Z"⟩, prog_10_method_9_code, 3, (some .boolean), 1, 1, [5104, 5103, 33, 1010]) := rfl
theorem mm_cw_158 : mm_cwd (8, ⟨"RaftTown$Tape", "readComparison", "(I)Z"⟩, prog_10_method_10_code, 4, (some .boolean), 1, 1, [5108, 5107, 34, 1010]) := rfl
theorem mm_cw_159 : mm_cwd (8, ⟨"RaftTown$Tape", "readSum", "(I)Z"⟩, prog_10_method_11_code, 5, (some .boolean), 1, 1, [5112, 5111, 35, 1010]) := rfl
theorem mm_cws_3 : ∀ t ∈ mm_mths_3, mm_cwd t := List.forall_mem_cons.mpr ⟨mm_cw_120, List.forall_mem_cons.mpr ⟨mm_cw_121, List.forall_mem_cons.mpr ⟨mm_cw_122, List.forall_mem_cons.mpr ⟨mm_cw_123, List.forall_mem_cons.mpr ⟨mm_cw_124, List.forall_mem_cons.mpr ⟨mm_cw_125, List.forall_mem_cons.mpr ⟨mm_cw_126, List.forall_mem_cons.mpr ⟨mm_cw_127, List.forall_mem_cons.mpr ⟨mm_cw_128, List.forall_mem_cons.mpr ⟨mm_cw_129, List.forall_mem_cons.mpr ⟨mm_cw_130, List.forall_mem_cons.mpr ⟨mm_cw_131, List.forall_mem_cons.mpr ⟨mm_cw_132, List.forall_mem_cons.mpr ⟨mm_cw_133, List.forall_mem_cons.mpr ⟨mm_cw_134, List.forall_mem_cons.mpr ⟨mm_cw_135, List.forall_mem_cons.mpr ⟨mm_cw_136, List.forall_mem_cons.mpr ⟨mm_cw_137, List.forall_mem_cons.mpr ⟨mm_cw_138, List.forall_mem_cons.mpr ⟨mm_cw_139, List.forall_mem_cons.mpr ⟨mm_cw_140, List.forall_mem_cons.mpr ⟨mm_cw_141, List.forall_mem_cons.mpr ⟨mm_cw_142, List.forall_mem_cons.mpr ⟨mm_cw_143, List.forall_mem_cons.mpr ⟨mm_cw_144, List.forall_mem_cons.mpr ⟨mm_cw_145, List.forall_mem_cons.mpr ⟨mm_cw_146, List.forall_mem_cons.mpr ⟨mm_cw_147, List.forall_mem_cons.mpr ⟨mm_cw_148, List.forall_mem_cons.mpr ⟨mm_cw_149, List.forall_mem_cons.mpr ⟨mm_cw_150, List.forall_mem_cons.mpr ⟨mm_cw_151, List.forall_mem_cons.mpr ⟨mm_cw_152, List.forall_mem_cons.mpr ⟨mm_cw_153, List.forall_mem_cons.mpr ⟨mm_cw_154, List.forall_mem_cons.mpr ⟨mm_cw_155, List.forall_mem_cons.mpr ⟨mm_cw_156, List.forall_mem_cons.mpr ⟨mm_cw_157, List.forall_mem_cons.mpr ⟨mm_cw_158, List.forall_mem_cons.mpr ⟨mm_cw_159, fun _ h => absurd h List.not_mem_nil⟩⟩⟩⟩⟩⟩⟩⟩⟩⟩⟩⟩⟩⟩⟩⟩⟩⟩⟩⟩⟩⟩⟩⟩⟩⟩⟩⟩⟩⟩⟩⟩⟩⟩⟩⟩⟩⟩⟩⟩
set_option maxRecDepth 100000 in
theorem mm_mths_4_ok : mm_mths_4.all mm_mchk = true := by decide +kernel
theorem mm_cw_160 : mm_cwd (8, ⟨"RaftTown$Tape", "readOne", "(I)Z"⟩, prog_10_method_12_code, 2, (some .boolean), 1, 1, [5116, 5115, 36, 1010]) := rfl
theorem mm_cw_161 : mm_cwd (9, ⟨"RaftTown$Text", "addNumber", "(I)V"⟩, prog_11_method_4_code, 2, (none), 1, 1, [5120, 5118, 5119, 1008]) := rfl
theorem mm_cw_162 : mm_cwd (9, ⟨"RaftTown$Text", "addToken", "(I)V"⟩, prog_11_method_5_code, 2, (none), 1, 1, [5124, 5122, 5123, 1008]) := rfl
theorem mm_cw_163 : mm_cwd (9, ⟨"RaftTown$Text", "endClause", "(I)V"⟩, prog_11_method_6_code, 2, (none), 1, 1, [5129, 5127, 5128, 1008]) := rfl
theorem mm_cw_164 : mm_cwd (9, ⟨"RaftTown$Text", "take", "(LRaftTown$Text;)V"⟩, prog_11_method_2_code, 2, (none), 1, 1, [5134, 5132, 5133, 1008]) := rfl
theorem mm_cw_165 : mm_cwd (11, ⟨"RaftTown", "force", "(II)I"⟩, prog_1_method_24_code, 3, (some .int), 2, 1, [5142, 5140, 5141, 1001]) := rfl
theorem mm_cw_166 : mm_cwd (1, ⟨"RaftTown$Log", "addLaw", "(III)I"⟩, prog_3_method_6_code, 5, (some .int), 3, 1, [5146, 5144, 5145, 1004]) := rfl
theorem mm_cw_167 : mm_cwd (11, ⟨"RaftTown", "law", "(I)I"⟩, prog_1_method_25_code, 3, (some .int), 1, 1, [5151, 5149, 5150, 1001]) := rfl
theorem mm_cw_168 : mm_cwd (11, ⟨"RaftTown", "lawAt", "(I)I"⟩, prog_1_method_44_code, 3, (some .int), 1, 1, [5155, 5154, 37, 1001]) := rfl
theorem mm_cw_169 : mm_cwd (11, ⟨"RaftTown", "may", "(II)I"⟩, prog_1_method_26_code, 5, (some .int), 2, 1, [5159, 5157, 5158, 1001]) := rfl
theorem mm_cw_170 : mm_cwd (11, ⟨"RaftTown", "must", "(II)I"⟩, prog_1_method_27_code, 4, (some .int), 2, 1, [5163, 5161, 5162, 1001]) := rfl
theorem mm_cw_171 : mm_cwd (0, ⟨"RaftTown$Judge", "nameRafts", "(LRaftTown$Town;III)V"⟩, prog_2_method_4_code, 5, (none), 4, 1, [5167, 5165, 5166, 1012]) := rfl
theorem mm_cw_172 : mm_cwd (11, ⟨"RaftTown", "speaks", "(I)I"⟩, prog_1_method_28_code, 8, (some .int), 1, 1, [5171, 5169, 5170, 1001]) := rfl
theorem mm_cw_173 : mm_cwd (0, ⟨"RaftTown$Judge", "namePerson", "(LRaftTown$Town;II)V"⟩, prog_2_method_5_code, 4, (none), 3, 1, [5176, 5174, 5175, 1012]) := rfl
theorem mm_cw_174 : mm_cwd (11, ⟨"RaftTown", "events", "(I)I"⟩, prog_1_method_29_code, 2, (some .int), 1, 1, [5184, 5182, 5183, 1001]) := rfl
theorem mm_cw_175 : mm_cwd (1, ⟨"RaftTown$Log", "countKnown", "(I)I"⟩, prog_3_method_8_code, 4, (some .int), 1, 1, [5188, 5186, 5187, 1004]) := rfl
theorem mm_cw_176 : mm_cwd (11, ⟨"RaftTown", "event", "(II)I"⟩, prog_1_method_30_code, 3, (some .int), 2, 1, [5192, 5190, 5191, 1001]) := rfl
theorem mm_cw_177 : mm_cwd (1, ⟨"RaftTown$Log", "detail", "(II)I"⟩, prog_3_method_4_code, 4, (some .int), 2, 1, [5196, 5194, 5195, 1004]) := rfl
theorem mm_cw_178 : mm_cwd (11, ⟨"RaftTown", "lash", "(II)I"⟩, prog_1_method_31_code, 4, (some .int), 2, 1, [5200, 5198, 5199, 1001]) := rfl
theorem mm_cw_179 : mm_cwd (2, ⟨"RaftTown$Net", "fewestLashings", "(II)I"⟩, prog_4_method_21_code, 11, (some .int), 2, 1, [5204, 5202, 5203, 1011]) := rfl
theorem mm_cw_180 : mm_cwd (2, ⟨"RaftTown$Net", "ropesOf", "(I)I"⟩, prog_4_method_20_code, 4, (some .int), 1, 1, [5208, 5207, 38, 1011]) := rfl
theorem mm_cw_181 : mm_cwd (2, ⟨"RaftTown$Net", "doomed", "(I)I"⟩, prog_4_method_18_code, 5, (some .int), 1, 1, [5212, 5211, 39, 1011]) := rfl
theorem mm_cw_182 : mm_cwd (2, ⟨"RaftTown$Net", "doomedOf", "(II)I"⟩, prog_4_method_19_code, 6, (some .int), 2, 1, [5216, 5215, 40, 1011]) := rfl
theorem mm_cw_183 : mm_cwd (2, ⟨"RaftTown$Net", "isBridge", "(II)Z"⟩, prog_4_method_16_code, 4, (some .boolean), 2, 1, [5220, 5219, 41, 1011]) := rfl
theorem mm_cw_184 : mm_cwd (2, ⟨"RaftTown$Net", "bridgesOf", "(I)I"⟩, prog_4_method_17_code, 4, (some .int), 1, 1, [5224, 5223, 42, 1011]) := rfl
theorem mm_cw_185 : mm_cwd (2, ⟨"RaftTown$Net", "holds", "(II)Z"⟩, prog_4_method_15_code, 4, (some .boolean), 2, 1, [5229, 5228, 43, 1011]) := rfl
theorem mm_cw_186 : mm_cwd (11, ⟨"RaftTown", "storm", "(IZ)I"⟩, prog_1_method_32_code, 4, (some .int), 2, 1, [5233, 5231, 5232, 1001]) := rfl
theorem mm_cw_187 : mm_cwd (2, ⟨"RaftTown$Net", "bestCuts", "(I)I"⟩, prog_4_method_24_code, 5, (some .int), 1, 1, [5237, 5235, 5236, 1011]) := rfl
theorem mm_cw_188 : mm_cwd (2, ⟨"RaftTown$Net", "mostKept", "(II)I"⟩, prog_4_method_22_code, 6, (some .int), 2, 1, [6001, 6000, 44, 1011]) := rfl
theorem mm_cw_189 : mm_cwd (2, ⟨"RaftTown$Net", "lostBy", "(III)I"⟩, prog_4_method_23_code, 5, (some .int), 3, 1, [6005, 6003, 6004, 1011]) := rfl
theorem mm_cw_190 : mm_cwd (11, ⟨"RaftTown", "proves", "(III)I"⟩, prog_1_method_33_code, 6, (some .int), 3, 1, [6011, 6009, 6010, 1001]) := rfl
theorem mm_cw_191 : mm_cwd (2, ⟨"RaftTown$Net", "firstUnproved", "(IILRaftTown$Sheet;)I"⟩, prog_4_method_25_code, 7, (some .int), 3, 1, [6016, 6014, 6015, 1011]) := rfl
theorem mm_cw_192 : mm_cwd (11, ⟨"RaftTown", "patch", "(II)I"⟩, prog_1_method_34_code, 4, (some .int), 2, 1, [6021, 6019, 6020, 1001]) := rfl
theorem mm_cw_193 : mm_cwd (11, ⟨"RaftTown", "hasSail", "(I)Z"⟩, prog_1_method_46_code, 2, (some .boolean), 1, 1, [6025, 6024, 45, 1001]) := rfl
theorem mm_cw_194 : mm_cwd (6, ⟨"RaftTown$Sea", "patchSize", "(IIZ)I"⟩, prog_8_method_7_code, 8, (some .int), 3, 1, [6029, 6027, 6028, 1003]) := rfl
theorem mm_cw_195 : mm_cwd (6, ⟨"RaftTown$Sea", "aDayOn", "(J)J"⟩, prog_8_method_9_code, 6, (some .long), 1, 1, [6038, 6037, 46, 1003]) := rfl
theorem mm_cw_196 : mm_cwd (19, ⟨"java/lang/Long", "bitCount", "(J)I"⟩, prog_16_method_50_code, 2, (some .int), 1, 0, [6041, 6040, 0, 1021]) := rfl
theorem mm_cw_197 : mm_cwd (11, ⟨"RaftTown", "tow", "(II)I"⟩, prog_1_method_35_code, 6, (some .int), 2, 1, [6048, 6046, 6047, 1001]) := rfl
theorem mm_cw_198 : mm_cwd (6, ⟨"RaftTown$Sea", "soonest", "(IIZ)I"⟩, prog_8_method_8_code, 9, (some .int), 3, 1, [6052, 6050, 6051, 1003]) := rfl
theorem mm_cw_199 : mm_cwd (11, ⟨"RaftTown", "sheet", "(III)I"⟩, prog_1_method_36_code, 4, (some .int), 3, 1, [6056, 6054, 6055, 1001]) := rfl
theorem mm_cws_4 : ∀ t ∈ mm_mths_4, mm_cwd t := List.forall_mem_cons.mpr ⟨mm_cw_160, List.forall_mem_cons.mpr ⟨mm_cw_161, List.forall_mem_cons.mpr ⟨mm_cw_162, List.forall_mem_cons.mpr ⟨mm_cw_163, List.forall_mem_cons.mpr ⟨mm_cw_164, List.forall_mem_cons.mpr ⟨mm_cw_165, List.forall_mem_cons.mpr ⟨mm_cw_166, List.forall_mem_cons.mpr ⟨mm_cw_167, List.forall_mem_cons.mpr ⟨mm_cw_168, List.forall_mem_cons.mpr ⟨mm_cw_169, List.forall_mem_cons.mpr ⟨mm_cw_170, List.forall_mem_cons.mpr ⟨mm_cw_171, List.forall_mem_cons.mpr ⟨mm_cw_172, List.forall_mem_cons.mpr ⟨mm_cw_173, List.forall_mem_cons.mpr ⟨mm_cw_174, List.forall_mem_cons.mpr ⟨mm_cw_175, List.forall_mem_cons.mpr ⟨mm_cw_176, List.forall_mem_cons.mpr ⟨mm_cw_177, List.forall_mem_cons.mpr ⟨mm_cw_178, List.forall_mem_cons.mpr ⟨mm_cw_179, List.forall_mem_cons.mpr ⟨mm_cw_180, List.forall_mem_cons.mpr ⟨mm_cw_181, List.forall_mem_cons.mpr ⟨mm_cw_182, List.forall_mem_cons.mpr ⟨mm_cw_183, List.forall_mem_cons.mpr ⟨mm_cw_184, List.forall_mem_cons.mpr ⟨mm_cw_185, List.forall_mem_cons.mpr ⟨mm_cw_186, List.forall_mem_cons.mpr ⟨mm_cw_187, List.forall_mem_cons.mpr ⟨mm_cw_188, List.forall_mem_cons.mpr ⟨mm_cw_189, List.forall_mem_cons.mpr ⟨mm_cw_190, List.forall_mem_cons.mpr ⟨mm_cw_191, List.forall_mem_cons.mpr ⟨mm_cw_192, List.forall_mem_cons.mpr ⟨mm_cw_193, List.forall_mem_cons.mpr ⟨mm_cw_194, List.forall_mem_cons.mpr ⟨mm_cw_195, List.forall_mem_cons.mpr ⟨mm_cw_196, List.forall_mem_cons.mpr ⟨mm_cw_197, List.forall_mem_cons.mpr ⟨mm_cw_198, List.forall_mem_cons.mpr ⟨mm_cw_199, fun _ h => absurd h List.not_mem_nil⟩⟩⟩⟩⟩⟩⟩⟩⟩⟩⟩⟩⟩⟩⟩⟩⟩⟩⟩⟩⟩⟩⟩⟩⟩⟩⟩⟩⟩⟩⟩⟩⟩⟩⟩⟩⟩⟩⟩⟩
set_option maxRecDepth 100000 in
theorem mm_mths_5_ok : mm_mths_5.all mm_mchk = true := by decide +kernel
theorem mm_cw_200 : mm_cwd (7, ⟨"RaftTown$Sheet", "rule", "(II)I"⟩, prog_9_method_3_code, 4, (some .int), 2, 1, [6060, 6058, 6059, 1009]) := rfl
theorem mm_cw_201 : mm_cwd (11, ⟨"RaftTown", "put", "(III)I"⟩, prog_1_method_37_code, 5, (some .int), 3, 1, [6064, 6062, 6063, 1001]) := rfl
theorem mm_cw_202 : mm_cwd (7, ⟨"RaftTown$Sheet", "write", "(II)V"⟩, prog_9_method_4_code, 3, (none), 2, 1, [6068, 6066, 6067, 1009]) := rfl
theorem mm_cw_203 : mm_cwd (11, ⟨"RaftTown", "copy", "(IIIII)I"⟩, prog_1_method_38_code, 8, (some .int), 5, 1, [6073, 6071, 6072, 1001]) := rfl
theorem mm_cw_204 : mm_cwd (7, ⟨"RaftTown$Sheet", "hasRun", "(II)Z"⟩, prog_9_method_6_code, 3, (some .boolean), 2, 1, [6077, 6075, 6076, 1009]) := rfl
theorem mm_cw_205 : mm_cwd (11, ⟨"RaftTown", "image", "()I"⟩, prog_1_method_39_code, 1, (some .int), 0, 1, [6082, 6080, 6081, 1001]) := rfl
theorem mm_cw_206 : mm_cwd (10, ⟨"RaftTown$Town", "take", "(LRaftTown$Town;)V"⟩, prog_12_method_2_code, 3, (none), 1, 1, [6086, 6084, 6085, 1002]) := rfl
theorem mm_cw_207 : mm_cwd (6, ⟨"RaftTown$Sea", "take", "(LRaftTown$Sea;)V"⟩, prog_8_method_2_code, 2, (none), 1, 1, [6090, 6088, 6089, 1003]) := rfl
theorem mm_cw_208 : mm_cwd (4, ⟨"RaftTown$Raft", "take", "(LRaftTown$Raft;)V"⟩, prog_6_method_2_code, 2, (none), 1, 1, [6095, 6093, 6094, 1005]) := rfl
theorem mm_cw_209 : mm_cwd (3, ⟨"RaftTown$Person", "take", "(LRaftTown$Person;)V"⟩, prog_5_method_2_code, 2, (none), 1, 1, [6100, 6098, 6099, 1006]) := rfl
theorem mm_cw_210 : mm_cwd (5, ⟨"RaftTown$Rope", "take", "(LRaftTown$Rope;)V"⟩, prog_7_method_2_code, 2, (none), 1, 1, [6105, 6103, 6104, 1007]) := rfl
theorem mm_cw_211 : mm_cwd (1, ⟨"RaftTown$Log", "take", "(LRaftTown$Log;)V"⟩, prog_3_method_2_code, 2, (none), 1, 1, [6110, 6108, 6109, 1004]) := rfl
theorem mm_cw_212 : mm_cwd (11, ⟨"RaftTown", "restore", "()I"⟩, prog_1_method_40_code, 1, (some .int), 0, 1, [6116, 6114, 6115, 1001]) := rfl
theorem mm_cw_213 : mm_cwd (11, ⟨"RaftTown", "count", "(I)I"⟩, prog_1_method_41_code, 2, (some .int), 1, 1, [6120, 6118, 6119, 1001]) := rfl
theorem mm_cw_214 : mm_cwd (10, ⟨"RaftTown$Town", "countAfloat", "()I"⟩, prog_12_method_22_code, 3, (some .int), 0, 1, [6124, 6122, 6123, 1002]) := rfl
theorem mm_cw_215 : mm_cwd (10, ⟨"RaftTown$Town", "countAlive", "()I"⟩, prog_12_method_23_code, 3, (some .int), 0, 1, [6128, 6126, 6127, 1002]) := rfl
theorem mm_cw_216 : mm_cwd (10, ⟨"RaftTown$Town", "countRopes", "()I"⟩, prog_12_method_24_code, 3, (some .int), 0, 1, [6132, 6130, 6131, 1002]) := rfl
theorem mm_cw_217 : mm_cwd (10, ⟨"RaftTown$Town", "countCasks", "()I"⟩, prog_12_method_25_code, 3, (some .int), 0, 1, [6136, 6134, 6135, 1002]) := rfl
theorem mm_cw_218 : mm_cwd (12, ⟨"RaftTownModel", "<init>", "()V"⟩, prog_14_method_1_code, 1, (none), 0, 2, [6141, 6140, 0, 1013]) := rfl
theorem mm_cw_219 : mm_cwd (12, ⟨"RaftTownModel", "stream", "(III)I"⟩, prog_14_method_12_code, 4, (some .int), 3, 1, [6227, 6225, 6226, 1013]) := rfl
theorem mm_cw_220 : mm_cwd (12, ⟨"RaftTownModel", "in", "(III)Z"⟩, prog_14_method_3_code, 3, (some .boolean), 3, 0, [6230, 6229, 0, 1013]) := rfl
theorem mm_cw_221 : mm_cwd (12, ⟨"RaftTownModel", "finds", "(I)I"⟩, prog_14_method_4_code, 2, (some .int), 1, 1, [6235, 6234, 47, 1013]) := rfl
theorem mm_cw_222 : mm_cwd (12, ⟨"RaftTownModel", "raft", "(IIII)I"⟩, prog_14_method_13_code, 6, (some .int), 4, 1, [6239, 6237, 6238, 1013]) := rfl
theorem mm_cw_223 : mm_cwd (12, ⟨"RaftTownModel", "makes", "(III)V"⟩, prog_14_method_10_code, 4, (none), 3, 1, [7004, 7003, 48, 1013]) := rfl
theorem mm_cw_224 : mm_cwd (12, ⟨"RaftTownModel", "as", "(II)I"⟩, prog_14_method_14_code, 4, (some .int), 2, 1, [7008, 7006, 7007, 1013]) := rfl
theorem mm_cw_225 : mm_cwd (12, ⟨"RaftTownModel", "isFloat", "(I)Z"⟩, prog_14_method_5_code, 2, (some .boolean), 1, 1, [7012, 7011, 49, 1013]) := rfl
theorem mm_cw_226 : mm_cwd (12, ⟨"RaftTownModel", "own", "(II)I"⟩, prog_14_method_9_code, 3, (some .int), 2, 1, [7016, 7015, 50, 1013]) := rfl
theorem mm_cw_227 : mm_cwd (12, ⟨"RaftTownModel", "raftIs", "(II)I"⟩, prog_14_method_17_code, 3, (some .int), 2, 1, [7021, 7019, 7020, 1013]) := rfl
theorem mm_cw_228 : mm_cwd (12, ⟨"RaftTownModel", "weightOf", "(I)I"⟩, prog_14_method_16_code, 4, (some .int), 1, 1, [7025, 7024, 51, 1013]) := rfl
theorem mm_cw_229 : mm_cwd (12, ⟨"RaftTownModel", "isOn", "(II)Z"⟩, prog_14_method_23_code, 3, (some .boolean), 2, 1, [7029, 7028, 52, 1013]) := rfl
theorem mm_cw_230 : mm_cwd (12, ⟨"RaftTownModel", "isLost", "(I)Z"⟩, prog_14_method_22_code, 2, (some .boolean), 1, 1, [7033, 7032, 53, 1013]) := rfl
theorem mm_cw_231 : mm_cwd (12, ⟨"RaftTownModel", "ofPerson", "(II)I"⟩, prog_14_method_21_code, 3, (some .int), 2, 1, [7037, 7036, 54, 1013]) := rfl
theorem mm_cw_232 : mm_cwd (12, ⟨"RaftTownModel", "areaOf", "(I)I"⟩, prog_14_method_15_code, 3, (some .int), 1, 1, [7041, 7040, 55, 1013]) := rfl
theorem mm_cw_233 : mm_cwd (12, ⟨"RaftTownModel", "allRopes", "()I"⟩, prog_14_method_32_code, 3, (some .int), 0, 1, [7045, 7044, 56, 1013]) := rfl
theorem mm_cw_234 : mm_cwd (12, ⟨"RaftTownModel", "isLaid", "(I)Z"⟩, prog_14_method_31_code, 2, (some .boolean), 1, 1, [7049, 7048, 57, 1013]) := rfl
theorem mm_cw_235 : mm_cwd (12, ⟨"RaftTownModel", "ofRope", "(II)I"⟩, prog_14_method_30_code, 3, (some .int), 2, 1, [7053, 7052, 58, 1013]) := rfl
theorem mm_cw_236 : mm_cwd (12, ⟨"RaftTownModel", "partOf", "(II)I"⟩, prog_14_method_33_code, 8, (some .int), 2, 1, [7057, 7056, 59, 1013]) := rfl
theorem mm_cw_237 : mm_cwd (12, ⟨"RaftTownModel", "leastOf", "(I)I"⟩, prog_14_method_34_code, 2, (some .int), 1, 0, [7060, 7059, 0, 1013]) := rfl
theorem mm_cw_238 : mm_cwd (12, ⟨"RaftTownModel", "load", "(IIZ)I"⟩, prog_14_method_19_code, 5, (some .int), 3, 1, [7064, 7062, 7063, 1013]) := rfl
theorem mm_cw_239 : mm_cwd (12, ⟨"RaftTownModel", "isSunk", "(I)Z"⟩, prog_14_method_11_code, 2, (some .boolean), 1, 1, [7068, 7067, 60, 1013]) := rfl
theorem mm_cws_5 : ∀ t ∈ mm_mths_5, mm_cwd t := List.forall_mem_cons.mpr ⟨mm_cw_200, List.forall_mem_cons.mpr ⟨mm_cw_201, List.forall_mem_cons.mpr ⟨mm_cw_202, List.forall_mem_cons.mpr ⟨mm_cw_203, List.forall_mem_cons.mpr ⟨mm_cw_204, List.forall_mem_cons.mpr ⟨mm_cw_205, List.forall_mem_cons.mpr ⟨mm_cw_206, List.forall_mem_cons.mpr ⟨mm_cw_207, List.forall_mem_cons.mpr ⟨mm_cw_208, List.forall_mem_cons.mpr ⟨mm_cw_209, List.forall_mem_cons.mpr ⟨mm_cw_210, List.forall_mem_cons.mpr ⟨mm_cw_211, List.forall_mem_cons.mpr ⟨mm_cw_212, List.forall_mem_cons.mpr ⟨mm_cw_213, List.forall_mem_cons.mpr ⟨mm_cw_214, List.forall_mem_cons.mpr ⟨mm_cw_215, List.forall_mem_cons.mpr ⟨mm_cw_216, List.forall_mem_cons.mpr ⟨mm_cw_217, List.forall_mem_cons.mpr ⟨mm_cw_218, List.forall_mem_cons.mpr ⟨mm_cw_219, List.forall_mem_cons.mpr ⟨mm_cw_220, List.forall_mem_cons.mpr ⟨mm_cw_221, List.forall_mem_cons.mpr ⟨mm_cw_222, List.forall_mem_cons.mpr ⟨mm_cw_223, List.forall_mem_cons.mpr ⟨mm_cw_224, List.forall_mem_cons.mpr ⟨mm_cw_225, List.forall_mem_cons.mpr ⟨mm_cw_226, List.forall_mem_cons.mpr ⟨mm_cw_227, List.forall_mem_cons.mpr ⟨mm_cw_228, List.forall_mem_cons.mpr ⟨mm_cw_229, List.forall_mem_cons.mpr ⟨mm_cw_230, List.forall_mem_cons.mpr ⟨mm_cw_231, List.forall_mem_cons.mpr ⟨mm_cw_232, List.forall_mem_cons.mpr ⟨mm_cw_233, List.forall_mem_cons.mpr ⟨mm_cw_234, List.forall_mem_cons.mpr ⟨mm_cw_235, List.forall_mem_cons.mpr ⟨mm_cw_236, List.forall_mem_cons.mpr ⟨mm_cw_237, List.forall_mem_cons.mpr ⟨mm_cw_238, List.forall_mem_cons.mpr ⟨mm_cw_239, fun _ h => absurd h List.not_mem_nil⟩⟩⟩⟩⟩⟩⟩⟩⟩⟩⟩⟩⟩⟩⟩⟩⟩⟩⟩⟩⟩⟩⟩⟩⟩⟩⟩⟩⟩⟩⟩⟩⟩⟩⟩⟩⟩⟩⟩⟩
set_option maxRecDepth 100000 in
theorem mm_mths_6_ok : mm_mths_6.all mm_mchk = true := by decide +kernel
theorem mm_cw_240 : mm_cwd (12, ⟨"RaftTownModel", "roomOf", "(I)I"⟩, prog_14_method_18_code, 2, (some .int), 1, 1, [7073, 7072, 61, 1013]) := rfl
theorem mm_cw_241 : mm_cwd (12, ⟨"RaftTownModel", "trade", "(IIIZ)I"⟩, prog_14_method_20_code, 6, (some .int), 4, 1, [7077, 7075, 7076, 1013]) := rfl
theorem mm_cw_242 : mm_cwd (12, ⟨"RaftTownModel", "person", "(IIII)I"⟩, prog_14_method_24_code, 7, (some .int), 4, 1, [7084, 7082, 7083, 1013]) := rfl
theorem mm_cw_243 : mm_cwd (12, ⟨"RaftTownModel", "wed", "(II)I"⟩, prog_14_method_25_code, 3, (some .int), 2, 1, [7088, 7086, 7087, 1013]) := rfl
theorem mm_cw_244 : mm_cwd (12, ⟨"RaftTownModel", "isPerson", "(I)Z"⟩, prog_14_method_6_code, 2, (some .boolean), 1, 1, [7092, 7091, 62, 1013]) := rfl
theorem mm_cw_245 : mm_cwd (12, ⟨"RaftTownModel", "move", "(II)I"⟩, prog_14_method_26_code, 4, (some .int), 2, 1, [7097, 7095, 7096, 1013]) := rfl
theorem mm_cw_246 : mm_cwd (12, ⟨"RaftTownModel", "personIs", "(II)I"⟩, prog_14_method_29_code, 5, (some .int), 2, 1, [7101, 7099, 7100, 1013]) := rfl
theorem mm_cw_247 : mm_cwd (12, ⟨"RaftTownModel", "areKin", "(II)Z"⟩, prog_14_method_28_code, 3, (some .boolean), 2, 1, [7105, 7104, 63, 1013]) := rfl
theorem mm_cw_248 : mm_cwd (12, ⟨"RaftTownModel", "isParent", "(II)Z"⟩, prog_14_method_27_code, 3, (some .boolean), 2, 1, [7109, 7108, 64, 1013]) := rfl
theorem mm_cw_249 : mm_cwd (12, ⟨"RaftTownModel", "parts", "()I"⟩, prog_14_method_37_code, 1, (some .int), 0, 1, [7113, 7111, 7112, 1013]) := rfl
theorem mm_cw_250 : mm_cwd (12, ⟨"RaftTownModel", "partMany", "()I"⟩, prog_14_method_36_code, 4, (some .int), 0, 1, [7117, 7116, 65, 1013]) := rfl
theorem mm_cw_251 : mm_cwd (12, ⟨"RaftTownModel", "part", "(I)I"⟩, prog_14_method_38_code, 2, (some .int), 1, 1, [7121, 7119, 7120, 1013]) := rfl
theorem mm_cw_252 : mm_cwd (12, ⟨"RaftTownModel", "tie", "(IIIII)I"⟩, prog_14_method_40_code, 9, (some .int), 5, 1, [7125, 7123, 7124, 1013]) := rfl
theorem mm_cw_253 : mm_cwd (12, ⟨"RaftTownModel", "hasRoom", "(II)Z"⟩, prog_14_method_39_code, 5, (some .boolean), 2, 1, [7129, 7128, 66, 1013]) := rfl
theorem mm_cw_254 : mm_cwd (12, ⟨"RaftTownModel", "tellsOn", "(I)V"⟩, prog_14_method_51_code, 3, (none), 1, 1, [7133, 7132, 67, 1013]) := rfl
theorem mm_cw_255 : mm_cwd (12, ⟨"RaftTownModel", "happens", "(III)V"⟩, prog_14_method_50_code, 5, (none), 3, 1, [7137, 7136, 68, 1013]) := rfl
theorem mm_cw_256 : mm_cwd (12, ⟨"RaftTownModel", "rope", "(II)I"⟩, prog_14_method_47_code, 3, (some .int), 2, 1, [7141, 7139, 7140, 1013]) := rfl
theorem mm_cw_257 : mm_cwd (12, ⟨"RaftTownModel", "isRope", "(I)Z"⟩, prog_14_method_7_code, 2, (some .boolean), 1, 1, [7145, 7144, 69, 1013]) := rfl
theorem mm_cw_258 : mm_cwd (12, ⟨"RaftTownModel", "strengthOf", "(I)I"⟩, prog_14_method_41_code, 3, (some .int), 1, 1, [7149, 7148, 70, 1013]) := rfl
theorem mm_cw_259 : mm_cwd (12, ⟨"RaftTownModel", "weighs", "()V"⟩, prog_14_method_43_code, 2, (none), 0, 1, [7153, 7152, 71, 1013]) := rfl
theorem mm_cw_260 : mm_cwd (12, ⟨"RaftTownModel", "hangOf", "(II)I"⟩, prog_14_method_44_code, 8, (some .int), 2, 1, [7157, 7156, 72, 1013]) := rfl
theorem mm_cw_261 : mm_cwd (12, ⟨"RaftTownModel", "weightOfAll", "(I)I"⟩, prog_14_method_42_code, 4, (some .int), 1, 1, [7161, 7160, 73, 1013]) := rfl
theorem mm_cw_262 : mm_cwd (12, ⟨"RaftTownModel", "bears", "(II)I"⟩, prog_14_method_48_code, 3, (some .int), 2, 1, [7165, 7163, 7164, 1013]) := rfl
theorem mm_cw_263 : mm_cwd (12, ⟨"RaftTownModel", "isWaves", "(I)Z"⟩, prog_14_method_8_code, 1, (some .boolean), 1, 0, [7168, 7167, 0, 1013]) := rfl
theorem mm_cw_264 : mm_cwd (12, ⟨"RaftTownModel", "loadOf", "(III)I"⟩, prog_14_method_45_code, 4, (some .int), 3, 1, [7172, 7171, 74, 1013]) := rfl
theorem mm_cw_265 : mm_cwd (12, ⟨"RaftTownModel", "worst", "(II)I"⟩, prog_14_method_49_code, 6, (some .int), 2, 1, [7176, 7174, 7175, 1013]) := rfl
theorem mm_cw_266 : mm_cwd (12, ⟨"RaftTownModel", "partsFirst", "(II)I"⟩, prog_14_method_46_code, 7, (some .int), 2, 1, [7180, 7179, 75, 1013]) := rfl
theorem mm_cw_267 : mm_cwd (12, ⟨"RaftTownModel", "events", "(I)I"⟩, prog_14_method_52_code, 4, (some .int), 1, 1, [7184, 7182, 7183, 1013]) := rfl
theorem mm_cw_268 : mm_cwd (12, ⟨"RaftTownModel", "event", "(II)I"⟩, prog_14_method_53_code, 3, (some .int), 2, 1, [7188, 7186, 7187, 1013]) := rfl
theorem mm_cw_269 : mm_cwd (12, ⟨"RaftTownModel", "day", "(II)I"⟩, prog_14_method_65_code, 3, (some .int), 2, 1, [7192, 7190, 7191, 1013]) := rfl
theorem mm_cw_270 : mm_cwd (12, ⟨"RaftTownModel", "passes", "(II)I"⟩, prog_14_method_64_code, 4, (some .int), 2, 1, [7196, 7195, 76, 1013]) := rfl
theorem mm_cw_271 : mm_cwd (12, ⟨"RaftTownModel", "partsAll", "(I)I"⟩, prog_14_method_55_code, 5, (some .int), 1, 1, [7200, 7199, 77, 1013]) := rfl
theorem mm_cw_272 : mm_cwd (12, ⟨"RaftTownModel", "rains", "(I)V"⟩, prog_14_method_56_code, 4, (none), 1, 1, [7204, 7203, 78, 1013]) := rfl
theorem mm_cw_273 : mm_cwd (12, ⟨"RaftTownModel", "drinks", "(I)Z"⟩, prog_14_method_57_code, 2, (some .boolean), 1, 1, [7208, 7207, 79, 1013]) := rfl
theorem mm_cw_274 : mm_cwd (12, ⟨"RaftTownModel", "allDrink", "()V"⟩, prog_14_method_58_code, 6, (none), 0, 1, [7212, 7211, 80, 1013]) := rfl
theorem mm_cw_275 : mm_cwd (12, ⟨"RaftTownModel", "loses", "(II)V"⟩, prog_14_method_54_code, 3, (none), 2, 1, [7216, 7215, 81, 1013]) := rfl
theorem mm_cw_276 : mm_cwd (12, ⟨"RaftTownModel", "ropesAge", "(I)V"⟩, prog_14_method_59_code, 3, (none), 1, 1, [7220, 7219, 82, 1013]) := rfl
theorem mm_cw_277 : mm_cwd (12, ⟨"RaftTownModel", "rots", "()V"⟩, prog_14_method_61_code, 2, (none), 0, 1, [7224, 7223, 83, 1013]) := rfl
theorem mm_cw_278 : mm_cwd (12, ⟨"RaftTownModel", "sinks", "(I)V"⟩, prog_14_method_60_code, 5, (none), 1, 1, [7228, 7227, 84, 1013]) := rfl
theorem mm_cw_279 : mm_cwd (12, ⟨"RaftTownModel", "drifts", "()V"⟩, prog_14_method_63_code, 2, (none), 0, 1, [7232, 7231, 85, 1013]) := rfl
theorem mm_cws_6 : ∀ t ∈ mm_mths_6, mm_cwd t := List.forall_mem_cons.mpr ⟨mm_cw_240, List.forall_mem_cons.mpr ⟨mm_cw_241, List.forall_mem_cons.mpr ⟨mm_cw_242, List.forall_mem_cons.mpr ⟨mm_cw_243, List.forall_mem_cons.mpr ⟨mm_cw_244, List.forall_mem_cons.mpr ⟨mm_cw_245, List.forall_mem_cons.mpr ⟨mm_cw_246, List.forall_mem_cons.mpr ⟨mm_cw_247, List.forall_mem_cons.mpr ⟨mm_cw_248, List.forall_mem_cons.mpr ⟨mm_cw_249, List.forall_mem_cons.mpr ⟨mm_cw_250, List.forall_mem_cons.mpr ⟨mm_cw_251, List.forall_mem_cons.mpr ⟨mm_cw_252, List.forall_mem_cons.mpr ⟨mm_cw_253, List.forall_mem_cons.mpr ⟨mm_cw_254, List.forall_mem_cons.mpr ⟨mm_cw_255, List.forall_mem_cons.mpr ⟨mm_cw_256, List.forall_mem_cons.mpr ⟨mm_cw_257, List.forall_mem_cons.mpr ⟨mm_cw_258, List.forall_mem_cons.mpr ⟨mm_cw_259, List.forall_mem_cons.mpr ⟨mm_cw_260, List.forall_mem_cons.mpr ⟨mm_cw_261, List.forall_mem_cons.mpr ⟨mm_cw_262, List.forall_mem_cons.mpr ⟨mm_cw_263, List.forall_mem_cons.mpr ⟨mm_cw_264, List.forall_mem_cons.mpr ⟨mm_cw_265, List.forall_mem_cons.mpr ⟨mm_cw_266, List.forall_mem_cons.mpr ⟨mm_cw_267, List.forall_mem_cons.mpr ⟨mm_cw_268, List.forall_mem_cons.mpr ⟨mm_cw_269, List.forall_mem_cons.mpr ⟨mm_cw_270, List.forall_mem_cons.mpr ⟨mm_cw_271, List.forall_mem_cons.mpr ⟨mm_cw_272, List.forall_mem_cons.mpr ⟨mm_cw_273, List.forall_mem_cons.mpr ⟨mm_cw_274, List.forall_mem_cons.mpr ⟨mm_cw_275, List.forall_mem_cons.mpr ⟨mm_cw_276, List.forall_mem_cons.mpr ⟨mm_cw_277, List.forall_mem_cons.mpr ⟨mm_cw_278, List.forall_mem_cons.mpr ⟨mm_cw_279, fun _ h => absurd h List.not_mem_nil⟩⟩⟩⟩⟩⟩⟩⟩⟩⟩⟩⟩⟩⟩⟩⟩⟩⟩⟩⟩⟩⟩⟩⟩⟩⟩⟩⟩⟩⟩⟩⟩⟩⟩⟩⟩⟩⟩⟩⟩
set_option maxRecDepth 100000 in
theorem mm_mths_7_ok : mm_mths_7.all mm_mchk = true := by decide +kernel
theorem mm_cw_280 : mm_cwd (12, ⟨"RaftTownModel", "leads", "(II)I"⟩, prog_14_method_62_code, 5, (some .int), 2, 1, [7236, 7235, 86, 1013]) := rfl
theorem mm_cw_281 : mm_cwd (12, ⟨"RaftTownModel", "days", "(II)I"⟩, prog_14_method_66_code, 8, (some .int), 2, 1, [8000, 7238, 7239, 1013]) := rfl
theorem mm_cw_282 : mm_cwd (12, ⟨"RaftTownModel", "isSheet", "(I)Z"⟩, prog_14_method_107_code, 1, (some .boolean), 1, 0, [8003, 8002, 0, 1013]) := rfl
theorem mm_cw_283 : mm_cwd (12, ⟨"RaftTownModel", "lasts", "(I)I"⟩, prog_14_method_69_code, 5, (some .int), 1, 1, [8007, 8005, 8006, 1013]) := rfl
theorem mm_cw_284 : mm_cwd (12, ⟨"RaftTownModel", "headsOf", "(I)I"⟩, prog_14_method_67_code, 4, (some .int), 1, 1, [8011, 8010, 87, 1013]) := rfl
theorem mm_cw_285 : mm_cwd (12, ⟨"RaftTownModel", "waterOf", "(I)I"⟩, prog_14_method_68_code, 4, (some .int), 1, 1, [8015, 8014, 88, 1013]) := rfl
theorem mm_cw_286 : mm_cwd (12, ⟨"RaftTownModel", "feed", "(IJ)I"⟩, prog_14_method_70_code, 5, (some .int), 2, 1, [8019, 8017, 8018, 1013]) := rfl
theorem mm_cw_287 : mm_cwd (12, ⟨"RaftTownModel", "text", "(I)I"⟩, prog_14_method_84_code, 4, (some .int), 1, 1, [8023, 8021, 8022, 1013]) := rfl
theorem mm_cw_288 : mm_cwd (12, ⟨"RaftTownModel", "reads", "()Z"⟩, prog_14_method_83_code, 2, (some .boolean), 0, 1, [8027, 8026, 89, 1013]) := rfl
theorem mm_cw_289 : mm_cwd (12, ⟨"RaftTownModel", "looks", "()V"⟩, prog_14_method_76_code, 2, (none), 0, 1, [8031, 8030, 90, 1013]) := rfl
theorem mm_cw_290 : mm_cwd (12, ⟨"RaftTownModel", "byteAt", "(I)I"⟩, prog_14_method_71_code, 2, (some .int), 1, 1, [8035, 8034, 91, 1013]) := rfl
theorem mm_cw_291 : mm_cwd (12, ⟨"RaftTownModel", "isLetter", "(I)Z"⟩, prog_14_method_72_code, 1, (some .boolean), 1, 0, [8038, 8037, 0, 1013]) := rfl
theorem mm_cw_292 : mm_cwd (12, ⟨"RaftTownModel", "wordOf", "()I"⟩, prog_14_method_75_code, 4, (some .int), 0, 1, [8042, 8041, 92, 1013]) := rfl
theorem mm_cw_293 : mm_cwd (12, ⟨"RaftTownModel", "isDigit", "(I)Z"⟩, prog_14_method_73_code, 1, (some .boolean), 1, 0, [8045, 8044, 0, 1013]) := rfl
theorem mm_cw_294 : mm_cwd (12, ⟨"RaftTownModel", "isSign", "(I)Z"⟩, prog_14_method_74_code, 1, (some .boolean), 1, 0, [8048, 8047, 0, 1013]) := rfl
theorem mm_cw_295 : mm_cwd (12, ⟨"RaftTownModel", "readsE", "(I)Z"⟩, prog_14_method_82_code, 5, (some .boolean), 1, 1, [8052, 8051, 93, 1013]) := rfl
theorem mm_cw_296 : mm_cwd (12, ⟨"RaftTownModel", "waitsOf", "(I)I"⟩, prog_14_method_80_code, 4, (some .int), 1, 1, [8056, 8055, 94, 1013]) := rfl
theorem mm_cw_297 : mm_cwd (12, ⟨"RaftTownModel", "lays", "(I)V"⟩, prog_14_method_78_code, 2, (none), 1, 1, [8060, 8059, 95, 1013]) := rfl
theorem mm_cw_298 : mm_cwd (12, ⟨"RaftTownModel", "settles", "(I)V"⟩, prog_14_method_79_code, 2, (none), 1, 1, [8064, 8063, 96, 1013]) := rfl
theorem mm_cw_299 : mm_cwd (12, ⟨"RaftTownModel", "rankOf", "(I)I"⟩, prog_14_method_77_code, 1, (some .int), 1, 0, [8067, 8066, 0, 1013]) := rfl
theorem mm_cw_300 : mm_cwd (12, ⟨"RaftTownModel", "isTested", "()Z"⟩, prog_14_method_81_code, 2, (some .boolean), 0, 1, [8071, 8070, 97, 1013]) := rfl
theorem mm_cw_301 : mm_cwd (12, ⟨"RaftTownModel", "force", "(II)I"⟩, prog_14_method_87_code, 5, (some .int), 2, 1, [8075, 8073, 8074, 1013]) := rfl
theorem mm_cw_302 : mm_cwd (12, ⟨"RaftTownModel", "law", "(I)I"⟩, prog_14_method_89_code, 3, (some .int), 1, 1, [8079, 8077, 8078, 1013]) := rfl
theorem mm_cw_303 : mm_cwd (12, ⟨"RaftTownModel", "lawOf", "(I)I"⟩, prog_14_method_88_code, 4, (some .int), 1, 1, [8083, 8082, 98, 1013]) := rfl
theorem mm_cw_304 : mm_cwd (12, ⟨"RaftTownModel", "cut", "(I)I"⟩, prog_14_method_93_code, 4, (some .int), 1, 1, [8087, 8085, 8086, 1013]) := rfl
theorem mm_cw_305 : mm_cwd (12, ⟨"RaftTownModel", "cutOf", "(IIII)I"⟩, prog_14_method_92_code, 5, (some .int), 4, 1, [8091, 8090, 99, 1013]) := rfl
theorem mm_cw_306 : mm_cwd (12, ⟨"RaftTownModel", "namesOf", "(I)V"⟩, prog_14_method_90_code, 3, (none), 1, 1, [8095, 8094, 100, 1013]) := rfl
theorem mm_cw_307 : mm_cwd (12, ⟨"RaftTownModel", "kinOn", "(II)I"⟩, prog_14_method_91_code, 6, (some .int), 2, 1, [8099, 8098, 101, 1013]) := rfl
theorem mm_cw_308 : mm_cwd (12, ⟨"RaftTownModel", "worth", "(II)I"⟩, prog_14_method_86_code, 7, (some .int), 2, 1, [8103, 8102, 102, 1013]) := rfl
theorem mm_cw_309 : mm_cwd (12, ⟨"RaftTownModel", "done", "(III)I"⟩, prog_14_method_85_code, 3, (some .int), 3, 0, [8106, 8105, 0, 1013]) := rfl
theorem mm_cw_310 : mm_cwd (12, ⟨"RaftTownModel", "may", "(II)I"⟩, prog_14_method_94_code, 5, (some .int), 2, 1, [8111, 8109, 8110, 1013]) := rfl
theorem mm_cw_311 : mm_cwd (12, ⟨"RaftTownModel", "must", "(II)I"⟩, prog_14_method_95_code, 4, (some .int), 2, 1, [8115, 8113, 8114, 1013]) := rfl
theorem mm_cw_312 : mm_cwd (12, ⟨"RaftTownModel", "speaks", "(I)I"⟩, prog_14_method_96_code, 8, (some .int), 1, 1, [8119, 8117, 8118, 1013]) := rfl
theorem mm_cw_313 : mm_cwd (12, ⟨"RaftTownModel", "lash", "(II)I"⟩, prog_14_method_98_code, 7, (some .int), 2, 1, [8123, 8121, 8122, 1013]) := rfl
theorem mm_cw_314 : mm_cwd (12, ⟨"RaftTownModel", "ones", "(I)I"⟩, prog_14_method_35_code, 3, (some .int), 1, 0, [8126, 8125, 0, 1013]) := rfl
theorem mm_cw_315 : mm_cwd (12, ⟨"RaftTownModel", "holds", "(II)Z"⟩, prog_14_method_97_code, 3, (some .boolean), 2, 1, [8130, 8129, 103, 1013]) := rfl
theorem mm_cw_316 : mm_cwd (12, ⟨"RaftTownModel", "storm", "(IZ)I"⟩, prog_14_method_100_code, 8, (some .int), 2, 1, [8134, 8132, 8133, 1013]) := rfl
theorem mm_cw_317 : mm_cwd (12, ⟨"RaftTownModel", "lostBy", "(II)I"⟩, prog_14_method_99_code, 6, (some .int), 2, 1, [8138, 8137, 104, 1013]) := rfl
theorem mm_cw_318 : mm_cwd (12, ⟨"RaftTownModel", "proves", "(III)I"⟩, prog_14_method_101_code, 8, (some .int), 3, 1, [8142, 8140, 8141, 1013]) := rfl
theorem mm_cw_319 : mm_cwd (12, ⟨"RaftTownModel", "patch", "(II)I"⟩, prog_14_method_105_code, 7, (some .int), 2, 1, [8146, 8144, 8145, 1013]) := rfl
theorem mm_cws_7 : ∀ t ∈ mm_mths_7, mm_cwd t := List.forall_mem_cons.mpr ⟨mm_cw_280, List.forall_mem_cons.mpr ⟨mm_cw_281, List.forall_mem_cons.mpr ⟨mm_cw_282, List.forall_mem_cons.mpr ⟨mm_cw_283, List.forall_mem_cons.mpr ⟨mm_cw_284, List.forall_mem_cons.mpr ⟨mm_cw_285, List.forall_mem_cons.mpr ⟨mm_cw_286, List.forall_mem_cons.mpr ⟨mm_cw_287, List.forall_mem_cons.mpr ⟨mm_cw_288, List.forall_mem_cons.mpr ⟨mm_cw_289, List.forall_mem_cons.mpr ⟨mm_cw_290, List.forall_mem_cons.mpr ⟨mm_cw_291, List.forall_mem_cons.mpr ⟨mm_cw_292, List.forall_mem_cons.mpr ⟨mm_cw_293, List.forall_mem_cons.mpr ⟨mm_cw_294, List.forall_mem_cons.mpr ⟨mm_cw_295, List.forall_mem_cons.mpr ⟨mm_cw_296, List.forall_mem_cons.mpr ⟨mm_cw_297, List.forall_mem_cons.mpr ⟨mm_cw_298, List.forall_mem_cons.mpr ⟨mm_cw_299, List.forall_mem_cons.mpr ⟨mm_cw_300, List.forall_mem_cons.mpr ⟨mm_cw_301, List.forall_mem_cons.mpr ⟨mm_cw_302, List.forall_mem_cons.mpr ⟨mm_cw_303, List.forall_mem_cons.mpr ⟨mm_cw_304, List.forall_mem_cons.mpr ⟨mm_cw_305, List.forall_mem_cons.mpr ⟨mm_cw_306, List.forall_mem_cons.mpr ⟨mm_cw_307, List.forall_mem_cons.mpr ⟨mm_cw_308, List.forall_mem_cons.mpr ⟨mm_cw_309, List.forall_mem_cons.mpr ⟨mm_cw_310, List.forall_mem_cons.mpr ⟨mm_cw_311, List.forall_mem_cons.mpr ⟨mm_cw_312, List.forall_mem_cons.mpr ⟨mm_cw_313, List.forall_mem_cons.mpr ⟨mm_cw_314, List.forall_mem_cons.mpr ⟨mm_cw_315, List.forall_mem_cons.mpr ⟨mm_cw_316, List.forall_mem_cons.mpr ⟨mm_cw_317, List.forall_mem_cons.mpr ⟨mm_cw_318, List.forall_mem_cons.mpr ⟨mm_cw_319, fun _ h => absurd h List.not_mem_nil⟩⟩⟩⟩⟩⟩⟩⟩⟩⟩⟩⟩⟩⟩⟩⟩⟩⟩⟩⟩⟩⟩⟩⟩⟩⟩⟩⟩⟩⟩⟩⟩⟩⟩⟩⟩⟩⟩⟩⟩
set_option maxRecDepth 100000 in
theorem mm_mths_8_ok : mm_mths_8.all mm_mchk = true := by decide +kernel
theorem mm_cw_320 : mm_cwd (12, ⟨"RaftTownModel", "hasSail", "(I)Z"⟩, prog_14_method_102_code, 3, (some .boolean), 1, 1, [8150, 8149, 105, 1013]) := rfl
theorem mm_cw_321 : mm_cwd (12, ⟨"RaftTownModel", "areNext", "(II)Z"⟩, prog_14_method_103_code, 4, (some .boolean), 2, 0, [8153, 8152, 0, 1013]) := rfl
theorem mm_cw_322 : mm_cwd (12, ⟨"RaftTownModel", "copies", "()V"⟩, prog_14_method_104_code, 2, (none), 0, 1, [8157, 8156, 106, 1013]) := rfl
theorem mm_cw_323 : mm_cwd (12, ⟨"RaftTownModel", "tow", "(II)I"⟩, prog_14_method_106_code, 8, (some .int), 2, 1, [8161, 8159, 8160, 1013]) := rfl
theorem mm_cw_324 : mm_cwd (12, ⟨"RaftTownModel", "sheet", "(III)I"⟩, prog_14_method_108_code, 5, (some .int), 3, 1, [8165, 8163, 8164, 1013]) := rfl
theorem mm_cw_325 : mm_cwd (12, ⟨"RaftTownModel", "put", "(III)I"⟩, prog_14_method_109_code, 4, (some .int), 3, 1, [8169, 8167, 8168, 1013]) := rfl
theorem mm_cw_326 : mm_cwd (12, ⟨"RaftTownModel", "copy", "(IIIII)I"⟩, prog_14_method_110_code, 7, (some .int), 5, 1, [8173, 8171, 8172, 1013]) := rfl
theorem mm_cw_327 : mm_cwd (12, ⟨"RaftTownModel", "image", "()I"⟩, prog_14_method_111_code, 2, (some .int), 0, 1, [8177, 8175, 8176, 1013]) := rfl
theorem mm_cw_328 : mm_cwd (12, ⟨"RaftTownModel", "restore", "()I"⟩, prog_14_method_112_code, 2, (some .int), 0, 1, [8181, 8179, 8180, 1013]) := rfl
theorem mm_cw_329 : mm_cwd (12, ⟨"RaftTownModel", "count", "(I)I"⟩, prog_14_method_113_code, 4, (some .int), 1, 1, [8185, 8183, 8184, 1013]) := rfl
theorem mm_cws_8 : ∀ t ∈ mm_mths_8, mm_cwd t := List.forall_mem_cons.mpr ⟨mm_cw_320, List.forall_mem_cons.mpr ⟨mm_cw_321, List.forall_mem_cons.mpr ⟨mm_cw_322, List.forall_mem_cons.mpr ⟨mm_cw_323, List.forall_mem_cons.mpr ⟨mm_cw_324, List.forall_mem_cons.mpr ⟨mm_cw_325, List.forall_mem_cons.mpr ⟨mm_cw_326, List.forall_mem_cons.mpr ⟨mm_cw_327, List.forall_mem_cons.mpr ⟨mm_cw_328, List.forall_mem_cons.mpr ⟨mm_cw_329, fun _ h => absurd h List.not_mem_nil⟩⟩⟩⟩⟩⟩⟩⟩⟩⟩
theorem mm_cws : ∀ t ∈ mm_mths, mm_cwd t := by
  unfold mm_mths
  exact List.forall_mem_append.mpr ⟨mm_cws_0, List.forall_mem_append.mpr ⟨mm_cws_1, List.forall_mem_append.mpr ⟨mm_cws_2, List.forall_mem_append.mpr ⟨mm_cws_3, List.forall_mem_append.mpr ⟨mm_cws_4, List.forall_mem_append.mpr ⟨mm_cws_5, List.forall_mem_append.mpr ⟨mm_cws_6, List.forall_mem_append.mpr ⟨mm_cws_7, mm_cws_8⟩⟩⟩⟩⟩⟩⟩⟩
theorem mm_mths_ok : ∀ t ∈ mm_mths, mm_mchk t = true := by
  unfold mm_mths
  exact List.forall_mem_append.mpr ⟨List.all_eq_true.mp mm_mths_0_ok, List.forall_mem_append.mpr ⟨List.all_eq_true.mp mm_mths_1_ok, List.forall_mem_append.mpr ⟨List.all_eq_true.mp mm_mths_2_ok, List.forall_mem_append.mpr ⟨List.all_eq_true.mp mm_mths_3_ok, List.forall_mem_append.mpr ⟨List.all_eq_true.mp mm_mths_4_ok, List.forall_mem_append.mpr ⟨List.all_eq_true.mp mm_mths_5_ok, List.forall_mem_append.mpr ⟨List.all_eq_true.mp mm_mths_6_ok, List.forall_mem_append.mpr ⟨List.all_eq_true.mp mm_mths_7_ok, List.all_eq_true.mp mm_mths_8_ok⟩⟩⟩⟩⟩⟩⟩⟩
theorem mm_obj_i : Cond.instanceMethod Lib.objectInit ∈ mm_gw := mm_wg_in (pl := 1028) (by decide +kernel)
theorem mm_obj_c : Cond.code Lib.objectInit ⟨#[0xb1]⟩ 1 none ∈ mm_gw := mm_wg_in (pl := 1029) (by decide +kernel)
theorem mm_cpy_s : Cond.static arraycopyName ∈ mm_gw := mm_wg_in (pl := 5136) (by decide +kernel)
theorem mm_cpy_n : Cond.native arraycopyName ∈ mm_gw := mm_wg_in (pl := 5137) (by decide +kernel)
theorem mm_cpy_y : Cond.initialized "java/lang/System" ∈ mm_gw := mm_wg_in (pl := 1020) (by decide +kernel)
theorem mm_ac_int : Cond.arrayClass .int ∈ mm_gw := mm_wg_in (pl := 1052) (by decide +kernel)
theorem mm_ac_long : Cond.arrayClass .long ∈ mm_gw := mm_wg_in (pl := 1053) (by decide +kernel)
theorem mm_ac_byte : Cond.arrayClass .byte ∈ mm_gw := mm_wg_in (pl := 5138) (by decide +kernel)
theorem mm_ac_char : Cond.arrayClass .char ∈ mm_gw := mm_wg_in (pl := 6222) (by decide +kernel)
theorem mm_ac_boolean : Cond.arrayClass .boolean ∈ mm_gw := mm_wg_in (pl := 6223) (by decide +kernel)
theorem mm_max_s : Cond.static Lib.Math.max.name ∈ mm_gw := mm_wg_in (pl := 3028) (by decide +kernel)
theorem mm_max_c : Cond.code Lib.Math.max.name Lib.Math.max.code 2 (some .int) ∈ mm_gw := mm_wg_in (pl := 3029) (by decide +kernel)
theorem mm_min_s : Cond.static Lib.Math.min.name ∈ mm_gw := mm_wg_in (pl := 3035) (by decide +kernel)
theorem mm_min_c : Cond.code Lib.Math.min.name Lib.Math.min.code 2 (some .int) ∈ mm_gw := mm_wg_in (pl := 3036) (by decide +kernel)
theorem mm_math_y : Cond.initialized "java/lang/Math" ∈ mm_gw := mm_wg_in (pl := 1014) (by decide +kernel)
