section
-- ===== PART A: goes FIRST, ahead of the names: the tables' words, and 'selects' of the private methods out of them =====
/-- a private method of a class that the tables say can be made, by its rows of tables_1 -/
def lw_okq (q : MethodName × Nat) : Prop := (q.1.cls ≠ "java/lang/invoke/MethodHandle" ∧ q.1.cls ≠ "java/lang/invoke/VarHandle") ∧ Cond.instantiable q.1.cls q.2 ∈ tables_1 ∧ Cond.privateMethod q.1 ∈ tables_1 ∧ Cond.instanceMethod q.1 ∈ tables_1
theorem lw_p0 : lw_okq (⟨"RaftTown", "noted", "(I)I"⟩, 8) := ⟨⟨by decide +kernel, by decide +kernel⟩, List.mem_of_getElem? (i := 23) (by decide +kernel), List.mem_of_getElem? (i := 423) (by decide +kernel), List.mem_of_getElem? (i := 424) (by decide +kernel)⟩
theorem lw_p1 : lw_okq (⟨"RaftTown", "surveyed", "()LRaftTown$Net;"⟩, 8) := ⟨⟨by decide +kernel, by decide +kernel⟩, List.mem_of_getElem? (i := 23) (by decide +kernel), List.mem_of_getElem? (i := 475) (by decide +kernel), List.mem_of_getElem? (i := 476) (by decide +kernel)⟩
theorem lw_p2 : lw_okq (⟨"RaftTown$Net", "reach", "(II)I"⟩, 6) := ⟨⟨by decide +kernel, by decide +kernel⟩, List.mem_of_getElem? (i := 343) (by decide +kernel), List.mem_of_getElem? (i := 524) (by decide +kernel), List.mem_of_getElem? (i := 525) (by decide +kernel)⟩
theorem lw_p3 : lw_okq (⟨"RaftTown", "areParents", "(II)Z"⟩, 8) := ⟨⟨by decide +kernel, by decide +kernel⟩, List.mem_of_getElem? (i := 23) (by decide +kernel), List.mem_of_getElem? (i := 572) (by decide +kernel), List.mem_of_getElem? (i := 573) (by decide +kernel)⟩
theorem lw_p4 : lw_okq (⟨"RaftTown$Town", "areKin", "(II)Z"⟩, 12) := ⟨⟨by decide +kernel, by decide +kernel⟩, List.mem_of_getElem? (i := 31) (by decide +kernel), List.mem_of_getElem? (i := 607) (by decide +kernel), List.mem_of_getElem? (i := 608) (by decide +kernel)⟩
theorem lw_p5 : lw_okq (⟨"RaftTown$Log", "placeOf", "(I)I"⟩, 9) := ⟨⟨by decide +kernel, by decide +kernel⟩, List.mem_of_getElem? (i := 61) (by decide +kernel), List.mem_of_getElem? (i := 644) (by decide +kernel), List.mem_of_getElem? (i := 645) (by decide +kernel)⟩
theorem lw_p6 : lw_okq (⟨"RaftTown", "ropeRuling", "(III)I"⟩, 8) := ⟨⟨by decide +kernel, by decide +kernel⟩, List.mem_of_getElem? (i := 23) (by decide +kernel), List.mem_of_getElem? (i := 664) (by decide +kernel), List.mem_of_getElem? (i := 665) (by decide +kernel)⟩
theorem lw_p7 : lw_okq (⟨"RaftTown$Judge", "nameNothing", "()V"⟩, 3) := ⟨⟨by decide +kernel, by decide +kernel⟩, List.mem_of_getElem? (i := 371) (by decide +kernel), List.mem_of_getElem? (i := 673) (by decide +kernel), List.mem_of_getElem? (i := 674) (by decide +kernel)⟩
theorem lw_p8 : lw_okq (⟨"RaftTown$Net", "weigh", "(I)I"⟩, 6) := ⟨⟨by decide +kernel, by decide +kernel⟩, List.mem_of_getElem? (i := 343) (by decide +kernel), List.mem_of_getElem? (i := 685) (by decide +kernel), List.mem_of_getElem? (i := 686) (by decide +kernel)⟩
theorem lw_p9 : lw_okq (⟨"RaftTown$Judge", "namePart", "(LRaftTown$Town;I)V"⟩, 3) := ⟨⟨by decide +kernel, by decide +kernel⟩, List.mem_of_getElem? (i := 371) (by decide +kernel), List.mem_of_getElem? (i := 714) (by decide +kernel), List.mem_of_getElem? (i := 715) (by decide +kernel)⟩
theorem lw_p10 : lw_okq (⟨"RaftTown$Judge", "push", "(I)V"⟩, 3) := ⟨⟨by decide +kernel, by decide +kernel⟩, List.mem_of_getElem? (i := 371) (by decide +kernel), List.mem_of_getElem? (i := 757) (by decide +kernel), List.mem_of_getElem? (i := 758) (by decide +kernel)⟩
theorem lw_p11 : lw_okq (⟨"RaftTown$Judge", "pop", "()I"⟩, 3) := ⟨⟨by decide +kernel, by decide +kernel⟩, List.mem_of_getElem? (i := 371) (by decide +kernel), List.mem_of_getElem? (i := 761) (by decide +kernel), List.mem_of_getElem? (i := 762) (by decide +kernel)⟩
theorem lw_p12 : lw_okq (⟨"RaftTown$Town", "partUnder", "(ILRaftTown$Net;)I"⟩, 12) := ⟨⟨by decide +kernel, by decide +kernel⟩, List.mem_of_getElem? (i := 31) (by decide +kernel), List.mem_of_getElem? (i := 824) (by decide +kernel), List.mem_of_getElem? (i := 825) (by decide +kernel)⟩
theorem lw_p13 : lw_okq (⟨"RaftTown$Town", "catchRain", "(I)V"⟩, 12) := ⟨⟨by decide +kernel, by decide +kernel⟩, List.mem_of_getElem? (i := 31) (by decide +kernel), List.mem_of_getElem? (i := 836) (by decide +kernel), List.mem_of_getElem? (i := 837) (by decide +kernel)⟩
theorem lw_p14 : lw_okq (⟨"RaftTown$Town", "waterGardens", "()V"⟩, 12) := ⟨⟨by decide +kernel, by decide +kernel⟩, List.mem_of_getElem? (i := 31) (by decide +kernel), List.mem_of_getElem? (i := 844) (by decide +kernel), List.mem_of_getElem? (i := 845) (by decide +kernel)⟩
theorem lw_p15 : lw_okq (⟨"RaftTown$Town", "drinkAll", "(LRaftTown$Net;)V"⟩, 12) := ⟨⟨by decide +kernel, by decide +kernel⟩, List.mem_of_getElem? (i := 31) (by decide +kernel), List.mem_of_getElem? (i := 848) (by decide +kernel), List.mem_of_getElem? (i := 849) (by decide +kernel)⟩
def lw_privs_1 : List (MethodName × Nat) := [(⟨"RaftTown", "noted", "(I)I"⟩, 8), (⟨"RaftTown", "surveyed", "()LRaftTown$Net;"⟩, 8), (⟨"RaftTown$Net", "reach", "(II)I"⟩, 6), (⟨"RaftTown", "areParents", "(II)Z"⟩, 8), (⟨"RaftTown$Town", "areKin", "(II)Z"⟩, 12), (⟨"RaftTown$Log", "placeOf", "(I)I"⟩, 9), (⟨"RaftTown", "ropeRuling", "(III)I"⟩, 8), (⟨"RaftTown$Judge", "nameNothing", "()V"⟩, 3), (⟨"RaftTown$Net", "weigh", "(I)I"⟩, 6), (⟨"RaftTown$Judge", "namePart", "(LRaftTown$Town;I)V"⟩, 3), (⟨"RaftTown$Judge", "push", "(I)V"⟩, 3), (⟨"RaftTown$Judge", "pop", "()I"⟩, 3), (⟨"RaftTown$Town", "partUnder", "(ILRaftTown$Net;)I"⟩, 12), (⟨"RaftTown$Town", "catchRain", "(I)V"⟩, 12), (⟨"RaftTown$Town", "waterGardens", "()V"⟩, 12), (⟨"RaftTown$Town", "drinkAll", "(LRaftTown$Net;)V"⟩, 12)]
theorem lw_r1 : ∀ q ∈ lw_privs_1, lw_okq q := List.forall_mem_cons.mpr ⟨lw_p0, List.forall_mem_cons.mpr ⟨lw_p1, List.forall_mem_cons.mpr ⟨lw_p2, List.forall_mem_cons.mpr ⟨lw_p3, List.forall_mem_cons.mpr ⟨lw_p4, List.forall_mem_cons.mpr ⟨lw_p5, List.forall_mem_cons.mpr ⟨lw_p6, List.forall_mem_cons.mpr ⟨lw_p7, List.forall_mem_cons.mpr ⟨lw_p8, List.forall_mem_cons.mpr ⟨lw_p9, List.forall_mem_cons.mpr ⟨lw_p10, List.forall_mem_cons.mpr ⟨lw_p11, List.forall_mem_cons.mpr ⟨lw_p12, List.forall_mem_cons.mpr ⟨lw_p13, List.forall_mem_cons.mpr ⟨lw_p14, List.forall_mem_cons.mpr ⟨lw_p15, fun _ h => absurd h List.not_mem_nil⟩⟩⟩⟩⟩⟩⟩⟩⟩⟩⟩⟩⟩⟩⟩⟩
theorem lw_p16 : lw_okq (⟨"RaftTown$Town", "drink", "(II)V"⟩, 12) := ⟨⟨by decide +kernel, by decide +kernel⟩, List.mem_of_getElem? (i := 31) (by decide +kernel), List.mem_of_getElem? (i := 852) (by decide +kernel), List.mem_of_getElem? (i := 853) (by decide +kernel)⟩
theorem lw_p17 : lw_okq (⟨"RaftTown$Town", "fullestOf", "(I)LRaftTown$Raft;"⟩, 12) := ⟨⟨by decide +kernel, by decide +kernel⟩, List.mem_of_getElem? (i := 31) (by decide +kernel), List.mem_of_getElem? (i := 856) (by decide +kernel), List.mem_of_getElem? (i := 857) (by decide +kernel)⟩
theorem lw_p18 : lw_okq (⟨"RaftTown$Town", "lose", "(II)V"⟩, 12) := ⟨⟨by decide +kernel, by decide +kernel⟩, List.mem_of_getElem? (i := 31) (by decide +kernel), List.mem_of_getElem? (i := 861) (by decide +kernel), List.mem_of_getElem? (i := 862) (by decide +kernel)⟩
theorem lw_p19 : lw_okq (⟨"RaftTown$Town", "ageRopes", "(Z)V"⟩, 12) := ⟨⟨by decide +kernel, by decide +kernel⟩, List.mem_of_getElem? (i := 31) (by decide +kernel), List.mem_of_getElem? (i := 865) (by decide +kernel), List.mem_of_getElem? (i := 866) (by decide +kernel)⟩
theorem lw_p20 : lw_okq (⟨"RaftTown$Town", "rot", "(LRaftTown$Net;)V"⟩, 12) := ⟨⟨by decide +kernel, by decide +kernel⟩, List.mem_of_getElem? (i := 31) (by decide +kernel), List.mem_of_getElem? (i := 869) (by decide +kernel), List.mem_of_getElem? (i := 870) (by decide +kernel)⟩
theorem lw_p21 : lw_okq (⟨"RaftTown$Town", "sink", "(ILRaftTown$Net;)V"⟩, 12) := ⟨⟨by decide +kernel, by decide +kernel⟩, List.mem_of_getElem? (i := 31) (by decide +kernel), List.mem_of_getElem? (i := 873) (by decide +kernel), List.mem_of_getElem? (i := 874) (by decide +kernel)⟩
theorem lw_p22 : lw_okq (⟨"RaftTown$Town", "drift", "()V"⟩, 12) := ⟨⟨by decide +kernel, by decide +kernel⟩, List.mem_of_getElem? (i := 31) (by decide +kernel), List.mem_of_getElem? (i := 881) (by decide +kernel), List.mem_of_getElem? (i := 882) (by decide +kernel)⟩
theorem lw_p23 : lw_okq (⟨"RaftTown$Sea", "ledBy", "(II)I"⟩, 3) := ⟨⟨by decide +kernel, by decide +kernel⟩, List.mem_of_getElem? (i := 37) (by decide +kernel), List.mem_of_getElem? (i := 889) (by decide +kernel), List.mem_of_getElem? (i := 890) (by decide +kernel)⟩
theorem lw_p24 : lw_okq (⟨"RaftTown$Tape", "next", "()V"⟩, 7) := ⟨⟨by decide +kernel, by decide +kernel⟩, List.mem_of_getElem? (i := 312) (by decide +kernel), List.mem_of_getElem? (i := 949) (by decide +kernel), List.mem_of_getElem? (i := 950) (by decide +kernel)⟩
theorem lw_p25 : lw_okq (⟨"RaftTown$Tape", "byteAt", "(I)I"⟩, 7) := ⟨⟨by decide +kernel, by decide +kernel⟩, List.mem_of_getElem? (i := 312) (by decide +kernel), List.mem_of_getElem? (i := 953) (by decide +kernel), List.mem_of_getElem? (i := 954) (by decide +kernel)⟩
theorem lw_p26 : lw_okq (⟨"RaftTown$Tape", "nextWord", "()V"⟩, 7) := ⟨⟨by decide +kernel, by decide +kernel⟩, List.mem_of_getElem? (i := 312) (by decide +kernel), List.mem_of_getElem? (i := 961) (by decide +kernel), List.mem_of_getElem? (i := 962) (by decide +kernel)⟩
theorem lw_p27 : lw_okq (⟨"RaftTown$Tape", "standsHere", "(Ljava/lang/String;)Z"⟩, 7) := ⟨⟨by decide +kernel, by decide +kernel⟩, List.mem_of_getElem? (i := 312) (by decide +kernel), List.mem_of_getElem? (i := 984) (by decide +kernel), List.mem_of_getElem? (i := 985) (by decide +kernel)⟩
theorem lw_p28 : lw_okq (⟨"RaftTown$Tape", "nextNumber", "()V"⟩, 7) := ⟨⟨by decide +kernel, by decide +kernel⟩, List.mem_of_getElem? (i := 312) (by decide +kernel), List.mem_of_getElem? (i := 1039) (by decide +kernel), List.mem_of_getElem? (i := 1040) (by decide +kernel)⟩
theorem lw_p29 : lw_okq (⟨"RaftTown$Tape", "readClause", "(II)Z"⟩, 7) := ⟨⟨by decide +kernel, by decide +kernel⟩, List.mem_of_getElem? (i := 312) (by decide +kernel), List.mem_of_getElem? (i := 1046) (by decide +kernel), List.mem_of_getElem? (i := 1047) (by decide +kernel)⟩
theorem lw_p30 : lw_okq (⟨"RaftTown$Tape", "pass", "(I)Z"⟩, 7) := ⟨⟨by decide +kernel, by decide +kernel⟩, List.mem_of_getElem? (i := 312) (by decide +kernel), List.mem_of_getElem? (i := 1050) (by decide +kernel), List.mem_of_getElem? (i := 1051) (by decide +kernel)⟩
theorem lw_p31 : lw_okq (⟨"RaftTown$Tape", "readOr", "(I)Z"⟩, 7) := ⟨⟨by decide +kernel, by decide +kernel⟩, List.mem_of_getElem? (i := 312) (by decide +kernel), List.mem_of_getElem? (i := 1054) (by decide +kernel), List.mem_of_getElem? (i := 1055) (by decide +kernel)⟩
def lw_privs_2 : List (MethodName × Nat) := [(⟨"RaftTown$Town", "drink", "(II)V"⟩, 12), (⟨"RaftTown$Town", "fullestOf", "(I)LRaftTown$Raft;"⟩, 12), (⟨"RaftTown$Town", "lose", "(II)V"⟩, 12), (⟨"RaftTown$Town", "ageRopes", "(Z)V"⟩, 12), (⟨"RaftTown$Town", "rot", "(LRaftTown$Net;)V"⟩, 12), (⟨"RaftTown$Town", "sink", "(ILRaftTown$Net;)V"⟩, 12), (⟨"RaftTown$Town", "drift", "()V"⟩, 12), (⟨"RaftTown$Sea", "ledBy", "(II)I"⟩, 3), (⟨"RaftTown$Tape", "next", "()V"⟩, 7), (⟨"RaftTown$Tape", "byteAt", "(I)I"⟩, 7), (⟨"RaftTown$Tape", "nextWord", "()V"⟩, 7), (⟨"RaftTown$Tape", "standsHere", "(Ljava/lang/String;)Z"⟩, 7), (⟨"RaftTown$Tape", "nextNumber", "()V"⟩, 7), (⟨"RaftTown$Tape", "readClause", "(II)Z"⟩, 7), (⟨"RaftTown$Tape", "pass", "(I)Z"⟩, 7), (⟨"RaftTown$Tape", "readOr", "(I)Z"⟩, 7)]
theorem lw_r2 : ∀ q ∈ lw_privs_2, lw_okq q := List.forall_mem_cons.mpr ⟨lw_p16, List.forall_mem_cons.mpr ⟨lw_p17, List.forall_mem_cons.mpr ⟨lw_p18, List.forall_mem_cons.mpr ⟨lw_p19, List.forall_mem_cons.mpr ⟨lw_p20, List.forall_mem_cons.mpr ⟨lw_p21, List.forall_mem_cons.mpr ⟨lw_p22, List.forall_mem_cons.mpr ⟨lw_p23, List.forall_mem_cons.mpr ⟨lw_p24, List.forall_mem_cons.mpr ⟨lw_p25, List.forall_mem_cons.mpr ⟨lw_p26, List.forall_mem_cons.mpr ⟨lw_p27, List.forall_mem_cons.mpr ⟨lw_p28, List.forall_mem_cons.mpr ⟨lw_p29, List.forall_mem_cons.mpr ⟨lw_p30, List.forall_mem_cons.mpr ⟨lw_p31, fun _ h => absurd h List.not_mem_nil⟩⟩⟩⟩⟩⟩⟩⟩⟩⟩⟩⟩⟩⟩⟩⟩
theorem lw_p32 : lw_okq (⟨"RaftTown$Tape", "readAnd", "(I)Z"⟩, 7) := ⟨⟨by decide +kernel, by decide +kernel⟩, List.mem_of_getElem? (i := 312) (by decide +kernel), List.mem_of_getElem? (i := 1058) (by decide +kernel), List.mem_of_getElem? (i := 1059) (by decide +kernel)⟩
theorem lw_p33 : lw_okq (⟨"RaftTown$Tape", "readNot", "(I)Z"⟩, 7) := ⟨⟨by decide +kernel, by decide +kernel⟩, List.mem_of_getElem? (i := 312) (by decide +kernel), List.mem_of_getElem? (i := 1062) (by decide +kernel), List.mem_of_getElem? (i := 1063) (by decide +kernel)⟩
theorem lw_p34 : lw_okq (⟨"RaftTown$Tape", "readComparison", "(I)Z"⟩, 7) := ⟨⟨by decide +kernel, by decide +kernel⟩, List.mem_of_getElem? (i := 312) (by decide +kernel), List.mem_of_getElem? (i := 1066) (by decide +kernel), List.mem_of_getElem? (i := 1067) (by decide +kernel)⟩
theorem lw_p35 : lw_okq (⟨"RaftTown$Tape", "readSum", "(I)Z"⟩, 7) := ⟨⟨by decide +kernel, by decide +kernel⟩, List.mem_of_getElem? (i := 312) (by decide +kernel), List.mem_of_getElem? (i := 1070) (by decide +kernel), List.mem_of_getElem? (i := 1071) (by decide +kernel)⟩
theorem lw_p36 : lw_okq (⟨"RaftTown$Tape", "readOne", "(I)Z"⟩, 7) := ⟨⟨by decide +kernel, by decide +kernel⟩, List.mem_of_getElem? (i := 312) (by decide +kernel), List.mem_of_getElem? (i := 1074) (by decide +kernel), List.mem_of_getElem? (i := 1075) (by decide +kernel)⟩
theorem lw_p37 : lw_okq (⟨"RaftTown", "lawAt", "(I)I"⟩, 8) := ⟨⟨by decide +kernel, by decide +kernel⟩, List.mem_of_getElem? (i := 23) (by decide +kernel), List.mem_of_getElem? (i := 1113) (by decide +kernel), List.mem_of_getElem? (i := 1114) (by decide +kernel)⟩
theorem lw_p38 : lw_okq (⟨"RaftTown$Net", "ropesOf", "(I)I"⟩, 6) := ⟨⟨by decide +kernel, by decide +kernel⟩, List.mem_of_getElem? (i := 343) (by decide +kernel), List.mem_of_getElem? (i := 1166) (by decide +kernel), List.mem_of_getElem? (i := 1167) (by decide +kernel)⟩
theorem lw_p39 : lw_okq (⟨"RaftTown$Net", "doomed", "(I)I"⟩, 6) := ⟨⟨by decide +kernel, by decide +kernel⟩, List.mem_of_getElem? (i := 343) (by decide +kernel), List.mem_of_getElem? (i := 1170) (by decide +kernel), List.mem_of_getElem? (i := 1171) (by decide +kernel)⟩
theorem lw_p40 : lw_okq (⟨"RaftTown$Net", "doomedOf", "(II)I"⟩, 6) := ⟨⟨by decide +kernel, by decide +kernel⟩, List.mem_of_getElem? (i := 343) (by decide +kernel), List.mem_of_getElem? (i := 1174) (by decide +kernel), List.mem_of_getElem? (i := 1175) (by decide +kernel)⟩
theorem lw_p41 : lw_okq (⟨"RaftTown$Net", "isBridge", "(II)Z"⟩, 6) := ⟨⟨by decide +kernel, by decide +kernel⟩, List.mem_of_getElem? (i := 343) (by decide +kernel), List.mem_of_getElem? (i := 1178) (by decide +kernel), List.mem_of_getElem? (i := 1179) (by decide +kernel)⟩
theorem lw_p42 : lw_okq (⟨"RaftTown$Net", "bridgesOf", "(I)I"⟩, 6) := ⟨⟨by decide +kernel, by decide +kernel⟩, List.mem_of_getElem? (i := 343) (by decide +kernel), List.mem_of_getElem? (i := 1182) (by decide +kernel), List.mem_of_getElem? (i := 1183) (by decide +kernel)⟩
theorem lw_p43 : lw_okq (⟨"RaftTown$Net", "holds", "(II)Z"⟩, 6) := ⟨⟨by decide +kernel, by decide +kernel⟩, List.mem_of_getElem? (i := 343) (by decide +kernel), List.mem_of_getElem? (i := 1187) (by decide +kernel), List.mem_of_getElem? (i := 1188) (by decide +kernel)⟩
theorem lw_p44 : lw_okq (⟨"RaftTown$Net", "mostKept", "(II)I"⟩, 6) := ⟨⟨by decide +kernel, by decide +kernel⟩, List.mem_of_getElem? (i := 343) (by decide +kernel), List.mem_of_getElem? (i := 1199) (by decide +kernel), List.mem_of_getElem? (i := 1200) (by decide +kernel)⟩
theorem lw_p45 : lw_okq (⟨"RaftTown", "hasSail", "(I)Z"⟩, 8) := ⟨⟨by decide +kernel, by decide +kernel⟩, List.mem_of_getElem? (i := 23) (by decide +kernel), List.mem_of_getElem? (i := 1223) (by decide +kernel), List.mem_of_getElem? (i := 1224) (by decide +kernel)⟩
theorem lw_p46 : lw_okq (⟨"RaftTown$Sea", "aDayOn", "(J)J"⟩, 3) := ⟨⟨by decide +kernel, by decide +kernel⟩, List.mem_of_getElem? (i := 37) (by decide +kernel), List.mem_of_getElem? (i := 1236) (by decide +kernel), List.mem_of_getElem? (i := 1237) (by decide +kernel)⟩
theorem lw_p47 : lw_okq (⟨"RaftTownModel", "finds", "(I)I"⟩, 26) := ⟨⟨by decide +kernel, by decide +kernel⟩, List.mem_of_getElem? (i := 1338) (by decide +kernel), List.mem_of_getElem? (i := 1433) (by decide +kernel), List.mem_of_getElem? (i := 1434) (by decide +kernel)⟩
def lw_privs_3 : List (MethodName × Nat) := [(⟨"RaftTown$Tape", "readAnd", "(I)Z"⟩, 7), (⟨"RaftTown$Tape", "readNot", "(I)Z"⟩, 7), (⟨"RaftTown$Tape", "readComparison", "(I)Z"⟩, 7), (⟨"RaftTown$Tape", "readSum", "(I)Z"⟩, 7), (⟨"RaftTown$Tape", "readOne", "(I)Z"⟩, 7), (⟨"RaftTown", "lawAt", "(I)I"⟩, 8), (⟨"RaftTown$Net", "ropesOf", "(I)I"⟩, 6), (⟨"RaftTown$Net", "doomed", "(I)I"⟩, 6), (⟨"RaftTown$Net", "doomedOf", "(II)I"⟩, 6), (⟨"RaftTown$Net", "isBridge", "(II)Z"⟩, 6), (⟨"RaftTown$Net", "bridgesOf", "(I)I"⟩, 6), (⟨"RaftTown$Net", "holds", "(II)Z"⟩, 6), (⟨"RaftTown$Net", "mostKept", "(II)I"⟩, 6), (⟨"RaftTown", "hasSail", "(I)Z"⟩, 8), (⟨"RaftTown$Sea", "aDayOn", "(J)J"⟩, 3), (⟨"RaftTownModel", "finds", "(I)I"⟩, 26)]
theorem lw_r3 : ∀ q ∈ lw_privs_3, lw_okq q := List.forall_mem_cons.mpr ⟨lw_p32, List.forall_mem_cons.mpr ⟨lw_p33, List.forall_mem_cons.mpr ⟨lw_p34, List.forall_mem_cons.mpr ⟨lw_p35, List.forall_mem_cons.mpr ⟨lw_p36, List.forall_mem_cons.mpr ⟨lw_p37, List.forall_mem_cons.mpr ⟨lw_p38, List.forall_mem_cons.mpr ⟨lw_p39, List.forall_mem_cons.mpr ⟨lw_p40, List.forall_mem_cons.mpr ⟨lw_p41, List.forall_mem_cons.mpr ⟨lw_p42, List.forall_mem_cons.mpr ⟨lw_p43, List.forall_mem_cons.mpr ⟨lw_p44, List.forall_mem_cons.mpr ⟨lw_p45, List.forall_mem_cons.mpr ⟨lw_p46, List.forall_mem_cons.mpr ⟨lw_p47, fun _ h => absurd h List.not_mem_nil⟩⟩⟩⟩⟩⟩⟩⟩⟩⟩⟩⟩⟩⟩⟩⟩
theorem lw_p48 : lw_okq (⟨"RaftTownModel", "makes", "(III)V"⟩, 26) := ⟨⟨by decide +kernel, by decide +kernel⟩, List.mem_of_getElem? (i := 1338) (by decide +kernel), List.mem_of_getElem? (i := 1442) (by decide +kernel), List.mem_of_getElem? (i := 1443) (by decide +kernel)⟩
theorem lw_p49 : lw_okq (⟨"RaftTownModel", "isFloat", "(I)Z"⟩, 26) := ⟨⟨by decide +kernel, by decide +kernel⟩, List.mem_of_getElem? (i := 1338) (by decide +kernel), List.mem_of_getElem? (i := 1450) (by decide +kernel), List.mem_of_getElem? (i := 1451) (by decide +kernel)⟩
theorem lw_p50 : lw_okq (⟨"RaftTownModel", "own", "(II)I"⟩, 26) := ⟨⟨by decide +kernel, by decide +kernel⟩, List.mem_of_getElem? (i := 1338) (by decide +kernel), List.mem_of_getElem? (i := 1454) (by decide +kernel), List.mem_of_getElem? (i := 1455) (by decide +kernel)⟩
theorem lw_p51 : lw_okq (⟨"RaftTownModel", "weightOf", "(I)I"⟩, 26) := ⟨⟨by decide +kernel, by decide +kernel⟩, List.mem_of_getElem? (i := 1338) (by decide +kernel), List.mem_of_getElem? (i := 1463) (by decide +kernel), List.mem_of_getElem? (i := 1464) (by decide +kernel)⟩
theorem lw_p52 : lw_okq (⟨"RaftTownModel", "isOn", "(II)Z"⟩, 26) := ⟨⟨by decide +kernel, by decide +kernel⟩, List.mem_of_getElem? (i := 1338) (by decide +kernel), List.mem_of_getElem? (i := 1467) (by decide +kernel), List.mem_of_getElem? (i := 1468) (by decide +kernel)⟩
theorem lw_p53 : lw_okq (⟨"RaftTownModel", "isLost", "(I)Z"⟩, 26) := ⟨⟨by decide +kernel, by decide +kernel⟩, List.mem_of_getElem? (i := 1338) (by decide +kernel), List.mem_of_getElem? (i := 1471) (by decide +kernel), List.mem_of_getElem? (i := 1472) (by decide +kernel)⟩
theorem lw_p54 : lw_okq (⟨"RaftTownModel", "ofPerson", "(II)I"⟩, 26) := ⟨⟨by decide +kernel, by decide +kernel⟩, List.mem_of_getElem? (i := 1338) (by decide +kernel), List.mem_of_getElem? (i := 1475) (by decide +kernel), List.mem_of_getElem? (i := 1476) (by decide +kernel)⟩
theorem lw_p55 : lw_okq (⟨"RaftTownModel", "areaOf", "(I)I"⟩, 26) := ⟨⟨by decide +kernel, by decide +kernel⟩, List.mem_of_getElem? (i := 1338) (by decide +kernel), List.mem_of_getElem? (i := 1479) (by decide +kernel), List.mem_of_getElem? (i := 1480) (by decide +kernel)⟩
theorem lw_p56 : lw_okq (⟨"RaftTownModel", "allRopes", "()I"⟩, 26) := ⟨⟨by decide +kernel, by decide +kernel⟩, List.mem_of_getElem? (i := 1338) (by decide +kernel), List.mem_of_getElem? (i := 1483) (by decide +kernel), List.mem_of_getElem? (i := 1484) (by decide +kernel)⟩
theorem lw_p57 : lw_okq (⟨"RaftTownModel", "isLaid", "(I)Z"⟩, 26) := ⟨⟨by decide +kernel, by decide +kernel⟩, List.mem_of_getElem? (i := 1338) (by decide +kernel), List.mem_of_getElem? (i := 1487) (by decide +kernel), List.mem_of_getElem? (i := 1488) (by decide +kernel)⟩
theorem lw_p58 : lw_okq (⟨"RaftTownModel", "ofRope", "(II)I"⟩, 26) := ⟨⟨by decide +kernel, by decide +kernel⟩, List.mem_of_getElem? (i := 1338) (by decide +kernel), List.mem_of_getElem? (i := 1491) (by decide +kernel), List.mem_of_getElem? (i := 1492) (by decide +kernel)⟩
theorem lw_p59 : lw_okq (⟨"RaftTownModel", "partOf", "(II)I"⟩, 26) := ⟨⟨by decide +kernel, by decide +kernel⟩, List.mem_of_getElem? (i := 1338) (by decide +kernel), List.mem_of_getElem? (i := 1495) (by decide +kernel), List.mem_of_getElem? (i := 1496) (by decide +kernel)⟩
theorem lw_p60 : lw_okq (⟨"RaftTownModel", "isSunk", "(I)Z"⟩, 26) := ⟨⟨by decide +kernel, by decide +kernel⟩, List.mem_of_getElem? (i := 1338) (by decide +kernel), List.mem_of_getElem? (i := 1506) (by decide +kernel), List.mem_of_getElem? (i := 1507) (by decide +kernel)⟩
theorem lw_p61 : lw_okq (⟨"RaftTownModel", "roomOf", "(I)I"⟩, 26) := ⟨⟨by decide +kernel, by decide +kernel⟩, List.mem_of_getElem? (i := 1338) (by decide +kernel), List.mem_of_getElem? (i := 1511) (by decide +kernel), List.mem_of_getElem? (i := 1512) (by decide +kernel)⟩
theorem lw_p62 : lw_okq (⟨"RaftTownModel", "isPerson", "(I)Z"⟩, 26) := ⟨⟨by decide +kernel, by decide +kernel⟩, List.mem_of_getElem? (i := 1338) (by decide +kernel), List.mem_of_getElem? (i := 1530) (by decide +kernel), List.mem_of_getElem? (i := 1531) (by decide +kernel)⟩
theorem lw_p63 : lw_okq (⟨"RaftTownModel", "areKin", "(II)Z"⟩, 26) := ⟨⟨by decide +kernel, by decide +kernel⟩, List.mem_of_getElem? (i := 1338) (by decide +kernel), List.mem_of_getElem? (i := 1543) (by decide +kernel), List.mem_of_getElem? (i := 1544) (by decide +kernel)⟩
def lw_privs_4 : List (MethodName × Nat) := [(⟨"RaftTownModel", "makes", "(III)V"⟩, 26), (⟨"RaftTownModel", "isFloat", "(I)Z"⟩, 26), (⟨"RaftTownModel", "own", "(II)I"⟩, 26), (⟨"RaftTownModel", "weightOf", "(I)I"⟩, 26), (⟨"RaftTownModel", "isOn", "(II)Z"⟩, 26), (⟨"RaftTownModel", "isLost", "(I)Z"⟩, 26), (⟨"RaftTownModel", "ofPerson", "(II)I"⟩, 26), (⟨"RaftTownModel", "areaOf", "(I)I"⟩, 26), (⟨"RaftTownModel", "allRopes", "()I"⟩, 26), (⟨"RaftTownModel", "isLaid", "(I)Z"⟩, 26), (⟨"RaftTownModel", "ofRope", "(II)I"⟩, 26), (⟨"RaftTownModel", "partOf", "(II)I"⟩, 26), (⟨"RaftTownModel", "isSunk", "(I)Z"⟩, 26), (⟨"RaftTownModel", "roomOf", "(I)I"⟩, 26), (⟨"RaftTownModel", "isPerson", "(I)Z"⟩, 26), (⟨"RaftTownModel", "areKin", "(II)Z"⟩, 26)]
theorem lw_r4 : ∀ q ∈ lw_privs_4, lw_okq q := List.forall_mem_cons.mpr ⟨lw_p48, List.forall_mem_cons.mpr ⟨lw_p49, List.forall_mem_cons.mpr ⟨lw_p50, List.forall_mem_cons.mpr ⟨lw_p51, List.forall_mem_cons.mpr ⟨lw_p52, List.forall_mem_cons.mpr ⟨lw_p53, List.forall_mem_cons.mpr ⟨lw_p54, List.forall_mem_cons.mpr ⟨lw_p55, List.forall_mem_cons.mpr ⟨lw_p56, List.forall_mem_cons.mpr ⟨lw_p57, List.forall_mem_cons.mpr ⟨lw_p58, List.forall_mem_cons.mpr ⟨lw_p59, List.forall_mem_cons.mpr ⟨lw_p60, List.forall_mem_cons.mpr ⟨lw_p61, List.forall_mem_cons.mpr ⟨lw_p62, List.forall_mem_cons.mpr ⟨lw_p63, fun _ h => absurd h List.not_mem_nil⟩⟩⟩⟩⟩⟩⟩⟩⟩⟩⟩⟩⟩⟩⟩⟩
theorem lw_p64 : lw_okq (⟨"RaftTownModel", "isParent", "(II)Z"⟩, 26) := ⟨⟨by decide +kernel, by decide +kernel⟩, List.mem_of_getElem? (i := 1338) (by decide +kernel), List.mem_of_getElem? (i := 1547) (by decide +kernel), List.mem_of_getElem? (i := 1548) (by decide +kernel)⟩
theorem lw_p65 : lw_okq (⟨"RaftTownModel", "partMany", "()I"⟩, 26) := ⟨⟨by decide +kernel, by decide +kernel⟩, List.mem_of_getElem? (i := 1338) (by decide +kernel), List.mem_of_getElem? (i := 1555) (by decide +kernel), List.mem_of_getElem? (i := 1556) (by decide +kernel)⟩
theorem lw_p66 : lw_okq (⟨"RaftTownModel", "hasRoom", "(II)Z"⟩, 26) := ⟨⟨by decide +kernel, by decide +kernel⟩, List.mem_of_getElem? (i := 1338) (by decide +kernel), List.mem_of_getElem? (i := 1567) (by decide +kernel), List.mem_of_getElem? (i := 1568) (by decide +kernel)⟩
theorem lw_p67 : lw_okq (⟨"RaftTownModel", "tellsOn", "(I)V"⟩, 26) := ⟨⟨by decide +kernel, by decide +kernel⟩, List.mem_of_getElem? (i := 1338) (by decide +kernel), List.mem_of_getElem? (i := 1571) (by decide +kernel), List.mem_of_getElem? (i := 1572) (by decide +kernel)⟩
theorem lw_p68 : lw_okq (⟨"RaftTownModel", "happens", "(III)V"⟩, 26) := ⟨⟨by decide +kernel, by decide +kernel⟩, List.mem_of_getElem? (i := 1338) (by decide +kernel), List.mem_of_getElem? (i := 1575) (by decide +kernel), List.mem_of_getElem? (i := 1576) (by decide +kernel)⟩
theorem lw_p69 : lw_okq (⟨"RaftTownModel", "isRope", "(I)Z"⟩, 26) := ⟨⟨by decide +kernel, by decide +kernel⟩, List.mem_of_getElem? (i := 1338) (by decide +kernel), List.mem_of_getElem? (i := 1583) (by decide +kernel), List.mem_of_getElem? (i := 1584) (by decide +kernel)⟩
theorem lw_p70 : lw_okq (⟨"RaftTownModel", "strengthOf", "(I)I"⟩, 26) := ⟨⟨by decide +kernel, by decide +kernel⟩, List.mem_of_getElem? (i := 1338) (by decide +kernel), List.mem_of_getElem? (i := 1587) (by decide +kernel), List.mem_of_getElem? (i := 1588) (by decide +kernel)⟩
theorem lw_p71 : lw_okq (⟨"RaftTownModel", "weighs", "()V"⟩, 26) := ⟨⟨by decide +kernel, by decide +kernel⟩, List.mem_of_getElem? (i := 1338) (by decide +kernel), List.mem_of_getElem? (i := 1591) (by decide +kernel), List.mem_of_getElem? (i := 1592) (by decide +kernel)⟩
theorem lw_p72 : lw_okq (⟨"RaftTownModel", "hangOf", "(II)I"⟩, 26) := ⟨⟨by decide +kernel, by decide +kernel⟩, List.mem_of_getElem? (i := 1338) (by decide +kernel), List.mem_of_getElem? (i := 1595) (by decide +kernel), List.mem_of_getElem? (i := 1596) (by decide +kernel)⟩
theorem lw_p73 : lw_okq (⟨"RaftTownModel", "weightOfAll", "(I)I"⟩, 26) := ⟨⟨by decide +kernel, by decide +kernel⟩, List.mem_of_getElem? (i := 1338) (by decide +kernel), List.mem_of_getElem? (i := 1599) (by decide +kernel), List.mem_of_getElem? (i := 1600) (by decide +kernel)⟩
theorem lw_p74 : lw_okq (⟨"RaftTownModel", "loadOf", "(III)I"⟩, 26) := ⟨⟨by decide +kernel, by decide +kernel⟩, List.mem_of_getElem? (i := 1338) (by decide +kernel), List.mem_of_getElem? (i := 1610) (by decide +kernel), List.mem_of_getElem? (i := 1611) (by decide +kernel)⟩
theorem lw_p75 : lw_okq (⟨"RaftTownModel", "partsFirst", "(II)I"⟩, 26) := ⟨⟨by decide +kernel, by decide +kernel⟩, List.mem_of_getElem? (i := 1338) (by decide +kernel), List.mem_of_getElem? (i := 1618) (by decide +kernel), List.mem_of_getElem? (i := 1619) (by decide +kernel)⟩
theorem lw_p76 : lw_okq (⟨"RaftTownModel", "passes", "(II)I"⟩, 26) := ⟨⟨by decide +kernel, by decide +kernel⟩, List.mem_of_getElem? (i := 1338) (by decide +kernel), List.mem_of_getElem? (i := 1634) (by decide +kernel), List.mem_of_getElem? (i := 1635) (by decide +kernel)⟩
theorem lw_p77 : lw_okq (⟨"RaftTownModel", "partsAll", "(I)I"⟩, 26) := ⟨⟨by decide +kernel, by decide +kernel⟩, List.mem_of_getElem? (i := 1338) (by decide +kernel), List.mem_of_getElem? (i := 1638) (by decide +kernel), List.mem_of_getElem? (i := 1639) (by decide +kernel)⟩
theorem lw_p78 : lw_okq (⟨"RaftTownModel", "rains", "(I)V"⟩, 26) := ⟨⟨by decide +kernel, by decide +kernel⟩, List.mem_of_getElem? (i := 1338) (by decide +kernel), List.mem_of_getElem? (i := 1642) (by decide +kernel), List.mem_of_getElem? (i := 1643) (by decide +kernel)⟩
theorem lw_p79 : lw_okq (⟨"RaftTownModel", "drinks", "(I)Z"⟩, 26) := ⟨⟨by decide +kernel, by decide +kernel⟩, List.mem_of_getElem? (i := 1338) (by decide +kernel), List.mem_of_getElem? (i := 1646) (by decide +kernel), List.mem_of_getElem? (i := 1647) (by decide +kernel)⟩
def lw_privs_5 : List (MethodName × Nat) := [(⟨"RaftTownModel", "isParent", "(II)Z"⟩, 26), (⟨"RaftTownModel", "partMany", "()I"⟩, 26), (⟨"RaftTownModel", "hasRoom", "(II)Z"⟩, 26), (⟨"RaftTownModel", "tellsOn", "(I)V"⟩, 26), (⟨"RaftTownModel", "happens", "(III)V"⟩, 26), (⟨"RaftTownModel", "isRope", "(I)Z"⟩, 26), (⟨"RaftTownModel", "strengthOf", "(I)I"⟩, 26), (⟨"RaftTownModel", "weighs", "()V"⟩, 26), (⟨"RaftTownModel", "hangOf", "(II)I"⟩, 26), (⟨"RaftTownModel", "weightOfAll", "(I)I"⟩, 26), (⟨"RaftTownModel", "loadOf", "(III)I"⟩, 26), (⟨"RaftTownModel", "partsFirst", "(II)I"⟩, 26), (⟨"RaftTownModel", "passes", "(II)I"⟩, 26), (⟨"RaftTownModel", "partsAll", "(I)I"⟩, 26), (⟨"RaftTownModel", "rains", "(I)V"⟩, 26), (⟨"RaftTownModel", "drinks", "(I)Z"⟩, 26)]
theorem lw_r5 : ∀ q ∈ lw_privs_5, lw_okq q := List.forall_mem_cons.mpr ⟨lw_p64, List.forall_mem_cons.mpr ⟨lw_p65, List.forall_mem_cons.mpr ⟨lw_p66, List.forall_mem_cons.mpr ⟨lw_p67, List.forall_mem_cons.mpr ⟨lw_p68, List.forall_mem_cons.mpr ⟨lw_p69, List.forall_mem_cons.mpr ⟨lw_p70, List.forall_mem_cons.mpr ⟨lw_p71, List.forall_mem_cons.mpr ⟨lw_p72, List.forall_mem_cons.mpr ⟨lw_p73, List.forall_mem_cons.mpr ⟨lw_p74, List.forall_mem_cons.mpr ⟨lw_p75, List.forall_mem_cons.mpr ⟨lw_p76, List.forall_mem_cons.mpr ⟨lw_p77, List.forall_mem_cons.mpr ⟨lw_p78, List.forall_mem_cons.mpr ⟨lw_p79, fun _ h => absurd h List.not_mem_nil⟩⟩⟩⟩⟩⟩⟩⟩⟩⟩⟩⟩⟩⟩⟩⟩
theorem lw_p80 : lw_okq (⟨"RaftTownModel", "allDrink", "()V"⟩, 26) := ⟨⟨by decide +kernel, by decide +kernel⟩, List.mem_of_getElem? (i := 1338) (by decide +kernel), List.mem_of_getElem? (i := 1650) (by decide +kernel), List.mem_of_getElem? (i := 1651) (by decide +kernel)⟩
theorem lw_p81 : lw_okq (⟨"RaftTownModel", "loses", "(II)V"⟩, 26) := ⟨⟨by decide +kernel, by decide +kernel⟩, List.mem_of_getElem? (i := 1338) (by decide +kernel), List.mem_of_getElem? (i := 1654) (by decide +kernel), List.mem_of_getElem? (i := 1655) (by decide +kernel)⟩
theorem lw_p82 : lw_okq (⟨"RaftTownModel", "ropesAge", "(I)V"⟩, 26) := ⟨⟨by decide +kernel, by decide +kernel⟩, List.mem_of_getElem? (i := 1338) (by decide +kernel), List.mem_of_getElem? (i := 1658) (by decide +kernel), List.mem_of_getElem? (i := 1659) (by decide +kernel)⟩
theorem lw_p83 : lw_okq (⟨"RaftTownModel", "rots", "()V"⟩, 26) := ⟨⟨by decide +kernel, by decide +kernel⟩, List.mem_of_getElem? (i := 1338) (by decide +kernel), List.mem_of_getElem? (i := 1662) (by decide +kernel), List.mem_of_getElem? (i := 1663) (by decide +kernel)⟩
theorem lw_p84 : lw_okq (⟨"RaftTownModel", "sinks", "(I)V"⟩, 26) := ⟨⟨by decide +kernel, by decide +kernel⟩, List.mem_of_getElem? (i := 1338) (by decide +kernel), List.mem_of_getElem? (i := 1666) (by decide +kernel), List.mem_of_getElem? (i := 1667) (by decide +kernel)⟩
theorem lw_p85 : lw_okq (⟨"RaftTownModel", "drifts", "()V"⟩, 26) := ⟨⟨by decide +kernel, by decide +kernel⟩, List.mem_of_getElem? (i := 1338) (by decide +kernel), List.mem_of_getElem? (i := 1670) (by decide +kernel), List.mem_of_getElem? (i := 1671) (by decide +kernel)⟩
theorem lw_p86 : lw_okq (⟨"RaftTownModel", "leads", "(II)I"⟩, 26) := ⟨⟨by decide +kernel, by decide +kernel⟩, List.mem_of_getElem? (i := 1338) (by decide +kernel), List.mem_of_getElem? (i := 1674) (by decide +kernel), List.mem_of_getElem? (i := 1675) (by decide +kernel)⟩
theorem lw_p87 : lw_okq (⟨"RaftTownModel", "headsOf", "(I)I"⟩, 26) := ⟨⟨by decide +kernel, by decide +kernel⟩, List.mem_of_getElem? (i := 1338) (by decide +kernel), List.mem_of_getElem? (i := 1689) (by decide +kernel), List.mem_of_getElem? (i := 1690) (by decide +kernel)⟩
theorem lw_p88 : lw_okq (⟨"RaftTownModel", "waterOf", "(I)I"⟩, 26) := ⟨⟨by decide +kernel, by decide +kernel⟩, List.mem_of_getElem? (i := 1338) (by decide +kernel), List.mem_of_getElem? (i := 1693) (by decide +kernel), List.mem_of_getElem? (i := 1694) (by decide +kernel)⟩
theorem lw_p89 : lw_okq (⟨"RaftTownModel", "reads", "()Z"⟩, 26) := ⟨⟨by decide +kernel, by decide +kernel⟩, List.mem_of_getElem? (i := 1338) (by decide +kernel), List.mem_of_getElem? (i := 1705) (by decide +kernel), List.mem_of_getElem? (i := 1706) (by decide +kernel)⟩
theorem lw_p90 : lw_okq (⟨"RaftTownModel", "looks", "()V"⟩, 26) := ⟨⟨by decide +kernel, by decide +kernel⟩, List.mem_of_getElem? (i := 1338) (by decide +kernel), List.mem_of_getElem? (i := 1709) (by decide +kernel), List.mem_of_getElem? (i := 1710) (by decide +kernel)⟩
theorem lw_p91 : lw_okq (⟨"RaftTownModel", "byteAt", "(I)I"⟩, 26) := ⟨⟨by decide +kernel, by decide +kernel⟩, List.mem_of_getElem? (i := 1338) (by decide +kernel), List.mem_of_getElem? (i := 1713) (by decide +kernel), List.mem_of_getElem? (i := 1714) (by decide +kernel)⟩
theorem lw_p92 : lw_okq (⟨"RaftTownModel", "wordOf", "()I"⟩, 26) := ⟨⟨by decide +kernel, by decide +kernel⟩, List.mem_of_getElem? (i := 1338) (by decide +kernel), List.mem_of_getElem? (i := 1720) (by decide +kernel), List.mem_of_getElem? (i := 1721) (by decide +kernel)⟩
theorem lw_p93 : lw_okq (⟨"RaftTownModel", "readsE", "(I)Z"⟩, 26) := ⟨⟨by decide +kernel, by decide +kernel⟩, List.mem_of_getElem? (i := 1338) (by decide +kernel), List.mem_of_getElem? (i := 1730) (by decide +kernel), List.mem_of_getElem? (i := 1731) (by decide +kernel)⟩
theorem lw_p94 : lw_okq (⟨"RaftTownModel", "waitsOf", "(I)I"⟩, 26) := ⟨⟨by decide +kernel, by decide +kernel⟩, List.mem_of_getElem? (i := 1338) (by decide +kernel), List.mem_of_getElem? (i := 1734) (by decide +kernel), List.mem_of_getElem? (i := 1735) (by decide +kernel)⟩
theorem lw_p95 : lw_okq (⟨"RaftTownModel", "lays", "(I)V"⟩, 26) := ⟨⟨by decide +kernel, by decide +kernel⟩, List.mem_of_getElem? (i := 1338) (by decide +kernel), List.mem_of_getElem? (i := 1738) (by decide +kernel), List.mem_of_getElem? (i := 1739) (by decide +kernel)⟩
def lw_privs_6 : List (MethodName × Nat) := [(⟨"RaftTownModel", "allDrink", "()V"⟩, 26), (⟨"RaftTownModel", "loses", "(II)V"⟩, 26), (⟨"RaftTownModel", "ropesAge", "(I)V"⟩, 26), (⟨"RaftTownModel", "rots", "()V"⟩, 26), (⟨"RaftTownModel", "sinks", "(I)V"⟩, 26), (⟨"RaftTownModel", "drifts", "()V"⟩, 26), (⟨"RaftTownModel", "leads", "(II)I"⟩, 26), (⟨"RaftTownModel", "headsOf", "(I)I"⟩, 26), (⟨"RaftTownModel", "waterOf", "(I)I"⟩, 26), (⟨"RaftTownModel", "reads", "()Z"⟩, 26), (⟨"RaftTownModel", "looks", "()V"⟩, 26), (⟨"RaftTownModel", "byteAt", "(I)I"⟩, 26), (⟨"RaftTownModel", "wordOf", "()I"⟩, 26), (⟨"RaftTownModel", "readsE", "(I)Z"⟩, 26), (⟨"RaftTownModel", "waitsOf", "(I)I"⟩, 26), (⟨"RaftTownModel", "lays", "(I)V"⟩, 26)]
theorem lw_r6 : ∀ q ∈ lw_privs_6, lw_okq q := List.forall_mem_cons.mpr ⟨lw_p80, List.forall_mem_cons.mpr ⟨lw_p81, List.forall_mem_cons.mpr ⟨lw_p82, List.forall_mem_cons.mpr ⟨lw_p83, List.forall_mem_cons.mpr ⟨lw_p84, List.forall_mem_cons.mpr ⟨lw_p85, List.forall_mem_cons.mpr ⟨lw_p86, List.forall_mem_cons.mpr ⟨lw_p87, List.forall_mem_cons.mpr ⟨lw_p88, List.forall_mem_cons.mpr ⟨lw_p89, List.forall_mem_cons.mpr ⟨lw_p90, List.forall_mem_cons.mpr ⟨lw_p91, List.forall_mem_cons.mpr ⟨lw_p92, List.forall_mem_cons.mpr ⟨lw_p93, List.forall_mem_cons.mpr ⟨lw_p94, List.forall_mem_cons.mpr ⟨lw_p95, fun _ h => absurd h List.not_mem_nil⟩⟩⟩⟩⟩⟩⟩⟩⟩⟩⟩⟩⟩⟩⟩⟩
theorem lw_p96 : lw_okq (⟨"RaftTownModel", "settles", "(I)V"⟩, 26) := ⟨⟨by decide +kernel, by decide +kernel⟩, List.mem_of_getElem? (i := 1338) (by decide +kernel), List.mem_of_getElem? (i := 1742) (by decide +kernel), List.mem_of_getElem? (i := 1743) (by decide +kernel)⟩
theorem lw_p97 : lw_okq (⟨"RaftTownModel", "isTested", "()Z"⟩, 26) := ⟨⟨by decide +kernel, by decide +kernel⟩, List.mem_of_getElem? (i := 1338) (by decide +kernel), List.mem_of_getElem? (i := 1749) (by decide +kernel), List.mem_of_getElem? (i := 1750) (by decide +kernel)⟩
theorem lw_p98 : lw_okq (⟨"RaftTownModel", "lawOf", "(I)I"⟩, 26) := ⟨⟨by decide +kernel, by decide +kernel⟩, List.mem_of_getElem? (i := 1338) (by decide +kernel), List.mem_of_getElem? (i := 1761) (by decide +kernel), List.mem_of_getElem? (i := 1762) (by decide +kernel)⟩
theorem lw_p99 : lw_okq (⟨"RaftTownModel", "cutOf", "(IIII)I"⟩, 26) := ⟨⟨by decide +kernel, by decide +kernel⟩, List.mem_of_getElem? (i := 1338) (by decide +kernel), List.mem_of_getElem? (i := 1769) (by decide +kernel), List.mem_of_getElem? (i := 1770) (by decide +kernel)⟩
theorem lw_p100 : lw_okq (⟨"RaftTownModel", "namesOf", "(I)V"⟩, 26) := ⟨⟨by decide +kernel, by decide +kernel⟩, List.mem_of_getElem? (i := 1338) (by decide +kernel), List.mem_of_getElem? (i := 1773) (by decide +kernel), List.mem_of_getElem? (i := 1774) (by decide +kernel)⟩
theorem lw_p101 : lw_okq (⟨"RaftTownModel", "kinOn", "(II)I"⟩, 26) := ⟨⟨by decide +kernel, by decide +kernel⟩, List.mem_of_getElem? (i := 1338) (by decide +kernel), List.mem_of_getElem? (i := 1777) (by decide +kernel), List.mem_of_getElem? (i := 1778) (by decide +kernel)⟩
theorem lw_p102 : lw_okq (⟨"RaftTownModel", "worth", "(II)I"⟩, 26) := ⟨⟨by decide +kernel, by decide +kernel⟩, List.mem_of_getElem? (i := 1338) (by decide +kernel), List.mem_of_getElem? (i := 1781) (by decide +kernel), List.mem_of_getElem? (i := 1782) (by decide +kernel)⟩
theorem lw_p103 : lw_okq (⟨"RaftTownModel", "holds", "(II)Z"⟩, 26) := ⟨⟨by decide +kernel, by decide +kernel⟩, List.mem_of_getElem? (i := 1338) (by decide +kernel), List.mem_of_getElem? (i := 1808) (by decide +kernel), List.mem_of_getElem? (i := 1809) (by decide +kernel)⟩
theorem lw_p104 : lw_okq (⟨"RaftTownModel", "lostBy", "(II)I"⟩, 26) := ⟨⟨by decide +kernel, by decide +kernel⟩, List.mem_of_getElem? (i := 1338) (by decide +kernel), List.mem_of_getElem? (i := 1816) (by decide +kernel), List.mem_of_getElem? (i := 1817) (by decide +kernel)⟩
theorem lw_p105 : lw_okq (⟨"RaftTownModel", "hasSail", "(I)Z"⟩, 26) := ⟨⟨by decide +kernel, by decide +kernel⟩, List.mem_of_getElem? (i := 1338) (by decide +kernel), List.mem_of_getElem? (i := 1828) (by decide +kernel), List.mem_of_getElem? (i := 1829) (by decide +kernel)⟩
theorem lw_p106 : lw_okq (⟨"RaftTownModel", "copies", "()V"⟩, 26) := ⟨⟨by decide +kernel, by decide +kernel⟩, List.mem_of_getElem? (i := 1338) (by decide +kernel), List.mem_of_getElem? (i := 1835) (by decide +kernel), List.mem_of_getElem? (i := 1836) (by decide +kernel)⟩
def lw_privs_7 : List (MethodName × Nat) := [(⟨"RaftTownModel", "settles", "(I)V"⟩, 26), (⟨"RaftTownModel", "isTested", "()Z"⟩, 26), (⟨"RaftTownModel", "lawOf", "(I)I"⟩, 26), (⟨"RaftTownModel", "cutOf", "(IIII)I"⟩, 26), (⟨"RaftTownModel", "namesOf", "(I)V"⟩, 26), (⟨"RaftTownModel", "kinOn", "(II)I"⟩, 26), (⟨"RaftTownModel", "worth", "(II)I"⟩, 26), (⟨"RaftTownModel", "holds", "(II)Z"⟩, 26), (⟨"RaftTownModel", "lostBy", "(II)I"⟩, 26), (⟨"RaftTownModel", "hasSail", "(I)Z"⟩, 26), (⟨"RaftTownModel", "copies", "()V"⟩, 26)]
theorem lw_r7 : ∀ q ∈ lw_privs_7, lw_okq q := List.forall_mem_cons.mpr ⟨lw_p96, List.forall_mem_cons.mpr ⟨lw_p97, List.forall_mem_cons.mpr ⟨lw_p98, List.forall_mem_cons.mpr ⟨lw_p99, List.forall_mem_cons.mpr ⟨lw_p100, List.forall_mem_cons.mpr ⟨lw_p101, List.forall_mem_cons.mpr ⟨lw_p102, List.forall_mem_cons.mpr ⟨lw_p103, List.forall_mem_cons.mpr ⟨lw_p104, List.forall_mem_cons.mpr ⟨lw_p105, List.forall_mem_cons.mpr ⟨lw_p106, fun _ h => absurd h List.not_mem_nil⟩⟩⟩⟩⟩⟩⟩⟩⟩⟩⟩
def lw_privs : List (MethodName × Nat) := lw_privs_1 ++ (lw_privs_2 ++ (lw_privs_3 ++ (lw_privs_4 ++ (lw_privs_5 ++ (lw_privs_6 ++ (lw_privs_7))))))
def lw_tbl : List Cond := k2_sels lw_privs ++ tables_1
theorem lw_privs_ok : ∀ q ∈ lw_privs, lw_okq q := by
  show ∀ q ∈ lw_privs_1 ++ (lw_privs_2 ++ (lw_privs_3 ++ (lw_privs_4 ++ (lw_privs_5 ++ (lw_privs_6 ++ (lw_privs_7)))))), lw_okq q
  exact List.forall_mem_append.mpr ⟨lw_r1, List.forall_mem_append.mpr ⟨lw_r2, List.forall_mem_append.mpr ⟨lw_r3, List.forall_mem_append.mpr ⟨lw_r4, List.forall_mem_append.mpr ⟨lw_r5, List.forall_mem_append.mpr ⟨lw_r6, lw_r7⟩⟩⟩⟩⟩⟩
end
section
/-! ===== the small machine: its memory, and how the heap holds it ===== -/
/-- a cell: an array of a type, or an object of the class of a number; addresses are places in the memory -/
abbrev mm_C : Type := (FieldType × List Value) ⊕ (Nat × List Value)
def mm_sh (φ : Nat → Nat) : Value → Value
  | .ref a => .ref (φ a)
  | v => v
def mm_sl (φ : Nat → Nat) (l : List (Nat × Value)) : List (Nat × Value) := l.map fun q => (q.1, mm_sh φ q.2)
def mm_ph (φ : Nat → Nat) (kx bs : Nat) : Prop := (∀ i, i < kx → φ i < bs) ∧ ∀ i, kx ≤ i → φ i = bs + (i - kx)
def mm_at (φ : Nat → Nat) (kx : Nat) (D : va_G) (cl : List vw_C) (U : State) (H : Heap) (i : Nat) : mm_C → Prop
  | .inl a => ∃ cell : Cell, H[φ i]? = some cell ∧ cell.slots = (a.2.map (mm_sh φ)).toArray ∧ cell.vm ≠ .unknown ∧ U.isArrayOf cell a.1 ∧ (kx ≤ i → cell.vm = .none ∧ va_RA U cell.cls a.1)
  | .inr o => ∃ r : vw_C, cl[o.1]? = some r ∧ o.2.length = r.2.2 ∧ t_OB (φ i) (D.1 o.1) r.2.2 (D.2 o.1) H (vp_V (o.2.map (mm_sh φ)))
def mm_B (bs : Nat) : Nat → Prop := fun q => bs ≤ q
abbrev mm_Zt : Type := String × String × String × Value
def mm_R (φ : Nat → Nat) (kx bs : Nat) (D : va_G) (cl : List vw_C) (zs : List mm_Zt) (U : State) (mem : List mm_C) (H : Heap) : Prop :=
  kx ≤ mem.length ∧ H.size = bs + (mem.length - kx) ∧ (∀ (i : Nat) (c : mm_C), mem[i]? = some c → mm_at φ kx D cl U H i c) ∧ ∀ z ∈ zs, va_Z z.1 z.2.1 z.2.2.1 (mm_sh φ z.2.2.2) (mm_B bs) U H
theorem mm_sh_cat (φ : Nat → Nat) (v : Value) : (mm_sh φ v).category = v.category := by cases v <;> rfl
theorem mm_at_moved {φ : Nat → Nat} {kx : Nat} {D : va_G} {cl : List vw_C} {u U : State} {H : Heap} {i : Nat} {c : mm_C} (hvm : u.vm.Alike U.vm) (h : mm_at φ kx D cl u H i c) : mm_at φ kx D cl U H i c := by
  cases c with
  | inl a =>
    obtain ⟨cell, h1, h2, h3, h4, h5⟩ := h
    exact ⟨cell, h1, h2, h3, State.isArrayOf_alike hvm h4, fun q => ⟨(h5 q).1, (h5 q).2.moved hvm⟩⟩
  | inr o => exact h
theorem mm_R_moved {φ : Nat → Nat} {kx bs : Nat} {D : va_G} {cl : List vw_C} {zs : List mm_Zt} {u U : State} {mem : List mm_C} {H : Heap} (hvm : u.vm.Alike U.vm) (h : mm_R φ kx bs D cl zs u mem H) : mm_R φ kx bs D cl zs U mem H :=
  ⟨h.1, h.2.1, fun i c hc => mm_at_moved hvm (h.2.2.1 i c hc), fun z hz => (h.2.2.2 z hz).moved hvm⟩
theorem mm_at_kept {φ : Nat → Nat} {kx : Nat} {D : va_G} {cl : List vw_C} {U : State} {H H1 : Heap} {i : Nat} {c : mm_C} (h : mm_at φ kx D cl U H i c) (hq : H1[φ i]? = H[φ i]?) : mm_at φ kx D cl U H1 i c := by
  cases c with
  | inl a =>
    obtain ⟨cell, h1, h2⟩ := h
    exact ⟨cell, hq.trans h1, h2⟩
  | inr o =>
    obtain ⟨r, h1, h2, h3⟩ := h
    exact ⟨r, h1, h2, h3.kept hq⟩
theorem mm_at_lt {φ : Nat → Nat} {kx : Nat} {D : va_G} {cl : List vw_C} {U : State} {H : Heap} {i : Nat} {c : mm_C} (h : mm_at φ kx D cl U H i c) : φ i < H.size := by
  cases c with
  | inl a =>
    obtain ⟨cell, h1, h2⟩ := h
    exact (Array.getElem?_eq_some_iff.mp h1).1
  | inr o =>
    obtain ⟨r, h1, h2, cell, h3, h4⟩ := h
    exact (Array.getElem?_eq_some_iff.mp h3).1
theorem mm_ph_ne {φ : Nat → Nat} {kx bs : Nat} (h : mm_ph φ kx bs) {i j : Nat} (hi : kx ≤ i) (hij : j ≠ i) : φ j ≠ φ i := by
  intro e
  rw [h.2 i hi] at e
  by_cases hj : kx ≤ j
  · rw [h.2 j hj] at e; omega
  · have := h.1 j (by omega); omega
/-- one cell of ours is another now -/
theorem mm_R_set {φ : Nat → Nat} {kx bs : Nat} {D : va_G} {cl : List vw_C} {zs : List mm_Zt} {U : State} {mem : List mm_C} {H H1 : Heap} (hp : mm_ph φ kx bs) (h : mm_R φ kx bs D cl zs U mem H) {i : Nat} (hi : kx ≤ i) {c : mm_C} (hc : mm_at φ kx D cl U H1 i c) (hz : H1.size = H.size) (ho : ∀ q : Nat, q ≠ φ i → H1[q]? = H[q]?) : mm_R φ kx bs D cl zs U (mem.set i c) H1 := by
  refine ⟨by simpa using h.1, by rw [hz, h.2.1, List.length_set], fun j d hd => ?_, fun z hz => ?_⟩
  · by_cases hj : j = i
    · subst hj
      rw [List.getElem?_set] at hd
      simp only [if_true] at hd
      split at hd
      · cases hd; exact hc
      · cases hd
    · rw [List.getElem?_set_ne (fun e => hj e.symm)] at hd
      exact mm_at_kept (h.2.2.1 j d hd) (ho _ (mm_ph_ne hp hi hj))
  · refine (h.2.2.2 z hz).kept (fun a _ ha => ho a (fun e => ha ?_))
    rw [e, hp.2 i hi]
    exact Nat.le_add_right _ _
/-- a cell more -/
theorem mm_R_push {φ : Nat → Nat} {kx bs : Nat} {D : va_G} {cl : List vw_C} {zs : List mm_Zt} {U : State} {mem : List mm_C} {H H1 : Heap} (h : mm_R φ kx bs D cl zs U mem H) {c : mm_C} (hc : mm_at φ kx D cl U H1 mem.length c) (hz : H1.size = H.size + 1) (ho : ∀ q : Nat, q < H.size → H1[q]? = H[q]?) : mm_R φ kx bs D cl zs U (mem ++ [c]) H1 := by
  have h1 := h.1
  have h2 := h.2.1
  refine ⟨by simp; omega, by simp; omega, fun j d hd => ?_, fun z hz => ?_⟩
  · by_cases hj : j < mem.length
    · rw [List.getElem?_append_left hj] at hd
      exact mm_at_kept (h.2.2.1 j d hd) (ho _ (mm_at_lt (h.2.2.1 j d hd)))
    · rw [List.getElem?_append_right (by omega)] at hd
      have hlt := (List.getElem?_eq_some_iff.mp hd).1
      simp at hlt
      have : j = mem.length := by omega
      subst this
      simp at hd
      subst hd
      exact hc
  · exact (h.2.2.2 z hz).kept (fun a ha _ => ho a ha)
theorem mm_ph_size {φ : Nat → Nat} {kx bs : Nat} {D : va_G} {cl : List vw_C} {zs : List mm_Zt} {U : State} {mem : List mm_C} {H : Heap} (hp : mm_ph φ kx bs) (h : mm_R φ kx bs D cl zs U mem H) : φ mem.length = H.size := by
  rw [hp.2 _ h.1, h.2.1]
end
section
/-! ===== printed by wip/gen_names.py: names, methods, pools ===== -/
def RX0 : String := "RaftTown$Judge"
def TX0 : u_T := fun k => match k with
  | 0 => ("RaftTown$Judge", "names", "[I", true)
  | 1 => ("RaftTown$Judge", "values", "[I", true)
  | _ => ("RaftTown$Judge", "open", "I", false)
def tyX0 : Nat → FieldType := fun k => match k with
  | 0 => .array .int
  | 1 => .array .int
  | _ => .int
theorem nmX0 : ∀ a, a < 3 → ∀ b, b < 3 → a ≠ b → (TX0 a).2.1 ≠ (TX0 b).2.1 := by decide +kernel
theorem tyX0_ok : ∀ k, k < 3 → parseFieldDescriptor (TX0 k).2.2.1 = some (tyX0 k) := by decide +kernel
def RX1 : String := "RaftTown$Log"
def TX1 : u_T := fun k => match k with
  | 0 => ("RaftTown$Log", "whats", "[I", true)
  | 1 => ("RaftTown$Log", "numbers", "[I", true)
  | 2 => ("RaftTown$Log", "days", "[I", true)
  | 3 => ("RaftTown$Log", "knowers", "[I", true)
  | 4 => ("RaftTown$Log", "first", "I", false)
  | 5 => ("RaftTown$Log", "size", "I", false)
  | 6 => ("RaftTown$Log", "lawText", "[I", true)
  | 7 => ("RaftTown$Log", "lawKnown", "[I", true)
  | _ => ("RaftTown$Log", "lawCount", "I", false)
def tyX1 : Nat → FieldType := fun k => match k with
  | 0 => .array .int
  | 1 => .array .int
  | 2 => .array .int
  | 3 => .array .int
  | 4 => .int
  | 5 => .int
  | 6 => .array .int
  | 7 => .array .int
  | _ => .int
theorem nmX1 : ∀ a, a < 9 → ∀ b, b < 9 → a ≠ b → (TX1 a).2.1 ≠ (TX1 b).2.1 := by decide +kernel
theorem tyX1_ok : ∀ k, k < 9 → parseFieldDescriptor (TX1 k).2.2.1 = some (tyX1 k) := by decide +kernel
def RX2 : String := "RaftTown$Net"
def TX2 : u_T := fun k => match k with
  | 0 => ("RaftTown$Net", "ends", "[I", true)
  | 1 => ("RaftTown$Net", "strength", "[I", true)
  | 2 => ("RaftTown$Net", "lighter", "[I", true)
  | 3 => ("RaftTown$Net", "weight", "[I", true)
  | 4 => ("RaftTown$Net", "all", "I", false)
  | _ => ("RaftTown$Net", "afloat", "I", false)
def tyX2 : Nat → FieldType := fun k => match k with
  | 0 => .array .int
  | 1 => .array .int
  | 2 => .array .int
  | 3 => .array .int
  | 4 => .int
  | _ => .int
theorem nmX2 : ∀ a, a < 6 → ∀ b, b < 6 → a ≠ b → (TX2 a).2.1 ≠ (TX2 b).2.1 := by decide +kernel
theorem tyX2_ok : ∀ k, k < 6 → parseFieldDescriptor (TX2 k).2.2.1 = some (tyX2 k) := by decide +kernel
def RX3 : String := "RaftTown$Person"
def TX3 : u_T := fun k => match k with
  | 0 => ("RaftTown$Person", "raft", "I", false)
  | 1 => ("RaftTown$Person", "born", "I", false)
  | 2 => ("RaftTown$Person", "one", "I", false)
  | 3 => ("RaftTown$Person", "two", "I", false)
  | 4 => ("RaftTown$Person", "wedTo", "I", false)
  | 5 => ("RaftTown$Person", "thirst", "I", false)
  | _ => ("RaftTown$Person", "lost", "Z", false)
def tyX3 : Nat → FieldType := fun k => match k with
  | 0 => .int
  | 1 => .int
  | 2 => .int
  | 3 => .int
  | 4 => .int
  | 5 => .int
  | _ => .boolean
theorem nmX3 : ∀ a, a < 7 → ∀ b, b < 7 → a ≠ b → (TX3 a).2.1 ≠ (TX3 b).2.1 := by decide +kernel
theorem tyX3_ok : ∀ k, k < 7 → parseFieldDescriptor (TX3 k).2.2.1 = some (tyX3 k) := by decide +kernel
def RX4 : String := "RaftTown$Raft"
def TX4 : u_T := fun k => match k with
  | 0 => ("RaftTown$Raft", "kind", "I", false)
  | 1 => ("RaftTown$Raft", "cell", "I", false)
  | 2 => ("RaftTown$Raft", "planks", "I", false)
  | 3 => ("RaftTown$Raft", "hold", "I", false)
  | 4 => ("RaftTown$Raft", "water", "I", false)
  | 5 => ("RaftTown$Raft", "goods", "I", false)
  | _ => ("RaftTown$Raft", "sunk", "Z", false)
def tyX4 : Nat → FieldType := fun k => match k with
  | 0 => .int
  | 1 => .int
  | 2 => .int
  | 3 => .int
  | 4 => .int
  | 5 => .int
  | _ => .boolean
theorem nmX4 : ∀ a, a < 7 → ∀ b, b < 7 → a ≠ b → (TX4 a).2.1 ≠ (TX4 b).2.1 := by decide +kernel
theorem tyX4_ok : ∀ k, k < 7 → parseFieldDescriptor (TX4 k).2.2.1 = some (tyX4 k) := by decide +kernel
def RX5 : String := "RaftTown$Rope"
def TX5 : u_T := fun k => match k with
  | 0 => ("RaftTown$Rope", "one", "I", false)
  | 1 => ("RaftTown$Rope", "two", "I", false)
  | 2 => ("RaftTown$Rope", "sideOne", "I", false)
  | 3 => ("RaftTown$Rope", "sideTwo", "I", false)
  | 4 => ("RaftTown$Rope", "toldStrength", "I", false)
  | 5 => ("RaftTown$Rope", "age", "I", false)
  | 6 => ("RaftTown$Rope", "wetDays", "I", false)
  | _ => ("RaftTown$Rope", "live", "Z", false)
def tyX5 : Nat → FieldType := fun k => match k with
  | 0 => .int
  | 1 => .int
  | 2 => .int
  | 3 => .int
  | 4 => .int
  | 5 => .int
  | 6 => .int
  | _ => .boolean
theorem nmX5 : ∀ a, a < 8 → ∀ b, b < 8 → a ≠ b → (TX5 a).2.1 ≠ (TX5 b).2.1 := by decide +kernel
theorem tyX5_ok : ∀ k, k < 8 → parseFieldDescriptor (TX5 k).2.2.1 = some (tyX5 k) := by decide +kernel
def RX6 : String := "RaftTown$Sea"
def TX6 : u_T := fun k => match k with
  | 0 => ("RaftTown$Sea", "streamX", "[I", true)
  | 1 => ("RaftTown$Sea", "streamY", "[I", true)
  | _ => ("RaftTown$Sea", "steps", "[J", true)
def tyX6 : Nat → FieldType := fun k => match k with
  | 0 => .array .int
  | 1 => .array .int
  | _ => .array .long
theorem nmX6 : ∀ a, a < 3 → ∀ b, b < 3 → a ≠ b → (TX6 a).2.1 ≠ (TX6 b).2.1 := by decide +kernel
theorem tyX6_ok : ∀ k, k < 3 → parseFieldDescriptor (TX6 k).2.2.1 = some (tyX6 k) := by decide +kernel
def RX7 : String := "RaftTown$Sheet"
def TX7 : u_T := fun k => match k with
  | 0 => ("RaftTown$Sheet", "bits", "I", false)
  | 1 => ("RaftTown$Sheet", "length", "I", false)
  | _ => ("RaftTown$Sheet", "row", "[I", true)
def tyX7 : Nat → FieldType := fun k => match k with
  | 0 => .int
  | 1 => .int
  | _ => .array .int
theorem nmX7 : ∀ a, a < 3 → ∀ b, b < 3 → a ≠ b → (TX7 a).2.1 ≠ (TX7 b).2.1 := by decide +kernel
theorem tyX7_ok : ∀ k, k < 3 → parseFieldDescriptor (TX7 k).2.2.1 = some (tyX7 k) := by decide +kernel
def RX8 : String := "RaftTown$Tape"
def TX8 : u_T := fun k => match k with
  | 0 => ("RaftTown$Tape", "bytes", "[I", true)
  | 1 => ("RaftTown$Tape", "length", "I", false)
  | 2 => ("RaftTown$Tape", "draft", "LRaftTown$Text;", true)
  | 3 => ("RaftTown$Tape", "at", "I", false)
  | 4 => ("RaftTown$Tape", "token", "I", false)
  | 5 => ("RaftTown$Tape", "start", "I", false)
  | _ => ("RaftTown$Tape", "number", "I", false)
def tyX8 : Nat → FieldType := fun k => match k with
  | 0 => .array .int
  | 1 => .int
  | 2 => .object "RaftTown$Text"
  | 3 => .int
  | 4 => .int
  | 5 => .int
  | _ => .int
theorem nmX8 : ∀ a, a < 7 → ∀ b, b < 7 → a ≠ b → (TX8 a).2.1 ≠ (TX8 b).2.1 := by decide +kernel
theorem tyX8_ok : ∀ k, k < 7 → parseFieldDescriptor (TX8 k).2.2.1 = some (tyX8 k) := by decide +kernel
def RX9 : String := "RaftTown$Text"
def TX9 : u_T := fun k => match k with
  | 0 => ("RaftTown$Text", "told", "Z", false)
  | 1 => ("RaftTown$Text", "code", "[I", true)
  | 2 => ("RaftTown$Text", "ends", "[I", true)
  | _ => ("RaftTown$Text", "length", "I", false)
def tyX9 : Nat → FieldType := fun k => match k with
  | 0 => .boolean
  | 1 => .array .int
  | 2 => .array .int
  | _ => .int
theorem nmX9 : ∀ a, a < 4 → ∀ b, b < 4 → a ≠ b → (TX9 a).2.1 ≠ (TX9 b).2.1 := by decide +kernel
theorem tyX9_ok : ∀ k, k < 4 → parseFieldDescriptor (TX9 k).2.2.1 = some (tyX9 k) := by decide +kernel
def RX10 : String := "RaftTown$Town"
def TX10 : u_T := fun k => match k with
  | 0 => ("RaftTown$Town", "sea", "LRaftTown$Sea;", true)
  | 1 => ("RaftTown$Town", "rafts", "[LRaftTown$Raft;", true)
  | 2 => ("RaftTown$Town", "raftCount", "I", false)
  | 3 => ("RaftTown$Town", "persons", "[LRaftTown$Person;", true)
  | 4 => ("RaftTown$Town", "personCount", "I", false)
  | 5 => ("RaftTown$Town", "ropes", "[LRaftTown$Rope;", true)
  | 6 => ("RaftTown$Town", "ropeCount", "I", false)
  | 7 => ("RaftTown$Town", "log", "LRaftTown$Log;", true)
  | 8 => ("RaftTown$Town", "texts", "[LRaftTown$Text;", true)
  | 9 => ("RaftTown$Town", "today", "I", false)
  | 10 => ("RaftTown$Town", "used", "I", false)
  | _ => ("RaftTown$Town", "spilt", "I", false)
def tyX10 : Nat → FieldType := fun k => match k with
  | 0 => .object "RaftTown$Sea"
  | 1 => .array (.object "RaftTown$Raft")
  | 2 => .int
  | 3 => .array (.object "RaftTown$Person")
  | 4 => .int
  | 5 => .array (.object "RaftTown$Rope")
  | 6 => .int
  | 7 => .object "RaftTown$Log"
  | 8 => .array (.object "RaftTown$Text")
  | 9 => .int
  | 10 => .int
  | _ => .int
theorem nmX10 : ∀ a, a < 12 → ∀ b, b < 12 → a ≠ b → (TX10 a).2.1 ≠ (TX10 b).2.1 := by decide +kernel
theorem tyX10_ok : ∀ k, k < 12 → parseFieldDescriptor (TX10 k).2.2.1 = some (tyX10 k) := by decide +kernel
def RX11 : String := "RaftTown"
def TX11 : u_T := fun k => match k with
  | 0 => ("RaftTown", "town", "LRaftTown$Town;", true)
  | 1 => ("RaftTown", "kept", "LRaftTown$Town;", true)
  | 2 => ("RaftTown", "hasImage", "Z", false)
  | 3 => ("RaftTown", "sheets", "[LRaftTown$Sheet;", true)
  | 4 => ("RaftTown", "tape", "LRaftTown$Tape;", true)
  | 5 => ("RaftTown", "net", "LRaftTown$Net;", true)
  | 6 => ("RaftTown", "judge", "LRaftTown$Judge;", true)
  | _ => ("RaftTown", "findings", "I", false)
def tyX11 : Nat → FieldType := fun k => match k with
  | 0 => .object "RaftTown$Town"
  | 1 => .object "RaftTown$Town"
  | 2 => .boolean
  | 3 => .array (.object "RaftTown$Sheet")
  | 4 => .object "RaftTown$Tape"
  | 5 => .object "RaftTown$Net"
  | 6 => .object "RaftTown$Judge"
  | _ => .int
theorem nmX11 : ∀ a, a < 8 → ∀ b, b < 8 → a ≠ b → (TX11 a).2.1 ≠ (TX11 b).2.1 := by decide +kernel
theorem tyX11_ok : ∀ k, k < 8 → parseFieldDescriptor (TX11 k).2.2.1 = some (tyX11 k) := by decide +kernel
def RX12 : String := "RaftTownModel"
def TX12 : u_T := fun k => match k with
  | 0 => ("RaftTownModel", "now", "[I", true)
  | 1 => ("RaftTownModel", "kept", "[I", true)
  | 2 => ("RaftTownModel", "hasImage", "Z", false)
  | 3 => ("RaftTownModel", "findings", "I", false)
  | 4 => ("RaftTownModel", "weights", "[I", true)
  | 5 => ("RaftTownModel", "tape", "[B", true)
  | 6 => ("RaftTownModel", "taped", "I", false)
  | 7 => ("RaftTownModel", "letters", "[C", true)
  | 8 => ("RaftTownModel", "begins", "[I", true)
  | 9 => ("RaftTownModel", "code", "[I", true)
  | 10 => ("RaftTownModel", "waits", "[I", true)
  | 11 => ("RaftTownModel", "names", "[I", true)
  | 12 => ("RaftTownModel", "begin", "I", false)
  | 13 => ("RaftTownModel", "end", "I", false)
  | 14 => ("RaftTownModel", "next", "I", false)
  | 15 => ("RaftTownModel", "number", "I", false)
  | 16 => ("RaftTownModel", "size", "I", false)
  | 17 => ("RaftTownModel", "waitMany", "I", false)
  | 18 => ("RaftTownModel", "heap", "[I", true)
  | 19 => ("RaftTownModel", "lostOf", "[I", true)
  | 20 => ("RaftTownModel", "may0", "[Z", true)
  | 21 => ("RaftTownModel", "then", "[Z", true)
  | 22 => ("RaftTownModel", "sheetBits", "[I", true)
  | 23 => ("RaftTownModel", "sheetSize", "[I", true)
  | 24 => ("RaftTownModel", "sheets", "[I", true)
  | _ => ("RaftTownModel", "carried", "[I", true)
def tyX12 : Nat → FieldType := fun k => match k with
  | 0 => .array .int
  | 1 => .array .int
  | 2 => .boolean
  | 3 => .int
  | 4 => .array .int
  | 5 => .array .byte
  | 6 => .int
  | 7 => .array .char
  | 8 => .array .int
  | 9 => .array .int
  | 10 => .array .int
  | 11 => .array .int
  | 12 => .int
  | 13 => .int
  | 14 => .int
  | 15 => .int
  | 16 => .int
  | 17 => .int
  | 18 => .array .int
  | 19 => .array .int
  | 20 => .array .boolean
  | 21 => .array .boolean
  | 22 => .array .int
  | 23 => .array .int
  | 24 => .array .int
  | _ => .array .int
theorem nmX12 : ∀ a, a < 26 → ∀ b, b < 26 → a ≠ b → (TX12 a).2.1 ≠ (TX12 b).2.1 := by decide +kernel
theorem tyX12_ok : ∀ k, k < 26 → parseFieldDescriptor (TX12 k).2.2.1 = some (tyX12 k) := by decide +kernel
abbrev vwCl : List vw_C := [(RX0, TX0, 3), (RX1, TX1, 9), (RX2, TX2, 6), (RX3, TX3, 7), (RX4, TX4, 7), (RX5, TX5, 8), (RX6, TX6, 3), (RX7, TX7, 3), (RX8, TX8, 7), (RX9, TX9, 4), (RX10, TX10, 12), (RX11, TX11, 8), (RX12, TX12, 26)]
def mm_ty (ci : Nat) : Nat → FieldType := match ci with
  | 0 => tyX0
  | 1 => tyX1
  | 2 => tyX2
  | 3 => tyX3
  | 4 => tyX4
  | 5 => tyX5
  | 6 => tyX6
  | 7 => tyX7
  | 8 => tyX8
  | 9 => tyX9
  | 10 => tyX10
  | 11 => tyX11
  | _ => tyX12
def mm_cns : List String := [RX0, RX1, RX2, RX3, RX4, RX5, RX6, RX7, RX8, RX9, RX10, RX11, RX12, "RaftTownLaw", "java/lang/Math", "java/lang/Integer", "java/lang/String", "java/lang/StringLatin1", "jdk/internal/util/Preconditions", "java/lang/StringUTF16", "java/lang/Long"]
abbrev mm_Mt : Type := Nat × MethodName × ByteArray × Nat × Option FieldType × Nat × Nat × List Nat
def mm_mths_0 : List mm_Mt := [
  (11, ⟨"RaftTown", "<init>", "()V"⟩, prog_1_method_1_code, 2, (none), 0, 2, [133, 132, 0, 108]),
  (10, ⟨"RaftTown$Town", "<init>", "()V"⟩, prog_12_method_1_code, 2, (none), 0, 2, [141, 140, 0, 109]),
  (6, ⟨"RaftTown$Sea", "<init>", "()V"⟩, prog_8_method_1_code, 1, (none), 0, 2, [147, 146, 0, 110]),
  (1, ⟨"RaftTown$Log", "<init>", "()V"⟩, prog_3_method_1_code, 1, (none), 0, 2, [171, 170, 0, 111]),
  (4, ⟨"RaftTown$Raft", "<init>", "()V"⟩, prog_6_method_1_code, 1, (none), 0, 2, [208, 207, 0, 112]),
  (3, ⟨"RaftTown$Person", "<init>", "()V"⟩, prog_5_method_1_code, 1, (none), 0, 2, [249, 248, 0, 113]),
  (5, ⟨"RaftTown$Rope", "<init>", "()V"⟩, prog_7_method_1_code, 1, (none), 0, 2, [290, 289, 0, 114]),
  (9, ⟨"RaftTown$Text", "<init>", "()V"⟩, prog_11_method_1_code, 1, (none), 0, 2, [336, 335, 0, 115]),
  (7, ⟨"RaftTown$Sheet", "<init>", "()V"⟩, prog_9_method_1_code, 1, (none), 0, 2, [403, 402, 0, 116]),
  (8, ⟨"RaftTown$Tape", "<init>", "()V"⟩, prog_10_method_1_code, 1, (none), 0, 2, [422, 421, 0, 117]),
  (2, ⟨"RaftTown$Net", "<init>", "()V"⟩, prog_4_method_1_code, 1, (none), 0, 2, [453, 452, 0, 118]),
  (0, ⟨"RaftTown$Judge", "<init>", "()V"⟩, prog_2_method_1_code, 1, (none), 0, 2, [481, 480, 0, 119]),
  (11, ⟨"RaftTown", "stream", "(III)I"⟩, prog_1_method_2_code, 4, (some .int), 3, 1, [521, 519, 520, 108]),
  (11, ⟨"RaftTown", "isCell", "(I)Z"⟩, prog_1_method_49_code, 1, (some .boolean), 1, 0, [524, 523, 0, 108]),
  (11, ⟨"RaftTown", "within", "(III)Z"⟩, prog_1_method_48_code, 3, (some .boolean), 3, 0, [527, 526, 0, 108]),
  (11, ⟨"RaftTown", "noted", "(I)I"⟩, prog_1_method_42_code, 2, (some .int), 1, 1, [532, 531, 0, 108]),
  (6, ⟨"RaftTown$Sea", "lead", "(III)V"⟩, prog_8_method_3_code, 4, (none), 3, 1, [537, 535, 536, 110]),
  (11, ⟨"RaftTown", "raft", "(IIII)I"⟩, prog_1_method_3_code, 5, (some .int), 4, 1, [542, 540, 541, 108]),
  (11, ⟨"RaftTown", "isKind", "(I)Z"⟩, prog_1_method_50_code, 1, (some .boolean), 1, 0, [545, 544, 0, 108]),
  (10, ⟨"RaftTown$Town", "addRaft", "(IIII)I"⟩, prog_12_method_11_code, 6, (some .int), 4, 1, [550, 548, 549, 109]),
  (10, ⟨"RaftTown$Town", "raftAt", "(I)LRaftTown$Raft;"⟩, prog_12_method_6_code, 2, (some (.object "RaftTown$Raft")), 1, 1, [554, 552, 553, 109]),
  (4, ⟨"RaftTown$Raft", "launch", "(IIII)V"⟩, prog_6_method_3_code, 5, (none), 4, 1, [559, 557, 558, 112]),
  (11, ⟨"RaftTown", "as", "(II)I"⟩, prog_1_method_4_code, 3, (some .int), 2, 1, [563, 561, 562, 108]),
  (10, ⟨"RaftTown$Town", "hasRaft", "(I)Z"⟩, prog_12_method_3_code, 2, (some .boolean), 1, 1, [567, 565, 566, 109]),
  (4, ⟨"RaftTown$Raft", "isOf", "(I)Z"⟩, prog_6_method_4_code, 4, (some .boolean), 1, 1, [572, 570, 571, 112]),
  (11, ⟨"RaftTown", "raftIs", "(II)I"⟩, prog_1_method_5_code, 4, (some .int), 2, 1, [580, 578, 579, 108]),
  (11, ⟨"RaftTown", "surveyed", "()LRaftTown$Net;"⟩, prog_1_method_43_code, 1, (some (.object "RaftTown$Net")), 0, 1, [584, 583, 1, 108]),
  (2, ⟨"RaftTown$Net", "survey", "(LRaftTown$Town;)V"⟩, prog_4_method_2_code, 4, (none), 1, 1, [588, 586, 587, 118]),
  (4, ⟨"RaftTown$Raft", "ownWeight", "()I"⟩, prog_6_method_6_code, 1, (some .int), 0, 1, [593, 591, 592, 112]),
  (4, ⟨"RaftTown$Raft", "area", "()I"⟩, prog_6_method_5_code, 1, (some .int), 0, 1, [597, 595, 596, 112]),
  (10, ⟨"RaftTown$Town", "personAt", "(I)LRaftTown$Person;"⟩, prog_12_method_7_code, 2, (some (.object "RaftTown$Person")), 1, 1, [604, 602, 603, 109]),
  (10, ⟨"RaftTown$Town", "ropeAt", "(I)LRaftTown$Rope;"⟩, prog_12_method_8_code, 2, (some (.object "RaftTown$Rope")), 1, 1, [609, 607, 608, 109]),
  (5, ⟨"RaftTown$Rope", "strength", "()I"⟩, prog_7_method_4_code, 1, (some .int), 0, 1, [613, 611, 612, 114]),
  (14, ⟨"java/lang/Math", "max", "(II)I"⟩, prog_17_method_65_code, 2, (some .int), 2, 0, [616, 615, 0, 121]),
  (2, ⟨"RaftTown$Net", "weightAt", "(I)I"⟩, prog_4_method_3_code, 2, (some .int), 1, 1, [620, 618, 619, 118]),
  (14, ⟨"java/lang/Math", "min", "(II)I"⟩, prog_17_method_69_code, 2, (some .int), 2, 0, [623, 622, 0, 121]),
  (2, ⟨"RaftTown$Net", "partOf", "(I)I"⟩, prog_4_method_6_code, 2, (some .int), 1, 1, [629, 627, 628, 118]),
  (2, ⟨"RaftTown$Net", "reach", "(II)I"⟩, prog_4_method_5_code, 7, (some .int), 2, 1, [633, 632, 2, 118]),
  (11, ⟨"RaftTown", "leastOf", "(I)I"⟩, prog_1_method_57_code, 1, (some .int), 1, 0, [636, 635, 0, 108]),
  (15, ⟨"java/lang/Integer", "numberOfTrailingZeros", "(I)I"⟩, prog_15_method_48_code, 2, (some .int), 1, 0, [639, 638, 0, 122])]
def mm_mths_1 : List mm_Mt := [
  (11, ⟨"RaftTown", "load", "(IIZ)I"⟩, prog_1_method_6_code, 5, (some .int), 3, 1, [644, 642, 643, 108]),
  (4, ⟨"RaftTown$Raft", "room", "()I"⟩, prog_6_method_7_code, 1, (some .int), 0, 1, [649, 647, 648, 112]),
  (4, ⟨"RaftTown$Raft", "stow", "(IZ)I"⟩, prog_6_method_9_code, 3, (some .int), 2, 1, [653, 651, 652, 112]),
  (4, ⟨"RaftTown$Raft", "casks", "(Z)I"⟩, prog_6_method_8_code, 2, (some .int), 1, 1, [657, 655, 656, 112]),
  (11, ⟨"RaftTown", "trade", "(IIIZ)I"⟩, prog_1_method_7_code, 7, (some .int), 4, 1, [661, 659, 660, 108]),
  (2, ⟨"RaftTown$Net", "inOnePart", "(II)Z"⟩, prog_4_method_7_code, 3, (some .boolean), 2, 1, [666, 664, 665, 118]),
  (11, ⟨"RaftTown", "has", "(II)Z"⟩, prog_1_method_56_code, 2, (some .boolean), 2, 0, [670, 669, 0, 108]),
  (11, ⟨"RaftTown", "person", "(IIII)I"⟩, prog_1_method_8_code, 5, (some .int), 4, 1, [677, 675, 676, 108]),
  (11, ⟨"RaftTown", "areParents", "(II)Z"⟩, prog_1_method_47_code, 3, (some .boolean), 2, 1, [681, 680, 3, 108]),
  (10, ⟨"RaftTown$Town", "addPerson", "(IIII)I"⟩, prog_12_method_12_code, 6, (some .int), 4, 1, [685, 683, 684, 109]),
  (3, ⟨"RaftTown$Person", "arrive", "(IIII)V"⟩, prog_5_method_3_code, 5, (none), 4, 1, [690, 688, 689, 113]),
  (11, ⟨"RaftTown", "wed", "(II)I"⟩, prog_1_method_9_code, 5, (some .int), 2, 1, [694, 692, 693, 108]),
  (10, ⟨"RaftTown$Town", "hasPerson", "(I)Z"⟩, prog_12_method_4_code, 2, (some .boolean), 1, 1, [698, 696, 697, 109]),
  (11, ⟨"RaftTown", "move", "(II)I"⟩, prog_1_method_10_code, 5, (some .int), 2, 1, [704, 702, 703, 108]),
  (11, ⟨"RaftTown", "personIs", "(II)I"⟩, prog_1_method_11_code, 4, (some .int), 2, 1, [708, 706, 707, 108]),
  (10, ⟨"RaftTown$Town", "kinOf", "(I)I"⟩, prog_12_method_16_code, 4, (some .int), 1, 1, [712, 710, 711, 109]),
  (10, ⟨"RaftTown$Town", "areKin", "(II)Z"⟩, prog_12_method_15_code, 5, (some .boolean), 2, 1, [716, 715, 4, 109]),
  (3, ⟨"RaftTown$Person", "hasParent", "(I)Z"⟩, prog_5_method_4_code, 2, (some .boolean), 1, 1, [720, 718, 719, 113]),
  (11, ⟨"RaftTown", "tie", "(IIIII)I"⟩, prog_1_method_12_code, 10, (some .int), 5, 1, [724, 722, 723, 108]),
  (11, ⟨"RaftTown", "isSide", "(I)Z"⟩, prog_1_method_51_code, 1, (some .boolean), 1, 0, [727, 726, 0, 108]),
  (10, ⟨"RaftTown$Town", "hasRoomAt", "(II)Z"⟩, prog_12_method_13_code, 5, (some .boolean), 2, 1, [731, 729, 730, 109]),
  (5, ⟨"RaftTown$Rope", "isAtSide", "(II)Z"⟩, prog_7_method_6_code, 3, (some .boolean), 2, 1, [735, 733, 734, 114]),
  (10, ⟨"RaftTown$Town", "freeRope", "()I"⟩, prog_12_method_14_code, 2, (some .int), 0, 1, [739, 737, 738, 109]),
  (5, ⟨"RaftTown$Rope", "lay", "(IIIII)V"⟩, prog_7_method_3_code, 6, (none), 5, 1, [745, 743, 744, 114]),
  (1, ⟨"RaftTown$Log", "add", "(IIII)V"⟩, prog_3_method_5_code, 6, (none), 4, 1, [749, 747, 748, 111]),
  (1, ⟨"RaftTown$Log", "placeOf", "(I)I"⟩, prog_3_method_3_code, 3, (some .int), 1, 1, [753, 752, 5, 111]),
  (1, ⟨"RaftTown$Log", "tellOn", "(I)V"⟩, prog_3_method_7_code, 3, (none), 1, 1, [757, 755, 756, 111]),
  (11, ⟨"RaftTown", "cut", "(I)I"⟩, prog_1_method_13_code, 4, (some .int), 1, 1, [761, 759, 760, 108]),
  (10, ⟨"RaftTown$Town", "hasRope", "(I)Z"⟩, prog_12_method_5_code, 2, (some .boolean), 1, 1, [765, 763, 764, 109]),
  (1, ⟨"RaftTown$Log", "lawOf", "(I)I"⟩, prog_3_method_9_code, 4, (some .int), 1, 1, [769, 767, 768, 111]),
  (11, ⟨"RaftTown", "ropeRuling", "(III)I"⟩, prog_1_method_45_code, 4, (some .int), 3, 1, [773, 772, 6, 108]),
  (0, ⟨"RaftTown$Judge", "nameRope", "(LRaftTown$Town;LRaftTown$Net;II)V"⟩, prog_2_method_3_code, 6, (none), 4, 1, [777, 775, 776, 119]),
  (0, ⟨"RaftTown$Judge", "nameNothing", "()V"⟩, prog_2_method_2_code, 2, (none), 0, 1, [782, 781, 7, 119]),
  (2, ⟨"RaftTown$Net", "loadOf", "(III)I"⟩, prog_4_method_11_code, 4, (some .int), 3, 1, [786, 784, 785, 118]),
  (2, ⟨"RaftTown$Net", "hang", "(II)I"⟩, prog_4_method_10_code, 7, (some .int), 2, 1, [790, 788, 789, 118]),
  (2, ⟨"RaftTown$Net", "weigh", "(I)I"⟩, prog_4_method_9_code, 4, (some .int), 1, 1, [794, 793, 8, 118]),
  (10, ⟨"RaftTown$Town", "kinBetween", "(II)I"⟩, prog_12_method_19_code, 6, (some .int), 2, 1, [799, 797, 798, 109]),
  (10, ⟨"RaftTown$Town", "personsOf", "(I)I"⟩, prog_12_method_17_code, 4, (some .int), 1, 1, [803, 801, 802, 109]),
  (3, ⟨"RaftTown$Person", "isAmong", "(I)Z"⟩, prog_5_method_6_code, 2, (some .boolean), 1, 1, [807, 805, 806, 113]),
  (3, ⟨"RaftTown$Person", "isOn", "(I)Z"⟩, prog_5_method_5_code, 2, (some .boolean), 1, 1, [811, 809, 810, 113])]
def mm_mths_2 : List mm_Mt := [
  (15, ⟨"java/lang/Integer", "bitCount", "(I)I"⟩, prog_15_method_49_code, 1, (some .int), 1, 0, [815, 814, 0, 122]),
  (0, ⟨"RaftTown$Judge", "namePart", "(LRaftTown$Town;I)V"⟩, prog_2_method_6_code, 3, (none), 2, 1, [823, 822, 9, 119]),
  (10, ⟨"RaftTown$Town", "headsOf", "(I)I"⟩, prog_12_method_18_code, 2, (some .int), 1, 1, [827, 825, 826, 109]),
  (10, ⟨"RaftTown$Town", "waterOf", "(I)I"⟩, prog_12_method_20_code, 4, (some .int), 1, 1, [831, 829, 830, 109]),
  (10, ⟨"RaftTown$Town", "textOfLaw", "(I)LRaftTown$Text;"⟩, prog_12_method_10_code, 2, (some (.object "RaftTown$Text")), 1, 1, [836, 834, 835, 109]),
  (1, ⟨"RaftTown$Log", "textOf", "(I)I"⟩, prog_3_method_10_code, 2, (some .int), 1, 1, [840, 838, 839, 111]),
  (10, ⟨"RaftTown$Town", "textAt", "(I)LRaftTown$Text;"⟩, prog_12_method_9_code, 2, (some (.object "RaftTown$Text")), 1, 1, [845, 843, 844, 109]),
  (11, ⟨"RaftTown", "isText", "(I)Z"⟩, prog_1_method_52_code, 1, (some .boolean), 1, 0, [848, 847, 0, 108]),
  (0, ⟨"RaftTown$Judge", "comesTo", "(LRaftTown$Text;I)I"⟩, prog_2_method_7_code, 8, (some .int), 2, 1, [852, 850, 851, 119]),
  (9, ⟨"RaftTown$Text", "endOf", "(I)I"⟩, prog_11_method_8_code, 2, (some .int), 1, 1, [856, 854, 855, 115]),
  (9, ⟨"RaftTown$Text", "startOf", "(I)I"⟩, prog_11_method_7_code, 2, (some .int), 1, 1, [862, 860, 861, 115]),
  (0, ⟨"RaftTown$Judge", "push", "(I)V"⟩, prog_2_method_8_code, 2, (none), 1, 1, [866, 865, 10, 119]),
  (0, ⟨"RaftTown$Judge", "pop", "()I"⟩, prog_2_method_9_code, 1, (some .int), 0, 1, [870, 869, 11, 119]),
  (0, ⟨"RaftTown$Judge", "joined", "(III)I"⟩, prog_2_method_10_code, 3, (some .int), 3, 0, [873, 872, 0, 119]),
  (2, ⟨"RaftTown$Net", "countParts", "()I"⟩, prog_4_method_8_code, 4, (some .int), 0, 1, [878, 876, 877, 118]),
  (11, ⟨"RaftTown", "rope", "(II)I"⟩, prog_1_method_14_code, 4, (some .int), 2, 1, [882, 880, 881, 108]),
  (11, ⟨"RaftTown", "bears", "(II)I"⟩, prog_1_method_15_code, 3, (some .int), 2, 1, [888, 886, 887, 108]),
  (11, ⟨"RaftTown", "areWaves", "(I)Z"⟩, prog_1_method_54_code, 1, (some .boolean), 1, 0, [891, 890, 0, 108]),
  (11, ⟨"RaftTown", "parts", "()I"⟩, prog_1_method_16_code, 1, (some .int), 0, 1, [896, 894, 895, 108]),
  (11, ⟨"RaftTown", "part", "(I)I"⟩, prog_1_method_17_code, 2, (some .int), 1, 1, [900, 898, 899, 108]),
  (11, ⟨"RaftTown", "worst", "(II)I"⟩, prog_1_method_18_code, 4, (some .int), 2, 1, [904, 902, 903, 108]),
  (2, ⟨"RaftTown$Net", "countParting", "(III)I"⟩, prog_4_method_13_code, 8, (some .int), 3, 1, [908, 906, 907, 118]),
  (2, ⟨"RaftTown$Net", "worstOf", "(II)I"⟩, prog_4_method_12_code, 7, (some .int), 2, 1, [912, 910, 911, 118]),
  (2, ⟨"RaftTown$Net", "partingAt", "(II)I"⟩, prog_4_method_14_code, 6, (some .int), 2, 1, [917, 915, 916, 118]),
  (11, ⟨"RaftTown", "day", "(II)I"⟩, prog_1_method_19_code, 3, (some .int), 2, 1, [921, 919, 920, 108]),
  (11, ⟨"RaftTown", "isRain", "(I)Z"⟩, prog_1_method_55_code, 1, (some .boolean), 1, 0, [924, 923, 0, 108]),
  (10, ⟨"RaftTown$Town", "passDay", "(IILRaftTown$Net;)I"⟩, prog_12_method_26_code, 5, (some .int), 3, 1, [928, 926, 927, 109]),
  (10, ⟨"RaftTown$Town", "partUnder", "(ILRaftTown$Net;)I"⟩, prog_12_method_27_code, 6, (some .int), 2, 1, [933, 932, 12, 109]),
  (2, ⟨"RaftTown$Net", "drop", "(I)V"⟩, prog_4_method_4_code, 2, (none), 1, 1, [941, 939, 940, 118]),
  (10, ⟨"RaftTown$Town", "catchRain", "(I)V"⟩, prog_12_method_28_code, 4, (none), 1, 1, [945, 944, 13, 109]),
  (10, ⟨"RaftTown$Town", "waterGardens", "()V"⟩, prog_12_method_29_code, 3, (none), 0, 1, [953, 952, 14, 109]),
  (10, ⟨"RaftTown$Town", "drinkAll", "(LRaftTown$Net;)V"⟩, prog_12_method_30_code, 4, (none), 1, 1, [957, 956, 15, 109]),
  (10, ⟨"RaftTown$Town", "drink", "(II)V"⟩, prog_12_method_31_code, 5, (none), 2, 1, [961, 960, 16, 109]),
  (10, ⟨"RaftTown$Town", "fullestOf", "(I)LRaftTown$Raft;"⟩, prog_12_method_32_code, 4, (some (.object "RaftTown$Raft")), 1, 1, [965, 964, 17, 109]),
  (10, ⟨"RaftTown$Town", "lose", "(II)V"⟩, prog_12_method_33_code, 3, (none), 2, 1, [970, 969, 18, 109]),
  (10, ⟨"RaftTown$Town", "ageRopes", "(Z)V"⟩, prog_12_method_34_code, 3, (none), 1, 1, [974, 973, 19, 109]),
  (10, ⟨"RaftTown$Town", "rot", "(LRaftTown$Net;)V"⟩, prog_12_method_35_code, 5, (none), 1, 1, [978, 977, 20, 109]),
  (10, ⟨"RaftTown$Town", "sink", "(ILRaftTown$Net;)V"⟩, prog_12_method_36_code, 7, (none), 2, 1, [982, 981, 21, 109]),
  (5, ⟨"RaftTown$Rope", "isAt", "(I)Z"⟩, prog_7_method_5_code, 2, (some .boolean), 1, 1, [986, 984, 985, 114]),
  (10, ⟨"RaftTown$Town", "drift", "()V"⟩, prog_12_method_37_code, 3, (none), 0, 1, [990, 989, 22, 109])]
def mm_mths_3 : List mm_Mt := [
  (6, ⟨"RaftTown$Sea", "drifted", "(I)I"⟩, prog_8_method_6_code, 2, (some .int), 1, 1, [994, 992, 993, 110]),
  (6, ⟨"RaftTown$Sea", "ledBy", "(II)I"⟩, prog_8_method_5_code, 3, (some .int), 2, 1, [998, 997, 23, 110]),
  (6, ⟨"RaftTown$Sea", "stepped", "(III)I"⟩, prog_8_method_4_code, 6, (some .int), 3, 0, [1001, 1000, 0, 110]),
  (11, ⟨"RaftTown", "days", "(II)I"⟩, prog_1_method_20_code, 10, (some .int), 2, 1, [1006, 1004, 1005, 108]),
  (11, ⟨"RaftTown", "isSheet", "(I)Z"⟩, prog_1_method_53_code, 1, (some .boolean), 1, 0, [1009, 1008, 0, 108]),
  (7, ⟨"RaftTown$Sheet", "isMissing", "()Z"⟩, prog_9_method_2_code, 1, (some .boolean), 0, 1, [1013, 1011, 1012, 116]),
  (7, ⟨"RaftTown$Sheet", "numberOr", "(II)I"⟩, prog_9_method_5_code, 3, (some .int), 2, 1, [1017, 1015, 1016, 116]),
  (11, ⟨"RaftTown", "lasts", "(I)I"⟩, prog_1_method_21_code, 4, (some .int), 1, 1, [1022, 1020, 1021, 108]),
  (10, ⟨"RaftTown$Town", "countKind", "(II)I"⟩, prog_12_method_21_code, 5, (some .int), 2, 1, [1027, 1025, 1026, 109]),
  (11, ⟨"RaftTown", "feed", "(IJ)I"⟩, prog_1_method_22_code, 4, (some .int), 2, 1, [1032, 1030, 1031, 108]),
  (8, ⟨"RaftTown$Tape", "hasRoom", "(I)Z"⟩, prog_10_method_2_code, 2, (some .boolean), 1, 1, [1036, 1034, 1035, 117]),
  (8, ⟨"RaftTown$Tape", "append", "(IJ)I"⟩, prog_10_method_3_code, 5, (some .int), 2, 1, [1040, 1038, 1039, 117]),
  (11, ⟨"RaftTown", "text", "(I)I"⟩, prog_1_method_23_code, 3, (some .int), 1, 1, [1045, 1043, 1044, 108]),
  (8, ⟨"RaftTown$Tape", "read", "()I"⟩, prog_10_method_4_code, 2, (some .int), 0, 1, [1050, 1048, 1049, 117]),
  (9, ⟨"RaftTown$Text", "clear", "()V"⟩, prog_11_method_3_code, 1, (none), 0, 1, [1054, 1052, 1053, 115]),
  (8, ⟨"RaftTown$Tape", "next", "()V"⟩, prog_10_method_13_code, 2, (none), 0, 1, [1058, 1057, 24, 117]),
  (8, ⟨"RaftTown$Tape", "byteAt", "(I)I"⟩, prog_10_method_14_code, 2, (some .int), 1, 1, [1062, 1061, 25, 117]),
  (8, ⟨"RaftTown$Tape", "isLetter", "(I)Z"⟩, prog_10_method_18_code, 1, (some .boolean), 1, 0, [1065, 1064, 0, 117]),
  (8, ⟨"RaftTown$Tape", "nextWord", "()V"⟩, prog_10_method_15_code, 2, (none), 0, 1, [1070, 1069, 26, 117]),
  (8, ⟨"RaftTown$Tape", "word", "(I)Ljava/lang/String;"⟩, prog_10_method_21_code, 1, (some (.object "java/lang/String")), 1, 0, [1073, 1072, 0, 117]),
  (8, ⟨"RaftTown$Tape", "standsHere", "(Ljava/lang/String;)Z"⟩, prog_10_method_16_code, 3, (some .boolean), 1, 1, [1093, 1092, 27, 117]),
  (16, ⟨"java/lang/String", "length", "()I"⟩, prog_18_method_54_code, 1, (some .int), 0, 1, [1097, 1095, 1096, 123]),
  (16, ⟨"java/lang/String", "coder", "()B"⟩, prog_18_method_152_code, 1, (some .byte), 0, 1, [1101, 1099, 1100, 123]),
  (16, ⟨"java/lang/String", "charAt", "(I)C"⟩, prog_18_method_56_code, 2, (some .char), 1, 1, [1107, 1105, 1106, 123]),
  (16, ⟨"java/lang/String", "isLatin1", "()Z"⟩, prog_18_method_154_code, 1, (some .boolean), 0, 1, [1111, 1109, 1110, 123]),
  (17, ⟨"java/lang/StringLatin1", "charAt", "([BI)C"⟩, prog_19_method_2_code, 2, (some .char), 2, 0, [1114, 1113, 0, 124]),
  (16, ⟨"java/lang/String", "checkIndex", "(II)V"⟩, prog_18_method_155_code, 2, (none), 2, 0, [1117, 1116, 0, 123]),
  (18, ⟨"jdk/internal/util/Preconditions", "checkIndex", "(IILjava/util/function/BiFunction;)I"⟩, prog_22_method_11_code, 3, (some .int), 3, 0, [1122, 1121, 0, 125]),
  (19, ⟨"java/lang/StringUTF16", "charAt", "([BI)C"⟩, prog_20_method_83_code, 2, (some .char), 2, 0, [1125, 1124, 0, 126]),
  (19, ⟨"java/lang/StringUTF16", "checkIndex", "(I[B)V"⟩, prog_20_method_91_code, 2, (none), 2, 0, [1128, 1127, 0, 126]),
  (19, ⟨"java/lang/StringUTF16", "length", "([B)I"⟩, prog_20_method_6_code, 1, (some .int), 1, 0, [1131, 1130, 0, 126]),
  (19, ⟨"java/lang/StringUTF16", "getChar", "([BI)C"⟩, prog_20_method_5_code, 2, (some .char), 2, 0, [1135, 1134, 0, 126]),
  (8, ⟨"RaftTown$Tape", "isDigit", "(I)Z"⟩, prog_10_method_19_code, 1, (some .boolean), 1, 0, [1144, 1143, 0, 117]),
  (8, ⟨"RaftTown$Tape", "nextNumber", "()V"⟩, prog_10_method_17_code, 1, (none), 0, 1, [1148, 1147, 28, 117]),
  (8, ⟨"RaftTown$Tape", "signOf", "(I)I"⟩, prog_10_method_20_code, 1, (some .int), 1, 0, [1151, 1150, 0, 117]),
  (8, ⟨"RaftTown$Tape", "readClause", "(II)Z"⟩, prog_10_method_5_code, 4, (some .boolean), 2, 1, [1155, 1154, 29, 117]),
  (8, ⟨"RaftTown$Tape", "pass", "(I)Z"⟩, prog_10_method_6_code, 2, (some .boolean), 1, 1, [1159, 1158, 30, 117]),
  (8, ⟨"RaftTown$Tape", "readOr", "(I)Z"⟩, prog_10_method_7_code, 4, (some .boolean), 1, 1, [1163, 1162, 31, 117]),
  (8, ⟨"RaftTown$Tape", "readAnd", "(I)Z"⟩, prog_10_method_8_code, 4, (some .boolean), 1, 1, [1167, 1166, 32, 117]),
  (8, ⟨"RaftTown$Tape", "readNot", "(I)Z"⟩, prog_10_method_9_code, 3, (some .boolean), 1, 1, [1171, 1170, 33, 117])]
def mm_mths_4 : List mm_Mt := [
  (8, ⟨"RaftTown$Tape", "readComparison", "(I)Z"⟩, prog_10_method_10_code, 4, (some .boolean), 1, 1, [1175, 1174, 34, 117]),
  (8, ⟨"RaftTown$Tape", "readSum", "(I)Z"⟩, prog_10_method_11_code, 5, (some .boolean), 1, 1, [1179, 1178, 35, 117]),
  (8, ⟨"RaftTown$Tape", "readOne", "(I)Z"⟩, prog_10_method_12_code, 2, (some .boolean), 1, 1, [1183, 1182, 36, 117]),
  (9, ⟨"RaftTown$Text", "addNumber", "(I)V"⟩, prog_11_method_4_code, 2, (none), 1, 1, [1187, 1185, 1186, 115]),
  (9, ⟨"RaftTown$Text", "addToken", "(I)V"⟩, prog_11_method_5_code, 2, (none), 1, 1, [1191, 1189, 1190, 115]),
  (9, ⟨"RaftTown$Text", "endClause", "(I)V"⟩, prog_11_method_6_code, 2, (none), 1, 1, [1196, 1194, 1195, 115]),
  (9, ⟨"RaftTown$Text", "take", "(LRaftTown$Text;)V"⟩, prog_11_method_2_code, 2, (none), 1, 1, [1201, 1199, 1200, 115]),
  (11, ⟨"RaftTown", "force", "(II)I"⟩, prog_1_method_24_code, 3, (some .int), 2, 1, [1209, 1207, 1208, 108]),
  (1, ⟨"RaftTown$Log", "addLaw", "(III)I"⟩, prog_3_method_6_code, 5, (some .int), 3, 1, [1213, 1211, 1212, 111]),
  (11, ⟨"RaftTown", "law", "(I)I"⟩, prog_1_method_25_code, 3, (some .int), 1, 1, [1218, 1216, 1217, 108]),
  (11, ⟨"RaftTown", "lawAt", "(I)I"⟩, prog_1_method_44_code, 3, (some .int), 1, 1, [1222, 1221, 37, 108]),
  (11, ⟨"RaftTown", "may", "(II)I"⟩, prog_1_method_26_code, 5, (some .int), 2, 1, [1226, 1224, 1225, 108]),
  (11, ⟨"RaftTown", "must", "(II)I"⟩, prog_1_method_27_code, 4, (some .int), 2, 1, [1230, 1228, 1229, 108]),
  (0, ⟨"RaftTown$Judge", "nameRafts", "(LRaftTown$Town;III)V"⟩, prog_2_method_4_code, 5, (none), 4, 1, [1234, 1232, 1233, 119]),
  (11, ⟨"RaftTown", "speaks", "(I)I"⟩, prog_1_method_28_code, 8, (some .int), 1, 1, [1238, 1236, 1237, 108]),
  (0, ⟨"RaftTown$Judge", "namePerson", "(LRaftTown$Town;II)V"⟩, prog_2_method_5_code, 4, (none), 3, 1, [1243, 1241, 1242, 119]),
  (11, ⟨"RaftTown", "events", "(I)I"⟩, prog_1_method_29_code, 2, (some .int), 1, 1, [1251, 1249, 1250, 108]),
  (1, ⟨"RaftTown$Log", "countKnown", "(I)I"⟩, prog_3_method_8_code, 4, (some .int), 1, 1, [1255, 1253, 1254, 111]),
  (11, ⟨"RaftTown", "event", "(II)I"⟩, prog_1_method_30_code, 3, (some .int), 2, 1, [1259, 1257, 1258, 108]),
  (1, ⟨"RaftTown$Log", "detail", "(II)I"⟩, prog_3_method_4_code, 4, (some .int), 2, 1, [1263, 1261, 1262, 111]),
  (11, ⟨"RaftTown", "lash", "(II)I"⟩, prog_1_method_31_code, 4, (some .int), 2, 1, [1267, 1265, 1266, 108]),
  (2, ⟨"RaftTown$Net", "fewestLashings", "(II)I"⟩, prog_4_method_21_code, 11, (some .int), 2, 1, [1271, 1269, 1270, 118]),
  (2, ⟨"RaftTown$Net", "ropesOf", "(I)I"⟩, prog_4_method_20_code, 4, (some .int), 1, 1, [1275, 1274, 38, 118]),
  (2, ⟨"RaftTown$Net", "doomed", "(I)I"⟩, prog_4_method_18_code, 5, (some .int), 1, 1, [1279, 1278, 39, 118]),
  (2, ⟨"RaftTown$Net", "doomedOf", "(II)I"⟩, prog_4_method_19_code, 6, (some .int), 2, 1, [1283, 1282, 40, 118]),
  (2, ⟨"RaftTown$Net", "isBridge", "(II)Z"⟩, prog_4_method_16_code, 4, (some .boolean), 2, 1, [1287, 1286, 41, 118]),
  (2, ⟨"RaftTown$Net", "bridgesOf", "(I)I"⟩, prog_4_method_17_code, 4, (some .int), 1, 1, [1291, 1290, 42, 118]),
  (2, ⟨"RaftTown$Net", "holds", "(II)Z"⟩, prog_4_method_15_code, 4, (some .boolean), 2, 1, [1296, 1295, 43, 118]),
  (11, ⟨"RaftTown", "storm", "(IZ)I"⟩, prog_1_method_32_code, 4, (some .int), 2, 1, [1300, 1298, 1299, 108]),
  (2, ⟨"RaftTown$Net", "bestCuts", "(I)I"⟩, prog_4_method_24_code, 5, (some .int), 1, 1, [1304, 1302, 1303, 118]),
  (2, ⟨"RaftTown$Net", "mostKept", "(II)I"⟩, prog_4_method_22_code, 6, (some .int), 2, 1, [1308, 1307, 44, 118]),
  (2, ⟨"RaftTown$Net", "lostBy", "(III)I"⟩, prog_4_method_23_code, 5, (some .int), 3, 1, [1312, 1310, 1311, 118]),
  (11, ⟨"RaftTown", "proves", "(III)I"⟩, prog_1_method_33_code, 6, (some .int), 3, 1, [1318, 1316, 1317, 108]),
  (2, ⟨"RaftTown$Net", "firstUnproved", "(IILRaftTown$Sheet;)I"⟩, prog_4_method_25_code, 7, (some .int), 3, 1, [1323, 1321, 1322, 118]),
  (11, ⟨"RaftTown", "patch", "(II)I"⟩, prog_1_method_34_code, 4, (some .int), 2, 1, [1328, 1326, 1327, 108]),
  (11, ⟨"RaftTown", "hasSail", "(I)Z"⟩, prog_1_method_46_code, 2, (some .boolean), 1, 1, [1332, 1331, 45, 108]),
  (6, ⟨"RaftTown$Sea", "patchSize", "(IIZ)I"⟩, prog_8_method_7_code, 8, (some .int), 3, 1, [1336, 1334, 1335, 110]),
  (6, ⟨"RaftTown$Sea", "aDayOn", "(J)J"⟩, prog_8_method_9_code, 6, (some .long), 1, 1, [1345, 1344, 46, 110]),
  (20, ⟨"java/lang/Long", "bitCount", "(J)I"⟩, prog_16_method_50_code, 2, (some .int), 1, 0, [1348, 1347, 0, 128]),
  (11, ⟨"RaftTown", "tow", "(II)I"⟩, prog_1_method_35_code, 6, (some .int), 2, 1, [1355, 1353, 1354, 108])]
def mm_mths_5 : List mm_Mt := [
  (6, ⟨"RaftTown$Sea", "soonest", "(IIZ)I"⟩, prog_8_method_8_code, 9, (some .int), 3, 1, [1359, 1357, 1358, 110]),
  (11, ⟨"RaftTown", "sheet", "(III)I"⟩, prog_1_method_36_code, 4, (some .int), 3, 1, [1363, 1361, 1362, 108]),
  (7, ⟨"RaftTown$Sheet", "rule", "(II)I"⟩, prog_9_method_3_code, 4, (some .int), 2, 1, [1367, 1365, 1366, 116]),
  (11, ⟨"RaftTown", "put", "(III)I"⟩, prog_1_method_37_code, 5, (some .int), 3, 1, [1371, 1369, 1370, 108]),
  (7, ⟨"RaftTown$Sheet", "write", "(II)V"⟩, prog_9_method_4_code, 3, (none), 2, 1, [1375, 1373, 1374, 116]),
  (11, ⟨"RaftTown", "copy", "(IIIII)I"⟩, prog_1_method_38_code, 8, (some .int), 5, 1, [1380, 1378, 1379, 108]),
  (7, ⟨"RaftTown$Sheet", "hasRun", "(II)Z"⟩, prog_9_method_6_code, 3, (some .boolean), 2, 1, [1384, 1382, 1383, 116]),
  (11, ⟨"RaftTown", "image", "()I"⟩, prog_1_method_39_code, 1, (some .int), 0, 1, [1389, 1387, 1388, 108]),
  (10, ⟨"RaftTown$Town", "take", "(LRaftTown$Town;)V"⟩, prog_12_method_2_code, 3, (none), 1, 1, [1393, 1391, 1392, 109]),
  (6, ⟨"RaftTown$Sea", "take", "(LRaftTown$Sea;)V"⟩, prog_8_method_2_code, 2, (none), 1, 1, [1397, 1395, 1396, 110]),
  (4, ⟨"RaftTown$Raft", "take", "(LRaftTown$Raft;)V"⟩, prog_6_method_2_code, 2, (none), 1, 1, [1402, 1400, 1401, 112]),
  (3, ⟨"RaftTown$Person", "take", "(LRaftTown$Person;)V"⟩, prog_5_method_2_code, 2, (none), 1, 1, [1407, 1405, 1406, 113]),
  (5, ⟨"RaftTown$Rope", "take", "(LRaftTown$Rope;)V"⟩, prog_7_method_2_code, 2, (none), 1, 1, [1412, 1410, 1411, 114]),
  (1, ⟨"RaftTown$Log", "take", "(LRaftTown$Log;)V"⟩, prog_3_method_2_code, 2, (none), 1, 1, [1417, 1415, 1416, 111]),
  (11, ⟨"RaftTown", "restore", "()I"⟩, prog_1_method_40_code, 1, (some .int), 0, 1, [1423, 1421, 1422, 108]),
  (11, ⟨"RaftTown", "count", "(I)I"⟩, prog_1_method_41_code, 2, (some .int), 1, 1, [1427, 1425, 1426, 108]),
  (10, ⟨"RaftTown$Town", "countAfloat", "()I"⟩, prog_12_method_22_code, 3, (some .int), 0, 1, [1431, 1429, 1430, 109]),
  (10, ⟨"RaftTown$Town", "countAlive", "()I"⟩, prog_12_method_23_code, 3, (some .int), 0, 1, [1435, 1433, 1434, 109]),
  (10, ⟨"RaftTown$Town", "countRopes", "()I"⟩, prog_12_method_24_code, 3, (some .int), 0, 1, [1439, 1437, 1438, 109]),
  (10, ⟨"RaftTown$Town", "countCasks", "()I"⟩, prog_12_method_25_code, 3, (some .int), 0, 1, [1443, 1441, 1442, 109]),
  (12, ⟨"RaftTownModel", "<init>", "()V"⟩, prog_14_method_1_code, 1, (none), 0, 2, [1448, 1447, 0, 120]),
  (12, ⟨"RaftTownModel", "stream", "(III)I"⟩, prog_14_method_12_code, 4, (some .int), 3, 1, [1534, 1532, 1533, 120]),
  (12, ⟨"RaftTownModel", "in", "(III)Z"⟩, prog_14_method_3_code, 3, (some .boolean), 3, 0, [1537, 1536, 0, 120]),
  (12, ⟨"RaftTownModel", "finds", "(I)I"⟩, prog_14_method_4_code, 2, (some .int), 1, 1, [1542, 1541, 47, 120]),
  (12, ⟨"RaftTownModel", "raft", "(IIII)I"⟩, prog_14_method_13_code, 6, (some .int), 4, 1, [1546, 1544, 1545, 120]),
  (12, ⟨"RaftTownModel", "makes", "(III)V"⟩, prog_14_method_10_code, 4, (none), 3, 1, [1551, 1550, 48, 120]),
  (12, ⟨"RaftTownModel", "as", "(II)I"⟩, prog_14_method_14_code, 4, (some .int), 2, 1, [1555, 1553, 1554, 120]),
  (12, ⟨"RaftTownModel", "isFloat", "(I)Z"⟩, prog_14_method_5_code, 2, (some .boolean), 1, 1, [1559, 1558, 49, 120]),
  (12, ⟨"RaftTownModel", "own", "(II)I"⟩, prog_14_method_9_code, 3, (some .int), 2, 1, [1563, 1562, 50, 120]),
  (12, ⟨"RaftTownModel", "raftIs", "(II)I"⟩, prog_14_method_17_code, 3, (some .int), 2, 1, [1568, 1566, 1567, 120]),
  (12, ⟨"RaftTownModel", "weightOf", "(I)I"⟩, prog_14_method_16_code, 4, (some .int), 1, 1, [1572, 1571, 51, 120]),
  (12, ⟨"RaftTownModel", "isOn", "(II)Z"⟩, prog_14_method_23_code, 3, (some .boolean), 2, 1, [1576, 1575, 52, 120]),
  (12, ⟨"RaftTownModel", "isLost", "(I)Z"⟩, prog_14_method_22_code, 2, (some .boolean), 1, 1, [1580, 1579, 53, 120]),
  (12, ⟨"RaftTownModel", "ofPerson", "(II)I"⟩, prog_14_method_21_code, 3, (some .int), 2, 1, [1584, 1583, 54, 120]),
  (12, ⟨"RaftTownModel", "areaOf", "(I)I"⟩, prog_14_method_15_code, 3, (some .int), 1, 1, [1588, 1587, 55, 120]),
  (12, ⟨"RaftTownModel", "allRopes", "()I"⟩, prog_14_method_32_code, 3, (some .int), 0, 1, [1592, 1591, 56, 120]),
  (12, ⟨"RaftTownModel", "isLaid", "(I)Z"⟩, prog_14_method_31_code, 2, (some .boolean), 1, 1, [1596, 1595, 57, 120]),
  (12, ⟨"RaftTownModel", "ofRope", "(II)I"⟩, prog_14_method_30_code, 3, (some .int), 2, 1, [1600, 1599, 58, 120]),
  (12, ⟨"RaftTownModel", "partOf", "(II)I"⟩, prog_14_method_33_code, 8, (some .int), 2, 1, [1604, 1603, 59, 120]),
  (12, ⟨"RaftTownModel", "leastOf", "(I)I"⟩, prog_14_method_34_code, 2, (some .int), 1, 0, [1607, 1606, 0, 120])]
def mm_mths_6 : List mm_Mt := [
  (12, ⟨"RaftTownModel", "load", "(IIZ)I"⟩, prog_14_method_19_code, 5, (some .int), 3, 1, [1611, 1609, 1610, 120]),
  (12, ⟨"RaftTownModel", "isSunk", "(I)Z"⟩, prog_14_method_11_code, 2, (some .boolean), 1, 1, [1615, 1614, 60, 120]),
  (12, ⟨"RaftTownModel", "roomOf", "(I)I"⟩, prog_14_method_18_code, 2, (some .int), 1, 1, [1620, 1619, 61, 120]),
  (12, ⟨"RaftTownModel", "trade", "(IIIZ)I"⟩, prog_14_method_20_code, 6, (some .int), 4, 1, [1624, 1622, 1623, 120]),
  (12, ⟨"RaftTownModel", "person", "(IIII)I"⟩, prog_14_method_24_code, 7, (some .int), 4, 1, [1631, 1629, 1630, 120]),
  (12, ⟨"RaftTownModel", "wed", "(II)I"⟩, prog_14_method_25_code, 3, (some .int), 2, 1, [1635, 1633, 1634, 120]),
  (12, ⟨"RaftTownModel", "isPerson", "(I)Z"⟩, prog_14_method_6_code, 2, (some .boolean), 1, 1, [1639, 1638, 62, 120]),
  (12, ⟨"RaftTownModel", "move", "(II)I"⟩, prog_14_method_26_code, 4, (some .int), 2, 1, [1644, 1642, 1643, 120]),
  (12, ⟨"RaftTownModel", "personIs", "(II)I"⟩, prog_14_method_29_code, 5, (some .int), 2, 1, [1648, 1646, 1647, 120]),
  (12, ⟨"RaftTownModel", "areKin", "(II)Z"⟩, prog_14_method_28_code, 3, (some .boolean), 2, 1, [1652, 1651, 63, 120]),
  (12, ⟨"RaftTownModel", "isParent", "(II)Z"⟩, prog_14_method_27_code, 3, (some .boolean), 2, 1, [1656, 1655, 64, 120]),
  (12, ⟨"RaftTownModel", "parts", "()I"⟩, prog_14_method_37_code, 1, (some .int), 0, 1, [1660, 1658, 1659, 120]),
  (12, ⟨"RaftTownModel", "partMany", "()I"⟩, prog_14_method_36_code, 4, (some .int), 0, 1, [1664, 1663, 65, 120]),
  (12, ⟨"RaftTownModel", "part", "(I)I"⟩, prog_14_method_38_code, 2, (some .int), 1, 1, [1668, 1666, 1667, 120]),
  (12, ⟨"RaftTownModel", "tie", "(IIIII)I"⟩, prog_14_method_40_code, 9, (some .int), 5, 1, [1672, 1670, 1671, 120]),
  (12, ⟨"RaftTownModel", "hasRoom", "(II)Z"⟩, prog_14_method_39_code, 5, (some .boolean), 2, 1, [1676, 1675, 66, 120]),
  (12, ⟨"RaftTownModel", "tellsOn", "(I)V"⟩, prog_14_method_51_code, 3, (none), 1, 1, [1680, 1679, 67, 120]),
  (12, ⟨"RaftTownModel", "happens", "(III)V"⟩, prog_14_method_50_code, 5, (none), 3, 1, [1684, 1683, 68, 120]),
  (12, ⟨"RaftTownModel", "rope", "(II)I"⟩, prog_14_method_47_code, 3, (some .int), 2, 1, [1688, 1686, 1687, 120]),
  (12, ⟨"RaftTownModel", "isRope", "(I)Z"⟩, prog_14_method_7_code, 2, (some .boolean), 1, 1, [1692, 1691, 69, 120]),
  (12, ⟨"RaftTownModel", "strengthOf", "(I)I"⟩, prog_14_method_41_code, 3, (some .int), 1, 1, [1696, 1695, 70, 120]),
  (12, ⟨"RaftTownModel", "weighs", "()V"⟩, prog_14_method_43_code, 2, (none), 0, 1, [1700, 1699, 71, 120]),
  (12, ⟨"RaftTownModel", "hangOf", "(II)I"⟩, prog_14_method_44_code, 8, (some .int), 2, 1, [1704, 1703, 72, 120]),
  (12, ⟨"RaftTownModel", "weightOfAll", "(I)I"⟩, prog_14_method_42_code, 4, (some .int), 1, 1, [1708, 1707, 73, 120]),
  (12, ⟨"RaftTownModel", "bears", "(II)I"⟩, prog_14_method_48_code, 3, (some .int), 2, 1, [1712, 1710, 1711, 120]),
  (12, ⟨"RaftTownModel", "isWaves", "(I)Z"⟩, prog_14_method_8_code, 1, (some .boolean), 1, 0, [1715, 1714, 0, 120]),
  (12, ⟨"RaftTownModel", "loadOf", "(III)I"⟩, prog_14_method_45_code, 4, (some .int), 3, 1, [1719, 1718, 74, 120]),
  (12, ⟨"RaftTownModel", "worst", "(II)I"⟩, prog_14_method_49_code, 6, (some .int), 2, 1, [1723, 1721, 1722, 120]),
  (12, ⟨"RaftTownModel", "partsFirst", "(II)I"⟩, prog_14_method_46_code, 7, (some .int), 2, 1, [1727, 1726, 75, 120]),
  (12, ⟨"RaftTownModel", "events", "(I)I"⟩, prog_14_method_52_code, 4, (some .int), 1, 1, [1731, 1729, 1730, 120]),
  (12, ⟨"RaftTownModel", "event", "(II)I"⟩, prog_14_method_53_code, 3, (some .int), 2, 1, [1735, 1733, 1734, 120]),
  (12, ⟨"RaftTownModel", "day", "(II)I"⟩, prog_14_method_65_code, 3, (some .int), 2, 1, [1739, 1737, 1738, 120]),
  (12, ⟨"RaftTownModel", "passes", "(II)I"⟩, prog_14_method_64_code, 4, (some .int), 2, 1, [1743, 1742, 76, 120]),
  (12, ⟨"RaftTownModel", "partsAll", "(I)I"⟩, prog_14_method_55_code, 5, (some .int), 1, 1, [1747, 1746, 77, 120]),
  (12, ⟨"RaftTownModel", "rains", "(I)V"⟩, prog_14_method_56_code, 4, (none), 1, 1, [1751, 1750, 78, 120]),
  (12, ⟨"RaftTownModel", "drinks", "(I)Z"⟩, prog_14_method_57_code, 2, (some .boolean), 1, 1, [1755, 1754, 79, 120]),
  (12, ⟨"RaftTownModel", "allDrink", "()V"⟩, prog_14_method_58_code, 6, (none), 0, 1, [1759, 1758, 80, 120]),
  (12, ⟨"RaftTownModel", "loses", "(II)V"⟩, prog_14_method_54_code, 3, (none), 2, 1, [1763, 1762, 81, 120]),
  (12, ⟨"RaftTownModel", "ropesAge", "(I)V"⟩, prog_14_method_59_code, 3, (none), 1, 1, [1767, 1766, 82, 120]),
  (12, ⟨"RaftTownModel", "rots", "()V"⟩, prog_14_method_61_code, 2, (none), 0, 1, [1771, 1770, 83, 120])]
def mm_mths_7 : List mm_Mt := [
  (12, ⟨"RaftTownModel", "sinks", "(I)V"⟩, prog_14_method_60_code, 5, (none), 1, 1, [1775, 1774, 84, 120]),
  (12, ⟨"RaftTownModel", "drifts", "()V"⟩, prog_14_method_63_code, 2, (none), 0, 1, [1779, 1778, 85, 120]),
  (12, ⟨"RaftTownModel", "leads", "(II)I"⟩, prog_14_method_62_code, 5, (some .int), 2, 1, [1783, 1782, 86, 120]),
  (12, ⟨"RaftTownModel", "days", "(II)I"⟩, prog_14_method_66_code, 8, (some .int), 2, 1, [1787, 1785, 1786, 120]),
  (12, ⟨"RaftTownModel", "isSheet", "(I)Z"⟩, prog_14_method_107_code, 1, (some .boolean), 1, 0, [1790, 1789, 0, 120]),
  (12, ⟨"RaftTownModel", "lasts", "(I)I"⟩, prog_14_method_69_code, 5, (some .int), 1, 1, [1794, 1792, 1793, 120]),
  (12, ⟨"RaftTownModel", "headsOf", "(I)I"⟩, prog_14_method_67_code, 4, (some .int), 1, 1, [1798, 1797, 87, 120]),
  (12, ⟨"RaftTownModel", "waterOf", "(I)I"⟩, prog_14_method_68_code, 4, (some .int), 1, 1, [1802, 1801, 88, 120]),
  (12, ⟨"RaftTownModel", "feed", "(IJ)I"⟩, prog_14_method_70_code, 5, (some .int), 2, 1, [1806, 1804, 1805, 120]),
  (12, ⟨"RaftTownModel", "text", "(I)I"⟩, prog_14_method_84_code, 4, (some .int), 1, 1, [1810, 1808, 1809, 120]),
  (12, ⟨"RaftTownModel", "reads", "()Z"⟩, prog_14_method_83_code, 2, (some .boolean), 0, 1, [1814, 1813, 89, 120]),
  (12, ⟨"RaftTownModel", "looks", "()V"⟩, prog_14_method_76_code, 2, (none), 0, 1, [1818, 1817, 90, 120]),
  (12, ⟨"RaftTownModel", "byteAt", "(I)I"⟩, prog_14_method_71_code, 2, (some .int), 1, 1, [1822, 1821, 91, 120]),
  (12, ⟨"RaftTownModel", "isLetter", "(I)Z"⟩, prog_14_method_72_code, 1, (some .boolean), 1, 0, [1825, 1824, 0, 120]),
  (12, ⟨"RaftTownModel", "wordOf", "()I"⟩, prog_14_method_75_code, 4, (some .int), 0, 1, [1829, 1828, 92, 120]),
  (12, ⟨"RaftTownModel", "isDigit", "(I)Z"⟩, prog_14_method_73_code, 1, (some .boolean), 1, 0, [1832, 1831, 0, 120]),
  (12, ⟨"RaftTownModel", "isSign", "(I)Z"⟩, prog_14_method_74_code, 1, (some .boolean), 1, 0, [1835, 1834, 0, 120]),
  (12, ⟨"RaftTownModel", "readsE", "(I)Z"⟩, prog_14_method_82_code, 5, (some .boolean), 1, 1, [1839, 1838, 93, 120]),
  (12, ⟨"RaftTownModel", "waitsOf", "(I)I"⟩, prog_14_method_80_code, 4, (some .int), 1, 1, [1843, 1842, 94, 120]),
  (12, ⟨"RaftTownModel", "lays", "(I)V"⟩, prog_14_method_78_code, 2, (none), 1, 1, [1847, 1846, 95, 120]),
  (12, ⟨"RaftTownModel", "settles", "(I)V"⟩, prog_14_method_79_code, 2, (none), 1, 1, [1851, 1850, 96, 120]),
  (12, ⟨"RaftTownModel", "rankOf", "(I)I"⟩, prog_14_method_77_code, 1, (some .int), 1, 0, [1854, 1853, 0, 120]),
  (12, ⟨"RaftTownModel", "isTested", "()Z"⟩, prog_14_method_81_code, 2, (some .boolean), 0, 1, [1858, 1857, 97, 120]),
  (12, ⟨"RaftTownModel", "force", "(II)I"⟩, prog_14_method_87_code, 5, (some .int), 2, 1, [1862, 1860, 1861, 120]),
  (12, ⟨"RaftTownModel", "law", "(I)I"⟩, prog_14_method_89_code, 3, (some .int), 1, 1, [1866, 1864, 1865, 120]),
  (12, ⟨"RaftTownModel", "lawOf", "(I)I"⟩, prog_14_method_88_code, 4, (some .int), 1, 1, [1870, 1869, 98, 120]),
  (12, ⟨"RaftTownModel", "cut", "(I)I"⟩, prog_14_method_93_code, 4, (some .int), 1, 1, [1874, 1872, 1873, 120]),
  (12, ⟨"RaftTownModel", "cutOf", "(IIII)I"⟩, prog_14_method_92_code, 5, (some .int), 4, 1, [1878, 1877, 99, 120]),
  (12, ⟨"RaftTownModel", "namesOf", "(I)V"⟩, prog_14_method_90_code, 3, (none), 1, 1, [1882, 1881, 100, 120]),
  (12, ⟨"RaftTownModel", "kinOn", "(II)I"⟩, prog_14_method_91_code, 6, (some .int), 2, 1, [1886, 1885, 101, 120]),
  (12, ⟨"RaftTownModel", "worth", "(II)I"⟩, prog_14_method_86_code, 7, (some .int), 2, 1, [1890, 1889, 102, 120]),
  (12, ⟨"RaftTownModel", "done", "(III)I"⟩, prog_14_method_85_code, 3, (some .int), 3, 0, [1893, 1892, 0, 120]),
  (12, ⟨"RaftTownModel", "may", "(II)I"⟩, prog_14_method_94_code, 5, (some .int), 2, 1, [1898, 1896, 1897, 120]),
  (12, ⟨"RaftTownModel", "must", "(II)I"⟩, prog_14_method_95_code, 4, (some .int), 2, 1, [1902, 1900, 1901, 120]),
  (12, ⟨"RaftTownModel", "speaks", "(I)I"⟩, prog_14_method_96_code, 8, (some .int), 1, 1, [1906, 1904, 1905, 120]),
  (12, ⟨"RaftTownModel", "lash", "(II)I"⟩, prog_14_method_98_code, 7, (some .int), 2, 1, [1910, 1908, 1909, 120]),
  (12, ⟨"RaftTownModel", "ones", "(I)I"⟩, prog_14_method_35_code, 3, (some .int), 1, 0, [1913, 1912, 0, 120]),
  (12, ⟨"RaftTownModel", "holds", "(II)Z"⟩, prog_14_method_97_code, 3, (some .boolean), 2, 1, [1917, 1916, 103, 120]),
  (12, ⟨"RaftTownModel", "storm", "(IZ)I"⟩, prog_14_method_100_code, 8, (some .int), 2, 1, [1921, 1919, 1920, 120]),
  (12, ⟨"RaftTownModel", "lostBy", "(II)I"⟩, prog_14_method_99_code, 6, (some .int), 2, 1, [1925, 1924, 104, 120])]
def mm_mths_8 : List mm_Mt := [
  (12, ⟨"RaftTownModel", "proves", "(III)I"⟩, prog_14_method_101_code, 8, (some .int), 3, 1, [1929, 1927, 1928, 120]),
  (12, ⟨"RaftTownModel", "patch", "(II)I"⟩, prog_14_method_105_code, 7, (some .int), 2, 1, [1933, 1931, 1932, 120]),
  (12, ⟨"RaftTownModel", "hasSail", "(I)Z"⟩, prog_14_method_102_code, 3, (some .boolean), 1, 1, [1937, 1936, 105, 120]),
  (12, ⟨"RaftTownModel", "areNext", "(II)Z"⟩, prog_14_method_103_code, 4, (some .boolean), 2, 0, [1940, 1939, 0, 120]),
  (12, ⟨"RaftTownModel", "copies", "()V"⟩, prog_14_method_104_code, 2, (none), 0, 1, [1944, 1943, 106, 120]),
  (12, ⟨"RaftTownModel", "tow", "(II)I"⟩, prog_14_method_106_code, 8, (some .int), 2, 1, [1948, 1946, 1947, 120]),
  (12, ⟨"RaftTownModel", "sheet", "(III)I"⟩, prog_14_method_108_code, 5, (some .int), 3, 1, [1952, 1950, 1951, 120]),
  (12, ⟨"RaftTownModel", "put", "(III)I"⟩, prog_14_method_109_code, 4, (some .int), 3, 1, [1956, 1954, 1955, 120]),
  (12, ⟨"RaftTownModel", "copy", "(IIIII)I"⟩, prog_14_method_110_code, 7, (some .int), 5, 1, [1960, 1958, 1959, 120]),
  (12, ⟨"RaftTownModel", "image", "()I"⟩, prog_14_method_111_code, 2, (some .int), 0, 1, [1964, 1962, 1963, 120]),
  (12, ⟨"RaftTownModel", "restore", "()I"⟩, prog_14_method_112_code, 2, (some .int), 0, 1, [1968, 1966, 1967, 120]),
  (12, ⟨"RaftTownModel", "count", "(I)I"⟩, prog_14_method_113_code, 4, (some .int), 1, 1, [1972, 1970, 1971, 120])]
def mm_mths : List mm_Mt := mm_mths_0 ++ (mm_mths_1 ++ (mm_mths_2 ++ (mm_mths_3 ++ (mm_mths_4 ++ (mm_mths_5 ++ (mm_mths_6 ++ (mm_mths_7 ++ (mm_mths_8))))))))
/-- what a class's pool says, as far as it is used: entry, kind, two numbers, a value, the word's place -/
abbrev mm_Pe : Type := Nat × Nat × Nat × Nat × Int × Nat
def mm_pool (o : Nat) : List mm_Pe := match o with
  | 0 => [(3, 8, 0, 0, 0, 482), (9, 0, 0, 0, 0, 483), (15, 0, 0, 1, 0, 484), (18, 2, 31, 0, 0, 778), (24, 2, 72, 0, 0, 779), (27, 1, 2, 4, 0, 460), (33, 2, 73, 0, 0, 783), (37, 2, 32, 0, 0, 795), (43, 1, 5, 5, 0, 307), (46, 1, 5, 0, 0, 294), (49, 1, 5, 1, 0, 299), (52, 2, 76, 0, 0, 796), (56, 2, 36, 0, 0, 819), (60, 2, 81, 0, 0, 820), (64, 2, 55, 0, 0, 1244), (67, 2, 77, 0, 0, 1245), (70, 2, 80, 0, 0, 1246), (75, 2, 30, 0, 0, 1247), (79, 1, 3, 1, 0, 256), (84, 2, 82, 0, 0, 824), (87, 2, 83, 0, 0, 828), (90, 1, 10, 9, 0, 367), (93, 0, 0, 2, 0, 485), (96, 2, 89, 0, 0, 853), (101, 2, 90, 0, 0, 859), (104, 1, 9, 1, 0, 341), (107, 2, 91, 0, 0, 863), (111, 2, 92, 0, 0, 867), (114, 2, 93, 0, 0, 871)]
  | 1 => [(3, 8, 0, 0, 0, 172), (9, 0, 1, 0, 0, 173), (15, 0, 1, 1, 0, 174), (18, 0, 1, 2, 0, 175), (21, 0, 1, 3, 0, 176), (24, 0, 1, 6, 0, 180), (27, 0, 1, 7, 0, 181), (30, 9, 0, 0, 0, 1418), (36, 0, 1, 4, 0, 177), (40, 0, 1, 5, 0, 178), (43, 0, 1, 8, 0, 182), (46, 2, 65, 0, 0, 750), (50, 2, 64, 0, 0, 1214), (54, 3, 14, 0, 0, 841)]
  | 2 => [(3, 8, 0, 0, 0, 454), (9, 0, 2, 0, 0, 455), (15, 0, 2, 1, 0, 456), (18, 0, 2, 2, 0, 457), (21, 0, 2, 3, 0, 458), (24, 0, 2, 5, 0, 463), (28, 2, 20, 0, 0, 589), (34, 2, 28, 0, 0, 590), (40, 2, 23, 0, 0, 600), (44, 1, 4, 6, 0, 228), (48, 2, 30, 0, 0, 601), (52, 1, 3, 6, 0, 269), (57, 1, 3, 0, 0, 252), (60, 3, 14, 0, 0, 605), (64, 0, 2, 4, 0, 459), (67, 2, 31, 0, 0, 606), (71, 1, 5, 0, 0, 293), (76, 1, 5, 1, 0, 298), (79, 2, 32, 0, 0, 610), (81, 2, 34, 0, 0, 617), (85, 2, 35, 0, 0, 621), (91, 1, 5, 7, 0, 313), (94, 2, 37, 0, 0, 630), (97, 2, 36, 0, 0, 667), (100, 3, 46, 0, 0, 668), (104, 2, 75, 0, 0, 791), (107, 2, 74, 0, 0, 787), (110, 2, 73, 0, 0, 913), (114, 2, 102, 0, 0, 909), (117, 2, 185, 0, 0, 1284), (120, 2, 184, 0, 0, 1280), (123, 2, 182, 0, 0, 1272), (126, 2, 183, 0, 0, 1276), (129, 2, 186, 0, 0, 1288), (132, 2, 80, 0, 0, 1292), (137, 2, 187, 0, 0, 1293), (140, 2, 101, 0, 0, 1313), (143, 2, 190, 0, 0, 1305), (146, 2, 191, 0, 0, 1309), (149, 2, 126, 0, 0, 1324)]
  | 3 => [(1, 8, 0, 0, 0, 250), (7, 0, 3, 6, 0, 268), (13, 0, 3, 0, 0, 251), (17, 0, 3, 1, 0, 255), (20, 0, 3, 2, 0, 258), (23, 0, 3, 3, 0, 260), (26, 2, 50, 0, 0, 1408), (30, 0, 3, 4, 0, 262), (33, 0, 3, 5, 0, 265)]
  | 4 => [(3, 8, 0, 0, 0, 209), (9, 0, 4, 0, 0, 210), (15, 0, 4, 1, 0, 213), (18, 0, 4, 2, 0, 216), (21, 0, 4, 3, 0, 219), (24, 2, 21, 0, 0, 1403), (28, 0, 4, 4, 0, 221), (31, 0, 4, 5, 0, 224), (34, 0, 4, 6, 0, 227), (38, 3, 18, 0, 0, 573), (42, 11, 0, 0, 0, 574), (46, 11, 1, 0, 0, 598), (49, 2, 29, 0, 0, 594), (53, 2, 43, 0, 0, 654)]
  | 5 => [(1, 8, 0, 0, 0, 291), (7, 0, 5, 0, 0, 292), (13, 0, 5, 2, 0, 301), (16, 0, 5, 1, 0, 297), (19, 0, 5, 3, 0, 303), (22, 0, 5, 4, 0, 305), (25, 2, 63, 0, 0, 1413), (29, 0, 5, 5, 0, 306), (32, 0, 5, 6, 0, 310), (35, 0, 5, 7, 0, 312), (39, 2, 33, 0, 0, 614)]
  | 6 => [(3, 8, 0, 0, 0, 148), (9, 0, 6, 0, 0, 149), (15, 0, 6, 1, 0, 150), (18, 0, 6, 2, 0, 151), (22, 9, 0, 0, 0, 1398), (28, 3, 13, 0, 0, 538), (32, 3, 14, 0, 0, 1002), (36, 2, 122, 0, 0, 999), (40, 2, 121, 0, 0, 995), (44, 2, 120, 0, 0, 1337), (48, 11, 7, 0, 0, 1338), (51, 11, 8, 0, 0, 1340), (54, 2, 197, 0, 0, 1342), (58, 2, 198, 0, 0, 1346)]
  | 7 => [(3, 8, 0, 0, 0, 404), (9, 0, 7, 2, 0, 409), (15, 0, 7, 0, 0, 405), (19, 0, 7, 1, 0, 407), (22, 3, 14, 0, 0, 1018), (26, 6, 0, 0, 65535, 1376)]
  | 8 => [(3, 8, 0, 0, 0, 423), (9, 0, 8, 0, 0, 426), (15, 4, 9, 333, 115, 424), (17, 3, 7, 0, 0, 425), (18, 0, 8, 2, 0, 428), (22, 0, 8, 1, 0, 427), (26, 7, 0, 0, 255, 1041), (28, 0, 8, 3, 0, 430), (31, 2, 134, 0, 0, 1051), (34, 2, 135, 0, 0, 1055), (37, 2, 155, 0, 0, 1152), (41, 0, 8, 4, 0, 431), (44, 0, 8, 5, 0, 432), (47, 2, 156, 0, 0, 1156), (51, 2, 157, 0, 0, 1160), (54, 2, 165, 0, 0, 1193), (58, 2, 158, 0, 0, 1164), (61, 2, 164, 0, 0, 1188), (64, 2, 159, 0, 0, 1168), (67, 2, 160, 0, 0, 1172), (70, 2, 161, 0, 0, 1176), (73, 2, 162, 0, 0, 1180), (76, 0, 8, 6, 0, 433), (79, 2, 163, 0, 0, 1184), (82, 2, 136, 0, 0, 1059), (86, 2, 137, 0, 0, 1063), (89, 2, 138, 0, 0, 1067), (92, 2, 152, 0, 0, 1142), (95, 2, 153, 0, 0, 1145), (98, 2, 154, 0, 0, 1149), (101, 2, 139, 0, 0, 1071), (105, 2, 140, 0, 0, 1090), (109, 2, 141, 0, 0, 1094), (114, 2, 143, 0, 0, 1104), (118, 3, 14, 0, 0, 1066)]
  | 9 => [(3, 8, 0, 0, 0, 337), (9, 0, 9, 1, 0, 340), (15, 0, 9, 2, 0, 342), (18, 0, 9, 0, 0, 338), (22, 0, 9, 3, 0, 343), (26, 9, 0, 0, 0, 1202), (32, 2, 163, 0, 0, 1192), (36, 3, 14, 0, 0, 857), (40, 2, 35, 0, 0, 858)]
  | 10 => [(3, 8, 0, 0, 0, 142), (9, 4, 6, 144, 110, 143), (11, 3, 2, 0, 0, 145), (12, 0, 10, 0, 0, 353), (18, 4, 4, 205, 112, 161), (20, 0, 10, 1, 0, 355), (24, 4, 3, 246, 113, 163), (26, 0, 10, 3, 0, 358), (30, 4, 5, 287, 114, 165), (32, 0, 10, 5, 0, 361), (36, 4, 1, 168, 111, 167), (38, 3, 3, 0, 0, 169), (39, 0, 10, 7, 0, 363), (43, 4, 9, 333, 115, 203), (45, 0, 10, 8, 0, 365), (49, 3, 4, 0, 0, 206), (50, 3, 5, 0, 0, 247), (51, 3, 6, 0, 0, 288), (52, 3, 7, 0, 0, 334), (53, 2, 209, 0, 0, 1394), (57, 2, 210, 0, 0, 1399), (60, 0, 10, 2, 0, 356), (64, 2, 211, 0, 0, 1404), (67, 0, 10, 4, 0, 359), (70, 2, 212, 0, 0, 1409), (73, 0, 10, 6, 0, 362), (76, 2, 213, 0, 0, 1414), (79, 2, 166, 0, 0, 1419), (82, 0, 10, 9, 0, 366), (85, 0, 10, 10, 0, 369), (88, 0, 10, 11, 0, 371), (91, 3, 14, 0, 0, 555), (95, 3, 87, 0, 0, 846), (99, 2, 85, 0, 0, 837), (103, 2, 86, 0, 0, 842), (107, 2, 20, 0, 0, 551), (111, 2, 21, 0, 0, 556), (115, 2, 30, 0, 0, 686), (119, 2, 50, 0, 0, 687), (122, 2, 61, 0, 0, 732), (126, 1, 4, 0, 0, 212), (129, 1, 5, 7, 0, 315), (133, 2, 33, 0, 0, 740), (139, 2, 57, 0, 0, 717), (142, 1, 3, 2, 0, 259), (145, 1, 3, 3, 0, 261), (148, 1, 3, 4, 0, 264), (151, 2, 56, 0, 0, 713), (154, 2, 78, 0, 0, 804), (157, 2, 77, 0, 0, 800), (160, 2, 80, 0, 0, 813), (165, 2, 79, 0, 0, 808), (168, 2, 55, 0, 0, 812), (171, 3, 46, 0, 0, 832), (174, 1, 4, 4, 0, 223), (177, 1, 4, 6, 0, 230), (180, 1, 3, 6, 0, 271), (183, 1, 4, 5, 0, 226), (186, 2, 27, 0, 0, 929), (192, 2, 107, 0, 0, 930), (196, 2, 109, 0, 0, 942), (200, 2, 110, 0, 0, 950), (203, 2, 111, 0, 0, 954), (207, 2, 115, 0, 0, 971), (211, 2, 116, 0, 0, 975), (214, 2, 119, 0, 0, 987), (217, 1, 2, 4, 0, 462), (220, 2, 102, 0, 0, 934), (223, 2, 31, 0, 0, 935), (227, 1, 5, 0, 0, 296), (228, 2, 36, 0, 0, 936), (231, 2, 64, 0, 0, 937), (234, 2, 108, 0, 0, 938), (237, 2, 29, 0, 0, 946), (241, 2, 41, 0, 0, 947), (244, 2, 35, 0, 0, 948), (247, 2, 42, 0, 0, 949), (251, 1, 3, 0, 0, 254), (254, 2, 112, 0, 0, 958), (258, 2, 113, 0, 0, 962), (261, 1, 3, 5, 0, 267), (264, 2, 114, 0, 0, 967), (267, 3, 38, 0, 0, 966), (270, 1, 5, 5, 0, 309), (273, 1, 5, 6, 0, 311), (276, 1, 4, 2, 0, 218), (279, 2, 117, 0, 0, 979), (283, 2, 118, 0, 0, 983), (286, 1, 4, 1, 0, 215), (289, 2, 120, 0, 0, 991)]
  | 11 => [(1, 8, 0, 0, 0, 134), (7, 4, 10, 138, 109, 137), (9, 2, 1, 0, 0, 139), (10, 0, 11, 0, 0, 493), (16, 0, 11, 1, 0, 494), (19, 0, 11, 2, 0, 495), (23, 4, 7, 400, 116, 398), (25, 0, 11, 3, 0, 496), (29, 3, 8, 0, 0, 401), (30, 4, 8, 419, 117, 418), (32, 3, 9, 0, 0, 420), (33, 0, 11, 4, 0, 497), (37, 4, 2, 450, 118, 449), (39, 3, 10, 0, 0, 451), (40, 0, 11, 5, 0, 498), (44, 4, 0, 478, 119, 477), (46, 3, 11, 0, 0, 479), (47, 0, 11, 6, 0, 499), (51, 0, 11, 7, 0, 500), (55, 2, 13, 0, 0, 522), (59, 2, 14, 0, 0, 525), (63, 6, 0, 0, -100001, 528), (64, 2, 15, 0, 0, 529), (68, 1, 10, 0, 0, 354), (72, 2, 16, 0, 0, 534), (78, 2, 18, 0, 0, 543), (81, 1, 10, 2, 0, 357), (84, 6, 0, 0, -100005, 546), (85, 2, 19, 0, 0, 547), (89, 2, 23, 0, 0, 564), (92, 2, 20, 0, 0, 568), (96, 2, 24, 0, 0, 569), (101, 6, 0, 0, -100004, 576), (102, 1, 4, 0, 0, 211), (105, 1, 4, 1, 0, 214), (108, 1, 4, 2, 0, 217), (111, 1, 4, 3, 0, 220), (114, 1, 4, 4, 0, 222), (117, 1, 4, 5, 0, 225), (120, 2, 26, 0, 0, 581), (124, 2, 34, 0, 0, 624), (127, 2, 29, 0, 0, 625), (131, 2, 36, 0, 0, 626), (134, 2, 38, 0, 0, 634), (137, 1, 4, 6, 0, 229), (140, 6, 0, 0, -100006, 645), (141, 2, 41, 0, 0, 646), (144, 2, 42, 0, 0, 650), (148, 6, 0, 0, -100003, 662), (149, 2, 45, 0, 0, 663), (153, 6, 0, 0, -100008, 671), (154, 2, 43, 0, 0, 672), (158, 6, 0, 0, -100002, 673), (159, 2, 48, 0, 0, 678), (162, 1, 10, 4, 0, 360), (165, 2, 49, 0, 0, 682), (168, 2, 52, 0, 0, 695), (171, 2, 30, 0, 0, 699), (175, 1, 3, 6, 0, 270), (180, 1, 3, 4, 0, 263), (183, 6, 0, 0, -100007, 700), (184, 1, 3, 0, 0, 253), (187, 1, 3, 1, 0, 257), (190, 1, 3, 5, 0, 266), (193, 2, 55, 0, 0, 709), (196, 2, 59, 0, 0, 725), (199, 2, 60, 0, 0, 728), (202, 2, 62, 0, 0, 736), (205, 2, 31, 0, 0, 741), (209, 2, 63, 0, 0, 742), (215, 1, 10, 7, 0, 364), (219, 1, 10, 9, 0, 368), (222, 2, 64, 0, 0, 746), (228, 2, 66, 0, 0, 754), (232, 2, 68, 0, 0, 762), (235, 1, 5, 7, 0, 314), (238, 1, 5, 0, 0, 295), (241, 2, 69, 0, 0, 766), (244, 2, 70, 0, 0, 770), (248, 6, 0, 0, -100009, 874), (249, 2, 94, 0, 0, 875), (252, 1, 5, 1, 0, 300), (255, 2, 32, 0, 0, 883), (258, 1, 5, 5, 0, 308), (261, 1, 2, 4, 0, 461), (264, 2, 74, 0, 0, 884), (268, 1, 5, 2, 0, 302), (271, 1, 5, 3, 0, 304), (274, 2, 97, 0, 0, 889), (277, 2, 73, 0, 0, 892), (280, 2, 101, 0, 0, 905), (283, 2, 103, 0, 0, 914), (286, 2, 105, 0, 0, 922), (289, 2, 106, 0, 0, 925), (293, 2, 124, 0, 0, 1007), (296, 2, 125, 0, 0, 1010), (300, 2, 126, 0, 0, 1014), (303, 2, 82, 0, 0, 1023), (306, 2, 128, 0, 0, 1024), (309, 2, 83, 0, 0, 1028), (312, 2, 130, 0, 0, 1033), (315, 2, 131, 0, 0, 1037), (319, 2, 87, 0, 0, 1046), (322, 2, 133, 0, 0, 1047), (325, 2, 86, 0, 0, 1197), (329, 1, 8, 2, 0, 429), (333, 2, 166, 0, 0, 1198), (339, 1, 9, 0, 0, 339), (342, 1, 1, 8, 0, 183), (345, 2, 168, 0, 0, 1210), (348, 2, 170, 0, 0, 1219), (351, 2, 173, 0, 0, 1231), (355, 2, 84, 0, 0, 833), (358, 2, 88, 0, 0, 849), (362, 2, 78, 0, 0, 1239), (365, 2, 175, 0, 0, 1240), (369, 1, 1, 5, 0, 179), (372, 2, 177, 0, 0, 1252), (375, 2, 179, 0, 0, 1260), (378, 2, 181, 0, 0, 1268), (381, 2, 189, 0, 0, 1301), (384, 2, 191, 0, 0, 1314), (387, 2, 80, 0, 0, 1319), (392, 1, 7, 1, 0, 408), (395, 2, 193, 0, 0, 1320), (399, 2, 195, 0, 0, 1329), (402, 2, 196, 0, 0, 1333), (406, 2, 200, 0, 0, 1356), (409, 2, 202, 0, 0, 1364), (412, 2, 204, 0, 0, 1372), (416, 1, 7, 0, 0, 406), (419, 2, 206, 0, 0, 1381), (422, 1, 7, 2, 0, 410), (426, 9, 0, 0, 0, 1385), (432, 2, 208, 0, 0, 1390), (435, 2, 216, 0, 0, 1428), (438, 2, 217, 0, 0, 1432), (441, 2, 218, 0, 0, 1436), (444, 2, 219, 0, 0, 1440), (447, 1, 10, 10, 0, 370), (450, 1, 10, 11, 0, 372), (453, 6, 0, 0, -99999, 533), (454, 2, 27, 0, 0, 585), (457, 2, 71, 0, 0, 774), (461, 2, 39, 0, 0, 637)]
  | 12 => [(1, 8, 0, 0, 0, 1449), (7, 0, 12, 0, 0, 1450), (13, 0, 12, 1, 0, 1451), (16, 0, 12, 4, 0, 1454), (19, 0, 12, 5, 0, 1455), (23, 0, 12, 7, 0, 1457), (27, 0, 12, 8, 0, 1458), (30, 0, 12, 9, 0, 1459), (33, 0, 12, 10, 0, 1460), (36, 0, 12, 11, 0, 1461), (39, 0, 12, 18, 0, 1468), (42, 0, 12, 19, 0, 1469), (45, 0, 12, 20, 0, 1470), (49, 0, 12, 21, 0, 1471), (52, 0, 12, 22, 0, 1472), (55, 0, 12, 23, 0, 1473), (58, 0, 12, 24, 0, 1474), (61, 0, 12, 25, 0, 1475), (64, 0, 12, 3, 0, 1453), (68, 2, 222, 0, 0, 1535), (72, 2, 228, 0, 0, 1560), (76, 6, 0, 0, -100001, 1538), (77, 2, 223, 0, 0, 1539), (81, 6, 0, 0, -100005, 1547), (82, 2, 225, 0, 0, 1548), (86, 2, 227, 0, 0, 1556), (90, 6, 0, 0, -100004, 1564), (91, 2, 231, 0, 0, 1573), (95, 2, 234, 0, 0, 1585), (98, 2, 230, 0, 0, 1569), (101, 2, 235, 0, 0, 1589), (105, 2, 238, 0, 0, 1601), (108, 2, 239, 0, 0, 1605), (111, 2, 241, 0, 0, 1612), (114, 6, 0, 0, -100006, 1616), (115, 2, 242, 0, 0, 1617), (118, 6, 0, 0, -100003, 1625), (119, 6, 0, 0, -100008, 1626), (120, 6, 0, 0, -100002, 1627), (121, 2, 233, 0, 0, 1581), (124, 2, 232, 0, 0, 1577), (127, 2, 246, 0, 0, 1636), (130, 6, 0, 0, -100007, 1640), (131, 2, 250, 0, 0, 1653), (134, 2, 249, 0, 0, 1649), (137, 2, 237, 0, 0, 1597), (140, 2, 236, 0, 0, 1593), (143, 2, 252, 0, 0, 1661), (146, 2, 255, 0, 0, 1673), (149, 2, 256, 0, 0, 1677), (153, 2, 257, 0, 0, 1681), (156, 2, 263, 0, 0, 1705), (159, 2, 262, 0, 0, 1701), (162, 2, 266, 0, 0, 1716), (166, 2, 260, 0, 0, 1693), (169, 2, 259, 0, 0, 1689), (172, 2, 261, 0, 0, 1697), (175, 2, 265, 0, 0, 1713), (178, 2, 268, 0, 0, 1724), (181, 2, 275, 0, 0, 1752), (184, 2, 277, 0, 0, 1760), (188, 2, 280, 0, 0, 1772), (191, 2, 282, 0, 0, 1780), (194, 2, 273, 0, 0, 1744), (197, 2, 274, 0, 0, 1748), (200, 2, 276, 0, 0, 1756), (203, 2, 278, 0, 0, 1764), (206, 2, 279, 0, 0, 1768), (209, 2, 281, 0, 0, 1776), (212, 2, 272, 0, 0, 1740), (215, 2, 284, 0, 0, 1788), (218, 2, 286, 0, 0, 1795), (221, 2, 287, 0, 0, 1799), (224, 0, 12, 6, 0, 1456), (227, 0, 12, 13, 0, 1463), (230, 0, 12, 12, 0, 1462), (233, 2, 292, 0, 0, 1819), (236, 0, 12, 14, 0, 1464), (239, 2, 293, 0, 0, 1823), (242, 2, 294, 0, 0, 1826), (245, 2, 295, 0, 0, 1830), (248, 0, 12, 15, 0, 1465), (251, 2, 296, 0, 0, 1833), (254, 0, 12, 16, 0, 1466), (257, 0, 12, 17, 0, 1467), (260, 2, 301, 0, 0, 1852), (263, 2, 299, 0, 0, 1844), (266, 2, 291, 0, 0, 1815), (269, 2, 298, 0, 0, 1840), (272, 2, 300, 0, 0, 1848), (275, 2, 302, 0, 0, 1855), (279, 2, 297, 0, 0, 1836), (282, 2, 290, 0, 0, 1811), (285, 2, 311, 0, 0, 1891), (288, 2, 305, 0, 0, 1867), (291, 2, 308, 0, 0, 1879), (294, 2, 309, 0, 0, 1883), (297, 2, 310, 0, 0, 1887), (300, 2, 307, 0, 0, 1875), (304, 6, 0, 0, -100009, 1894), (305, 2, 316, 0, 0, 1911), (308, 2, 317, 0, 0, 1914), (311, 2, 319, 0, 0, 1922), (314, 2, 322, 0, 0, 1934), (317, 2, 323, 0, 0, 1938), (320, 2, 324, 0, 0, 1941), (323, 0, 12, 2, 0, 1452)]
  | 13 => [(7, 4, 11, 130, 108, 129), (9, 2, 0, 0, 0, 131), (10, 4, 12, 1445, 120, 1444), (12, 2, 220, 0, 0, 1446), (13, 2, 12, 0, 0, 518), (17, 2, 221, 0, 0, 1531), (18, 2, 17, 0, 0, 539), (22, 2, 224, 0, 0, 1543), (23, 2, 22, 0, 0, 560), (27, 2, 226, 0, 0, 1552), (28, 2, 25, 0, 0, 577), (31, 2, 229, 0, 0, 1565), (32, 2, 40, 0, 0, 641), (36, 2, 240, 0, 0, 1608), (37, 2, 44, 0, 0, 658), (41, 2, 243, 0, 0, 1621), (42, 2, 47, 0, 0, 674), (45, 2, 244, 0, 0, 1628), (46, 2, 51, 0, 0, 691), (49, 2, 245, 0, 0, 1632), (50, 2, 53, 0, 0, 701), (53, 2, 247, 0, 0, 1641), (54, 2, 54, 0, 0, 705), (57, 2, 248, 0, 0, 1645), (58, 2, 58, 0, 0, 721), (62, 2, 254, 0, 0, 1669), (63, 2, 67, 0, 0, 758), (67, 2, 306, 0, 0, 1871), (68, 2, 95, 0, 0, 879), (71, 2, 258, 0, 0, 1685), (72, 2, 96, 0, 0, 885), (75, 2, 264, 0, 0, 1709), (76, 2, 98, 0, 0, 893), (80, 2, 251, 0, 0, 1657), (81, 2, 99, 0, 0, 897), (84, 2, 253, 0, 0, 1665), (85, 2, 100, 0, 0, 901), (88, 2, 267, 0, 0, 1720), (89, 2, 104, 0, 0, 918), (92, 2, 271, 0, 0, 1736), (93, 2, 123, 0, 0, 1003), (96, 2, 283, 0, 0, 1784), (97, 2, 127, 0, 0, 1019), (100, 2, 285, 0, 0, 1791), (101, 7, 0, 0, 4294967295, 1973), (103, 2, 129, 0, 0, 1029), (107, 2, 288, 0, 0, 1803), (108, 2, 132, 0, 0, 1042), (111, 2, 289, 0, 0, 1807), (112, 2, 167, 0, 0, 1206), (115, 2, 303, 0, 0, 1859), (116, 2, 169, 0, 0, 1215), (119, 2, 304, 0, 0, 1863), (120, 2, 171, 0, 0, 1223), (123, 2, 312, 0, 0, 1895), (124, 2, 172, 0, 0, 1227), (127, 2, 313, 0, 0, 1899), (128, 2, 174, 0, 0, 1235), (131, 2, 314, 0, 0, 1903), (132, 2, 176, 0, 0, 1248), (135, 2, 269, 0, 0, 1728), (136, 2, 178, 0, 0, 1256), (139, 2, 270, 0, 0, 1732), (140, 2, 180, 0, 0, 1264), (143, 2, 315, 0, 0, 1907), (144, 2, 188, 0, 0, 1297), (148, 2, 318, 0, 0, 1918), (149, 2, 192, 0, 0, 1315), (152, 2, 320, 0, 0, 1926), (153, 2, 194, 0, 0, 1325), (156, 2, 321, 0, 0, 1930), (157, 2, 199, 0, 0, 1352), (160, 2, 325, 0, 0, 1945), (161, 2, 201, 0, 0, 1360), (164, 2, 326, 0, 0, 1949), (165, 2, 203, 0, 0, 1368), (168, 2, 327, 0, 0, 1953), (169, 2, 205, 0, 0, 1377), (172, 2, 328, 0, 0, 1957), (173, 2, 207, 0, 0, 1386), (176, 2, 329, 0, 0, 1961), (177, 2, 214, 0, 0, 1420), (180, 2, 330, 0, 0, 1965), (181, 2, 215, 0, 0, 1424), (184, 2, 331, 0, 0, 1969)]
  | 14 => []
  | 15 => [(264, 6, 0, 0, 65536, 640), (265, 6, 0, 0, 1431655765, 816), (266, 6, 0, 0, 858993459, 817), (267, 6, 0, 0, 252645135, 818)]
  | 16 => [(38, 10, 2, 0, 0, 1102), (335, 2, 142, 0, 0, 1098), (492, 2, 144, 0, 0, 1108), (495, 2, 145, 0, 0, 1112), (498, 2, 148, 0, 0, 1123), (1053, 10, 3, 0, 0, 1118), (1059, 2, 147, 0, 0, 1120)]
  | 17 => [(9, 2, 146, 0, 0, 1115)]
  | 18 => []
  | 19 => [(44, 10, 4, 0, 0, 1136), (48, 2, 150, 0, 0, 1129), (59, 10, 5, 0, 0, 1138), (63, 10, 6, 0, 0, 1140), (67, 2, 149, 0, 0, 1126), (71, 2, 151, 0, 0, 1133), (414, 2, 146, 0, 0, 1132)]
  | 20 => [(314, 7, 0, 0, 6148914691236517205, 1349), (316, 7, 0, 0, 3689348814741910323, 1350), (318, 7, 0, 0, 1085102592571150095, 1351)]
  | _ => []
end
section
/-! ===== printed by wip/gen_pure.py: steps that touch no cell ===== -/
def mm_lget (lv : List (Nat × Value)) (i : Nat) : Option Value := (lv.find? (fun q => q.1 == i)).map (fun q => q.2)
def mm_l1 (lv : List (Nat × Value)) (i : Nat) (v : Value) : List (Nat × Value) := (i, v) :: lv.filter (fun q => !(q.1 == i) && !(q.1 + 1 == i && q.2.category == 2))
def mm_l2 (lv : List (Nat × Value)) (i : Nat) (v : Value) : List (Nat × Value) := (i, v) :: lv.filter (fun q => !(q.1 == i) && (!(q.1 == i + 1) && !(q.1 + 1 == i && q.2.category == 2)))
abbrev mm_F : Type := Nat × List (Nat × Value) × List Value
def mm_tgt (pc : Nat) (off : Int) : Option Nat := if 0 ≤ (pc : Int) + off then some ((pc : Int) + off).toNat else none
theorem mm_tgt_ok {pc tgt : Nat} {off : Int} (h : mm_tgt pc off = some tgt) : (pc : Int) + off = (tgt : Int) := by
  unfold mm_tgt at h
  split at h
  · next h0 => cases h; exact (Int.toNat_of_nonneg h0).symm
  · cases h
theorem mm_lget_has {φ : Nat → Nat} {ls : Array Slot} {nL : Nat} {lv : List (Nat × Value)} (h : lv_has ls nL (mm_sl φ lv)) {i : Nat} {v : Value} (hv : mm_lget lv i = some v) : ls[i]? = some (.val (mm_sh φ v)) := by
  unfold mm_lget at hv
  cases hf : lv.find? (fun q => q.1 == i) with
  | none => rw [hf] at hv; cases hv
  | some q =>
    rw [hf] at hv
    cases hv
    have h1 := List.mem_of_find?_eq_some hf
    have h2 := List.find?_some hf
    simp at h2
    have := h.2.2 (q.1, mm_sh φ q.2) (List.mem_map.mpr ⟨q, h1, rfl⟩)
    rw [← h2]
    exact this
theorem mm_lget_at {φ : Nat → Nat} {lv : List (Nat × Value)} {i : Nat} {v : Value} (hv : mm_lget lv i = some v) : ∃ k : Nat, (mm_sl φ lv)[k]? = some (i, mm_sh φ v) := by
  unfold mm_lget at hv
  cases hf : lv.find? (fun q => q.1 == i) with
  | none => rw [hf] at hv; cases hv
  | some q =>
    rw [hf] at hv
    cases hv
    have h1 := List.mem_of_find?_eq_some hf
    have h2 := List.find?_some hf
    simp at h2
    obtain ⟨k, hk⟩ := List.getElem?_of_mem (List.mem_map.mpr ⟨q, h1, rfl⟩ : (q.1, mm_sh φ q.2) ∈ mm_sl φ lv)
    exact ⟨k, by rw [← h2]; exact hk⟩
theorem mm_l1_sl (φ : Nat → Nat) (lv : List (Nat × Value)) (i : Nat) (v : Value) : (i, mm_sh φ v) :: (mm_sl φ lv).filter (fun q => !(q.1 == i) && !(q.1 + 1 == i && q.2.category == 2)) = mm_sl φ (mm_l1 lv i v) := by
  simp only [mm_sl, mm_l1, List.map_cons, List.filter_map]
  congr 2
  apply List.filter_congr
  intro q _
  simp [Function.comp, mm_sh_cat]
theorem mm_l2_sl (φ : Nat → Nat) (lv : List (Nat × Value)) (i : Nat) (v : Value) : (i, mm_sh φ v) :: (mm_sl φ lv).filter (fun q => !(q.1 == i) && (!(q.1 == i + 1) && !(q.1 + 1 == i && q.2.category == 2))) = mm_sl φ (mm_l2 lv i v) := by
  simp only [mm_sl, mm_l2, List.map_cons, List.filter_map]
  congr 2
  apply List.filter_congr
  intro q _
  simp [Function.comp, mm_sh_cat]
def mm_push (k len : Nat) (pc : Nat) (lv : List (Nat × Value)) (st : List Value) (v : Value) : Option mm_F := if len = k then some (pc + k, lv, v :: st) else none
theorem mm_push_inv {k len pc : Nat} {lv : List (Nat × Value)} {st : List Value} {v : Value} {f : mm_F} (h : mm_push k len pc lv st v = some f) : len = k ∧ f = (pc + k, lv, v :: st) := by
  unfold mm_push at h
  split at h
  · next e => cases h; exact ⟨e, rfl⟩
  · cases h
def mm_bii (g : Int32 → Int32 → Int32) (len pc : Nat) (lv : List (Nat × Value)) (st : List Value) : Option mm_F := match len, st with
  | 1, .int y :: .int x :: r => some (pc + 1, lv, .int (g x y) :: r)
  | _, _ => none
theorem mm_bii_inv {g : Int32 → Int32 → Int32} {len pc : Nat} {lv : List (Nat × Value)} {st : List Value} {f : mm_F} (h : mm_bii g len pc lv st = some f) : len = 1 ∧ ∃ x y r, st = .int y :: .int x :: r ∧ f = (pc + 1, lv, .int (g x y) :: r) := by
  unfold mm_bii at h
  split at h
  · cases h; exact ⟨rfl, _, _, _, rfl, rfl⟩
  · cases h
def mm_bll (g : Int64 → Int64 → Int64) (len pc : Nat) (lv : List (Nat × Value)) (st : List Value) : Option mm_F := match len, st with
  | 1, .long y :: .long x :: r => some (pc + 1, lv, .long (g x y) :: r)
  | _, _ => none
theorem mm_bll_inv {g : Int64 → Int64 → Int64} {len pc : Nat} {lv : List (Nat × Value)} {st : List Value} {f : mm_F} (h : mm_bll g len pc lv st = some f) : len = 1 ∧ ∃ x y r, st = .long y :: .long x :: r ∧ f = (pc + 1, lv, .long (g x y) :: r) := by
  unfold mm_bll at h
  split at h
  · cases h; exact ⟨rfl, _, _, _, rfl, rfl⟩
  · cases h
def mm_bli (g : Int64 → Int32 → Int64) (len pc : Nat) (lv : List (Nat × Value)) (st : List Value) : Option mm_F := match len, st with
  | 1, .int y :: .long x :: r => some (pc + 1, lv, .long (g x y) :: r)
  | _, _ => none
theorem mm_bli_inv {g : Int64 → Int32 → Int64} {len pc : Nat} {lv : List (Nat × Value)} {st : List Value} {f : mm_F} (h : mm_bli g len pc lv st = some f) : len = 1 ∧ ∃ x y r, st = .int y :: .long x :: r ∧ f = (pc + 1, lv, .long (g x y) :: r) := by
  unfold mm_bli at h
  split at h
  · cases h; exact ⟨rfl, _, _, _, rfl, rfl⟩
  · cases h
def mm_ui_i (g : Int32 → Int32) (len pc : Nat) (lv : List (Nat × Value)) (st : List Value) : Option mm_F := match len, st with
  | 1, .int x :: r => some (pc + 1, lv, .int (g x) :: r)
  | _, _ => none
theorem mm_ui_i_inv {g : Int32 → Int32} {len pc : Nat} {lv : List (Nat × Value)} {st : List Value} {f : mm_F} (h : mm_ui_i g len pc lv st = some f) : len = 1 ∧ ∃ x r, st = .int x :: r ∧ f = (pc + 1, lv, .int (g x) :: r) := by
  unfold mm_ui_i at h
  split at h
  · cases h; exact ⟨rfl, _, _, rfl, rfl⟩
  · cases h
def mm_ui_l (g : Int32 → Int64) (len pc : Nat) (lv : List (Nat × Value)) (st : List Value) : Option mm_F := match len, st with
  | 1, .int x :: r => some (pc + 1, lv, .long (g x) :: r)
  | _, _ => none
theorem mm_ui_l_inv {g : Int32 → Int64} {len pc : Nat} {lv : List (Nat × Value)} {st : List Value} {f : mm_F} (h : mm_ui_l g len pc lv st = some f) : len = 1 ∧ ∃ x r, st = .int x :: r ∧ f = (pc + 1, lv, .long (g x) :: r) := by
  unfold mm_ui_l at h
  split at h
  · cases h; exact ⟨rfl, _, _, rfl, rfl⟩
  · cases h
def mm_ul_i (g : Int64 → Int32) (len pc : Nat) (lv : List (Nat × Value)) (st : List Value) : Option mm_F := match len, st with
  | 1, .long x :: r => some (pc + 1, lv, .int (g x) :: r)
  | _, _ => none
theorem mm_ul_i_inv {g : Int64 → Int32} {len pc : Nat} {lv : List (Nat × Value)} {st : List Value} {f : mm_F} (h : mm_ul_i g len pc lv st = some f) : len = 1 ∧ ∃ x r, st = .long x :: r ∧ f = (pc + 1, lv, .int (g x) :: r) := by
  unfold mm_ul_i at h
  split at h
  · cases h; exact ⟨rfl, _, _, rfl, rfl⟩
  · cases h
def mm_bd (g : Int32 → Int32 → Int32) (len pc : Nat) (lv : List (Nat × Value)) (st : List Value) : Option mm_F := match len, st with
  | 1, .int y :: .int x :: r => if y = 0 then none else some (pc + 1, lv, .int (g x y) :: r)
  | _, _ => none
theorem mm_bd_inv {g : Int32 → Int32 → Int32} {len pc : Nat} {lv : List (Nat × Value)} {st : List Value} {f : mm_F} (h : mm_bd g len pc lv st = some f) : len = 1 ∧ ∃ x y r, st = .int y :: .int x :: r ∧ ¬ y = 0 ∧ f = (pc + 1, lv, .int (g x y) :: r) := by
  unfold mm_bd at h
  split at h
  · split at h
    · cases h
    · next e => cases h; exact ⟨rfl, _, _, _, rfl, e, rfl⟩
  · cases h
def mm_lcmp (len pc : Nat) (lv : List (Nat × Value)) (st : List Value) : Option mm_F := match len, st with
  | 1, .long y :: .long x :: r => some (pc + 1, lv, .int (lg_cmp x y) :: r)
  | _, _ => none
theorem mm_lcmp_inv {len pc : Nat} {lv : List (Nat × Value)} {st : List Value} {f : mm_F} (h : mm_lcmp len pc lv st = some f) : len = 1 ∧ ∃ x y r, st = .long y :: .long x :: r ∧ f = (pc + 1, lv, .int (lg_cmp x y) :: r) := by
  unfold mm_lcmp at h
  split at h
  · cases h; exact ⟨rfl, _, _, _, rfl, rfl⟩
  · cases h
def mm_ldi (k i len pc : Nat) (lv : List (Nat × Value)) (st : List Value) : Option mm_F := match mm_lget lv i with
  | some (.int x) => if len = k then some (pc + k, lv, .int x :: st) else none
  | _ => none
theorem mm_ldi_inv {k i len pc : Nat} {lv : List (Nat × Value)} {st : List Value} {f : mm_F} (h : mm_ldi k i len pc lv st = some f) : len = k ∧ ∃ x, mm_lget lv i = some (.int x) ∧ f = (pc + k, lv, .int x :: st) := by
  unfold mm_ldi at h
  split at h
  · next e =>
    split at h
    · next e2 => cases h; exact ⟨e2, _, e, rfl⟩
    · cases h
  · cases h
def mm_ldl (k i len pc : Nat) (lv : List (Nat × Value)) (st : List Value) : Option mm_F := match mm_lget lv i with
  | some (.long x) => if len = k then some (pc + k, lv, .long x :: st) else none
  | _ => none
theorem mm_ldl_inv {k i len pc : Nat} {lv : List (Nat × Value)} {st : List Value} {f : mm_F} (h : mm_ldl k i len pc lv st = some f) : len = k ∧ ∃ x, mm_lget lv i = some (.long x) ∧ f = (pc + k, lv, .long x :: st) := by
  unfold mm_ldl at h
  split at h
  · next e =>
    split at h
    · next e2 => cases h; exact ⟨e2, _, e, rfl⟩
    · cases h
  · cases h
def mm_lda (k i len pc : Nat) (lv : List (Nat × Value)) (st : List Value) : Option mm_F := match mm_lget lv i with
  | some (.ref x) => if len = k then some (pc + k, lv, .ref x :: st) else none
  | _ => none
theorem mm_lda_inv {k i len pc : Nat} {lv : List (Nat × Value)} {st : List Value} {f : mm_F} (h : mm_lda k i len pc lv st = some f) : len = k ∧ ∃ x, mm_lget lv i = some (.ref x) ∧ f = (pc + k, lv, .ref x :: st) := by
  unfold mm_lda at h
  split at h
  · next e =>
    split at h
    · next e2 => cases h; exact ⟨e2, _, e, rfl⟩
    · cases h
  · cases h
def mm_sti (k i nL len pc : Nat) (lv : List (Nat × Value)) (st : List Value) : Option mm_F := match st with
  | .int x :: r => if len = k ∧ i < nL then some (pc + k, mm_l1 lv i (.int x), r) else none
  | _ => none
theorem mm_sti_inv {k i nL len pc : Nat} {lv : List (Nat × Value)} {st : List Value} {f : mm_F} (h : mm_sti k i nL len pc lv st = some f) : len = k ∧ i < nL ∧ ∃ x r, st = .int x :: r ∧ f = (pc + k, mm_l1 lv i (.int x), r) := by
  unfold mm_sti at h
  split at h
  · split at h
    · next e2 => cases h; exact ⟨e2.1, e2.2, _, _, rfl, rfl⟩
    · cases h
  · cases h
def mm_stl (k i nL len pc : Nat) (lv : List (Nat × Value)) (st : List Value) : Option mm_F := match st with
  | .long x :: r => if len = k ∧ i + 1 < nL then some (pc + k, mm_l2 lv i (.long x), r) else none
  | _ => none
theorem mm_stl_inv {k i nL len pc : Nat} {lv : List (Nat × Value)} {st : List Value} {f : mm_F} (h : mm_stl k i nL len pc lv st = some f) : len = k ∧ i + 1 < nL ∧ ∃ x r, st = .long x :: r ∧ f = (pc + k, mm_l2 lv i (.long x), r) := by
  unfold mm_stl at h
  split at h
  · split at h
    · next e2 => cases h; exact ⟨e2.1, e2.2, _, _, rfl, rfl⟩
    · cases h
  · cases h
def mm_sta (k i nL len pc : Nat) (lv : List (Nat × Value)) (st : List Value) : Option mm_F := match st with
  | .ref x :: r => if len = k ∧ i < nL then some (pc + k, mm_l1 lv i (.ref x), r) else none
  | _ => none
theorem mm_sta_inv {k i nL len pc : Nat} {lv : List (Nat × Value)} {st : List Value} {f : mm_F} (h : mm_sta k i nL len pc lv st = some f) : len = k ∧ i < nL ∧ ∃ x r, st = .ref x :: r ∧ f = (pc + k, mm_l1 lv i (.ref x), r) := by
  unfold mm_sta at h
  split at h
  · split at h
    · next e2 => cases h; exact ⟨e2.1, e2.2, _, _, rfl, rfl⟩
    · cases h
  · cases h
def mm_inc (i nL : Nat) (n : Int) (len pc : Nat) (lv : List (Nat × Value)) (st : List Value) : Option mm_F := match mm_lget lv i with
  | some (.int x) => if len = 3 ∧ i < nL then some (pc + 3, mm_l1 lv i (.int (x + Int32.ofInt n)), st) else none
  | _ => none
theorem mm_inc_inv {i nL : Nat} {n : Int} {len pc : Nat} {lv : List (Nat × Value)} {st : List Value} {f : mm_F} (h : mm_inc i nL n len pc lv st = some f) : len = 3 ∧ i < nL ∧ ∃ x, mm_lget lv i = some (.int x) ∧ f = (pc + 3, mm_l1 lv i (.int (x + Int32.ofInt n)), st) := by
  unfold mm_inc at h
  split at h
  · next e =>
    split at h
    · next e2 => cases h; exact ⟨e2.1, e2.2, _, e, rfl⟩
    · cases h
  · cases h
def mm_if1 (P : Int32 → Bool) (off : Int) (len pc : Nat) (lv : List (Nat × Value)) (st : List Value) : Option mm_F := match mm_tgt pc off, st with
  | some tgt, .int x :: r => if len = 3 then some (if P x then tgt else pc + 3, lv, r) else none
  | _, _ => none
theorem mm_if1_inv {P : Int32 → Bool} {off : Int} {len pc : Nat} {lv : List (Nat × Value)} {st : List Value} {f : mm_F} (h : mm_if1 P off len pc lv st = some f) : len = 3 ∧ ∃ tgt x r, mm_tgt pc off = some tgt ∧ st = .int x :: r ∧ f = (if P x then tgt else pc + 3, lv, r) := by
  unfold mm_if1 at h
  split at h
  · next e =>
    split at h
    · next e2 => cases h; exact ⟨e2, _, _, _, e, rfl, rfl⟩
    · cases h
  · cases h
def mm_if2 (P : Int32 → Int32 → Bool) (off : Int) (len pc : Nat) (lv : List (Nat × Value)) (st : List Value) : Option mm_F := match mm_tgt pc off, st with
  | some tgt, .int y :: .int x :: r => if len = 3 then some (if P x y then tgt else pc + 3, lv, r) else none
  | _, _ => none
theorem mm_if2_inv {P : Int32 → Int32 → Bool} {off : Int} {len pc : Nat} {lv : List (Nat × Value)} {st : List Value} {f : mm_F} (h : mm_if2 P off len pc lv st = some f) : len = 3 ∧ ∃ tgt x y r, mm_tgt pc off = some tgt ∧ st = .int y :: .int x :: r ∧ f = (if P x y then tgt else pc + 3, lv, r) := by
  unfold mm_if2 at h
  split at h
  · next e =>
    split at h
    · next e2 => cases h; exact ⟨e2, _, _, _, _, e, rfl, rfl⟩
    · cases h
  · cases h
def mm_go (off : Int) (len pc : Nat) (lv : List (Nat × Value)) (st : List Value) : Option mm_F := match mm_tgt pc off with
  | some tgt => if len = 3 then some (tgt, lv, st) else none
  | none => none
theorem mm_go_inv {off : Int} {len pc : Nat} {lv : List (Nat × Value)} {st : List Value} {f : mm_F} (h : mm_go off len pc lv st = some f) : len = 3 ∧ ∃ tgt, mm_tgt pc off = some tgt ∧ f = (tgt, lv, st) := by
  unfold mm_go at h
  split at h
  · next e =>
    split at h
    · next e2 => cases h; exact ⟨e2, _, e, rfl⟩
    · cases h
  · cases h
def mm_sw (dflt lo hi : Int) (offs : Array Int) (pc : Nat) (lv : List (Nat × Value)) (st : List Value) : Option mm_F := match st with
  | .int x :: r => if x.toInt < lo ∨ hi < x.toInt then (mm_tgt pc dflt).map (fun t => (t, lv, r)) else match offs[(x.toInt - lo).toNat]? with
    | some off => (mm_tgt pc off).map (fun t => (t, lv, r))
    | none => none
  | _ => none
def mm_lsw (dflt : Int) (ps : Array (Int × Int)) (pc : Nat) (lv : List (Nat × Value)) (st : List Value) : Option mm_F := match st with
  | .int x :: r => if (ps.toList.zip (ps.toList.drop 1)).all (fun (a, next) => a.1 < next.1) = true then (mm_tgt pc (Op.lookupswitch.offset ps.toList dflt x.toInt)).map (fun t => (t, lv, r)) else none
  | _ => none
def mm_dup (len pc : Nat) (lv : List (Nat × Value)) (st : List Value) : Option mm_F := match st with
  | a :: r => if len = 1 ∧ a.category = 1 then some (pc + 1, lv, a :: a :: r) else none
  | _ => none
def mm_pop (len pc : Nat) (lv : List (Nat × Value)) (st : List Value) : Option mm_F := match st with
  | a :: r => if len = 1 ∧ a.category = 1 then some (pc + 1, lv, r) else none
  | _ => none
def mm_dup2 (len pc : Nat) (lv : List (Nat × Value)) (st : List Value) : Option mm_F := match st with
  | a :: b :: r => if len = 1 ∧ a.category = 1 ∧ b.category = 1 then some (pc + 1, lv, a :: b :: a :: b :: r) else none
  | _ => none
def mm_P1 : Jvm.ClassFile.Cond → Int32 → Bool := fun c x => match c with
  | .eq => decide (x = 0)
  | .ne => !decide (x = 0)
  | .lt => decide (x < 0)
  | .ge => decide (0 ≤ x)
  | .gt => decide (0 < x)
  | .le => decide (x ≤ 0)
def mm_P2 : Jvm.ClassFile.Cond → Int32 → Int32 → Bool := fun c x y => match c with
  | .eq => decide (x = y)
  | .ne => !decide (x = y)
  | .lt => decide (x < y)
  | .ge => decide (y ≤ x)
  | .gt => decide (y < x)
  | .le => decide (x ≤ y)
def mm_pure (nL : Nat) (ins : Instr) (len pc : Nat) (lv : List (Nat × Value)) (st : List Value) : Option mm_F := match ins with
  | .iconst n => mm_push 1 len pc lv st (.int (Int32.ofInt n))
  | .bipush n => mm_push 2 len pc lv st (.int (Int8.ofInt n).toInt32)
  | .sipush n => mm_push 3 len pc lv st (.int (Int16.ofInt n).toInt32)
  | .lconst n => mm_push 1 len pc lv st (.long (Int64.ofNat n))
  | .iload_n n => mm_ldi 1 n.val len pc lv st
  | .iload i => mm_ldi 2 i len pc lv st
  | .istore_n n => mm_sti 1 n.val nL len pc lv st
  | .istore i => mm_sti 2 i nL len pc lv st
  | .lload_n n => mm_ldl 1 n.val len pc lv st
  | .lload i => mm_ldl 2 i len pc lv st
  | .lstore_n n => mm_stl 1 n.val nL len pc lv st
  | .lstore i => mm_stl 2 i nL len pc lv st
  | .aload_n n => mm_lda 1 n.val len pc lv st
  | .aload i => mm_lda 2 i len pc lv st
  | .astore_n n => mm_sta 1 n.val nL len pc lv st
  | .astore i => mm_sta 2 i nL len pc lv st
  | .iinc i n => mm_inc i nL n len pc lv st
  | .iadd => mm_bii (fun x y => x + y) len pc lv st
  | .isub => mm_bii (fun x y => x - y) len pc lv st
  | .imul => mm_bii (fun x y => x * y) len pc lv st
  | .iand => mm_bii (fun x y => x &&& y) len pc lv st
  | .ior => mm_bii (fun x y => x ||| y) len pc lv st
  | .ixor => mm_bii (fun x y => x ^^^ y) len pc lv st
  | .ishl => mm_bii (fun x y => x <<< (y &&& 31)) len pc lv st
  | .ishr => mm_bii (fun x y => x >>> (y &&& 31)) len pc lv st
  | .iushr => mm_bii (fun x y => (x.toUInt32 >>> (y.toUInt32 &&& Int32.toUInt32 31)).toInt32) len pc lv st
  | .ladd => mm_bll (fun x y => x + y) len pc lv st
  | .lsub => mm_bll (fun x y => x - y) len pc lv st
  | .land => mm_bll (fun x y => x &&& y) len pc lv st
  | .lor => mm_bll (fun x y => x ||| y) len pc lv st
  | .lshl => mm_bli (fun x y => x <<< (y.toInt64 &&& 63)) len pc lv st
  | .lshr => mm_bli (fun x y => x >>> (y.toInt64 &&& 63)) len pc lv st
  | .lushr => mm_bli (fun x y => (x.toUInt64 >>> (y.toInt64.toUInt64 &&& Int64.toUInt64 63)).toInt64) len pc lv st
  | .idiv => mm_bd (fun x y => x / y) len pc lv st
  | .irem => mm_bd (fun x y => x - x / y * y) len pc lv st
  | .lcmp => mm_lcmp len pc lv st
  | .ineg => mm_ui_i (fun x => -x) len pc lv st
  | .i2l => mm_ui_l (fun x => x.toInt64) len pc lv st
  | .l2i => mm_ul_i (fun x => x.toInt32) len pc lv st
  | .i2b => mm_ui_i (fun x => x.toInt8.toInt32) len pc lv st
  | .i2s => mm_ui_i (fun x => x.toInt16.toInt32) len pc lv st
  | .i2c => mm_ui_i (fun x => (x.toUInt32 % 65536).toInt32) len pc lv st
  | .goto off => mm_go off len pc lv st
  | .ifCond c off => mm_if1 (mm_P1 c) off len pc lv st
  | .if_icmp c off => mm_if2 (mm_P2 c) off len pc lv st
  | .tableswitch dflt lo hi offs => mm_sw dflt lo hi offs pc lv st
  | .lookupswitch dflt ps => mm_lsw dflt ps pc lv st
  | .dup => mm_dup len pc lv st
  | .pop => mm_pop len pc lv st
  | .dup2 => mm_dup2 len pc lv st
  | _ => none
set_option maxHeartbeats 4000000 in
set_option maxRecDepth 100000 in
theorem mm_pure_ok {p : Program} {l : Launch} {e : Env} {R : Room} {s : State} {m : MethodId} {args : Array Value} {below : List Frame} {meth : Method} {c : Code} {H : Heap} {locs : List Loc} {cells slots : Nat} {Q : State → Prop} {cc : ByteArray} {pc : Nat} {ls : Array Slot} (φ : Nat → Nat) (hx : p.tables.exec = Jvm.exec) (hb : c.code = cc) {nL len : Nat} {ins : Instr} {lv : List (Nat × Value)} {st : List Value} {f : mm_F} (hd : decode cc pc = .ok (ins, len)) (h : mm_pure nL ins len pc lv st = some f) (hl : lv_has ls nL (mm_sl φ lv))
    (kk : ∀ ls' : Array Slot, lv_has ls' nL (mm_sl φ f.2.1) → W p l e R s m args below meth c H locs cells slots Q (F0 m f.1 ls' (f.2.2.map (mm_sh φ)))) : W p l e R s m args below meth c H locs cells slots Q (F0 m pc ls (st.map (mm_sh φ))) := by
  cases ins with
  | iconst n =>
    replace h : mm_push 1 len pc lv st (.int (Int32.ofInt n)) = some f := h
    obtain ⟨rfl, rfl⟩ := mm_push_inv h; exact lv_iconst hx hb hd rfl (kk _ hl)
  | bipush n =>
    replace h : mm_push 2 len pc lv st (.int (Int8.ofInt n).toInt32) = some f := h
    obtain ⟨rfl, rfl⟩ := mm_push_inv h; exact lv_bipush hx hb hd rfl (kk _ hl)
  | sipush n =>
    replace h : mm_push 3 len pc lv st (.int (Int16.ofInt n).toInt32) = some f := h
    obtain ⟨rfl, rfl⟩ := mm_push_inv h; exact lv_sipush hx hb hd rfl (kk _ hl)
  | lconst n =>
    replace h : mm_push 1 len pc lv st (.long (Int64.ofNat n)) = some f := h
    obtain ⟨rfl, rfl⟩ := mm_push_inv h; exact lv_lconst hx hb hd rfl (kk _ hl)
  | iload_n n =>
    replace h : mm_ldi 1 n.val len pc lv st = some f := h
    obtain ⟨rfl, x, h1, rfl⟩ := mm_ldi_inv h; exact lv_iload_n hx hb hd rfl (mm_lget_has hl h1) (kk _ hl)
  | iload i =>
    replace h : mm_ldi 2 i len pc lv st = some f := h
    obtain ⟨rfl, x, h1, rfl⟩ := mm_ldi_inv h; exact lv_iload hx hb hd (mm_lget_has hl h1) (kk _ hl)
  | istore_n n =>
    replace h : mm_sti 1 n.val nL len pc lv st = some f := h
    obtain ⟨rfl, hn, x, r, rfl, rfl⟩ := mm_sti_inv h; exact lv_istore_n hx hb hd rfl hl hn (mm_l1_sl φ lv n.val (.int x)) kk
  | istore i =>
    replace h : mm_sti 2 i nL len pc lv st = some f := h
    obtain ⟨rfl, hn, x, r, rfl, rfl⟩ := mm_sti_inv h; exact lv_istore hx hb hd hl hn (mm_l1_sl φ lv i (.int x)) kk
  | lload_n n =>
    replace h : mm_ldl 1 n.val len pc lv st = some f := h
    obtain ⟨rfl, x, h1, rfl⟩ := mm_ldl_inv h; exact lv_lload_n hx hb hd rfl (mm_lget_has hl h1) (kk _ hl)
  | lload i =>
    replace h : mm_ldl 2 i len pc lv st = some f := h
    obtain ⟨rfl, x, h1, rfl⟩ := mm_ldl_inv h; exact lv_lload hx hb hd (mm_lget_has hl h1) (kk _ hl)
  | lstore_n n =>
    replace h : mm_stl 1 n.val nL len pc lv st = some f := h
    obtain ⟨rfl, hn, x, r, rfl, rfl⟩ := mm_stl_inv h; exact lv_lstore_n hx hb hd rfl hl hn (mm_l2_sl φ lv n.val (.long x)) kk
  | lstore i =>
    replace h : mm_stl 2 i nL len pc lv st = some f := h
    obtain ⟨rfl, hn, x, r, rfl, rfl⟩ := mm_stl_inv h; exact lv_lstore hx hb hd hl hn (mm_l2_sl φ lv i (.long x)) kk
  | aload_n n =>
    replace h : mm_lda 1 n.val len pc lv st = some f := h
    obtain ⟨rfl, x, h1, rfl⟩ := mm_lda_inv h; exact lv_aload_n hx hb hd rfl (mm_lget_has hl h1) (kk _ hl)
  | aload i =>
    replace h : mm_lda 2 i len pc lv st = some f := h
    obtain ⟨rfl, x, h1, rfl⟩ := mm_lda_inv h; exact lv_aload hx hb hd (mm_lget_has hl h1) (kk _ hl)
  | astore_n n =>
    replace h : mm_sta 1 n.val nL len pc lv st = some f := h
    obtain ⟨rfl, hn, x, r, rfl, rfl⟩ := mm_sta_inv h; exact lv_astore_n hx hb hd rfl hl hn (mm_l1_sl φ lv n.val (.ref x)) kk
  | astore i =>
    replace h : mm_sta 2 i nL len pc lv st = some f := h
    obtain ⟨rfl, hn, x, r, rfl, rfl⟩ := mm_sta_inv h; exact lv_astore hx hb hd hl hn (mm_l1_sl φ lv i (.ref x)) kk
  | iinc i n =>
    replace h : mm_inc i nL n len pc lv st = some f := h
    obtain ⟨rfl, hn, x, h1, rfl⟩ := mm_inc_inv h; obtain ⟨k, hk⟩ := mm_lget_at (φ := φ) h1; exact lv_iinc hx hb hd hl hk rfl hn (mm_l1_sl φ lv i (.int (x + Int32.ofInt n))) kk
  | iadd =>
    replace h : mm_bii (fun x y => x + y) len pc lv st = some f := h
    obtain ⟨rfl, x, y, r, rfl, rfl⟩ := mm_bii_inv h; exact lv_iadd hx hb hd (kk _ hl)
  | isub =>
    replace h : mm_bii (fun x y => x - y) len pc lv st = some f := h
    obtain ⟨rfl, x, y, r, rfl, rfl⟩ := mm_bii_inv h; exact lv_isub hx hb hd (kk _ hl)
  | imul =>
    replace h : mm_bii (fun x y => x * y) len pc lv st = some f := h
    obtain ⟨rfl, x, y, r, rfl, rfl⟩ := mm_bii_inv h; exact lv_imul hx hb hd (kk _ hl)
  | iand =>
    replace h : mm_bii (fun x y => x &&& y) len pc lv st = some f := h
    obtain ⟨rfl, x, y, r, rfl, rfl⟩ := mm_bii_inv h; exact lv_iand hx hb hd (kk _ hl)
  | ior =>
    replace h : mm_bii (fun x y => x ||| y) len pc lv st = some f := h
    obtain ⟨rfl, x, y, r, rfl, rfl⟩ := mm_bii_inv h; exact lv_ior hx hb hd (kk _ hl)
  | ixor =>
    replace h : mm_bii (fun x y => x ^^^ y) len pc lv st = some f := h
    obtain ⟨rfl, x, y, r, rfl, rfl⟩ := mm_bii_inv h; exact lv_ixor hx hb hd (kk _ hl)
  | ishl =>
    replace h : mm_bii (fun x y => x <<< (y &&& 31)) len pc lv st = some f := h
    obtain ⟨rfl, x, y, r, rfl, rfl⟩ := mm_bii_inv h; exact lv_ishl hx hb hd (kk _ hl)
  | ishr =>
    replace h : mm_bii (fun x y => x >>> (y &&& 31)) len pc lv st = some f := h
    obtain ⟨rfl, x, y, r, rfl, rfl⟩ := mm_bii_inv h; exact lv_ishr hx hb hd (kk _ hl)
  | iushr =>
    replace h : mm_bii (fun x y => (x.toUInt32 >>> (y.toUInt32 &&& Int32.toUInt32 31)).toInt32) len pc lv st = some f := h
    obtain ⟨rfl, x, y, r, rfl, rfl⟩ := mm_bii_inv h; exact lv_iushr hx hb hd rfl (kk _ hl)
  | ladd =>
    replace h : mm_bll (fun x y => x + y) len pc lv st = some f := h
    obtain ⟨rfl, x, y, r, rfl, rfl⟩ := mm_bll_inv h; exact lv_ladd hx hb hd (kk _ hl)
  | lsub =>
    replace h : mm_bll (fun x y => x - y) len pc lv st = some f := h
    obtain ⟨rfl, x, y, r, rfl, rfl⟩ := mm_bll_inv h; exact lv_lsub hx hb hd (kk _ hl)
  | land =>
    replace h : mm_bll (fun x y => x &&& y) len pc lv st = some f := h
    obtain ⟨rfl, x, y, r, rfl, rfl⟩ := mm_bll_inv h; exact lv_land hx hb hd (kk _ hl)
  | lor =>
    replace h : mm_bll (fun x y => x ||| y) len pc lv st = some f := h
    obtain ⟨rfl, x, y, r, rfl, rfl⟩ := mm_bll_inv h; exact lv_lor hx hb hd (kk _ hl)
  | lshl =>
    replace h : mm_bli (fun x y => x <<< (y.toInt64 &&& 63)) len pc lv st = some f := h
    obtain ⟨rfl, x, y, r, rfl, rfl⟩ := mm_bli_inv h; exact lv_lshl hx hb hd rfl (kk _ hl)
  | lshr =>
    replace h : mm_bli (fun x y => x >>> (y.toInt64 &&& 63)) len pc lv st = some f := h
    obtain ⟨rfl, x, y, r, rfl, rfl⟩ := mm_bli_inv h; exact lv_lshr hx hb hd rfl (kk _ hl)
  | lushr =>
    replace h : mm_bli (fun x y => (x.toUInt64 >>> (y.toInt64.toUInt64 &&& Int64.toUInt64 63)).toInt64) len pc lv st = some f := h
    obtain ⟨rfl, x, y, r, rfl, rfl⟩ := mm_bli_inv h; exact lv_lushr hx hb hd rfl (kk _ hl)
  | idiv =>
    replace h : mm_bd (fun x y => x / y) len pc lv st = some f := h
    obtain ⟨rfl, x, y, r, rfl, h0, rfl⟩ := mm_bd_inv h; exact lv_idiv hx hb hd h0 (kk _ hl)
  | irem =>
    replace h : mm_bd (fun x y => x - x / y * y) len pc lv st = some f := h
    obtain ⟨rfl, x, y, r, rfl, h0, rfl⟩ := mm_bd_inv h; exact lv_irem hx hb hd h0 (kk _ hl)
  | lcmp =>
    replace h : mm_lcmp len pc lv st = some f := h
    obtain ⟨rfl, x, y, r, rfl, rfl⟩ := mm_lcmp_inv h; exact W.lcmp hx hb hd (kk _ hl)
  | ineg =>
    replace h : mm_ui_i (fun x => -x) len pc lv st = some f := h
    obtain ⟨rfl, x, r, rfl, rfl⟩ := mm_ui_i_inv h; exact lv_ineg hx hb hd (kk _ hl)
  | i2l =>
    replace h : mm_ui_l (fun x => x.toInt64) len pc lv st = some f := h
    obtain ⟨rfl, x, r, rfl, rfl⟩ := mm_ui_l_inv h; exact lv_i2l hx hb hd rfl (kk _ hl)
  | l2i =>
    replace h : mm_ul_i (fun x => x.toInt32) len pc lv st = some f := h
    obtain ⟨rfl, x, r, rfl, rfl⟩ := mm_ul_i_inv h; exact lv_l2i hx hb hd rfl (kk _ hl)
  | i2b =>
    replace h : mm_ui_i (fun x => x.toInt8.toInt32) len pc lv st = some f := h
    obtain ⟨rfl, x, r, rfl, rfl⟩ := mm_ui_i_inv h; exact lv_i2b hx hb hd rfl (kk _ hl)
  | i2s =>
    replace h : mm_ui_i (fun x => x.toInt16.toInt32) len pc lv st = some f := h
    obtain ⟨rfl, x, r, rfl, rfl⟩ := mm_ui_i_inv h; exact lv_i2s hx hb hd rfl (kk _ hl)
  | i2c =>
    replace h : mm_ui_i (fun x => (x.toUInt32 % 65536).toInt32) len pc lv st = some f := h
    obtain ⟨rfl, x, r, rfl, rfl⟩ := mm_ui_i_inv h; exact lv_i2c hx hb hd rfl (kk _ hl)
  | goto off =>
    replace h : mm_go off len pc lv st = some f := h
    obtain ⟨rfl, tgt, ht, rfl⟩ := mm_go_inv h; exact lv_goto hx hb hd (mm_tgt_ok ht) (kk _ hl)
  | ifCond cd off =>
    replace h : mm_if1 (mm_P1 cd) off len pc lv st = some f := h
    obtain ⟨rfl, tgt, x, r, ht, rfl, rfl⟩ := mm_if1_inv h
    have ht := mm_tgt_ok ht
    cases cd with
    | eq => exact lv_if_eq hx hb hd ht (fun q => by simpa [mm_P1, q] using kk _ hl) (fun q => by simpa [mm_P1, q] using kk _ hl)
    | ne => exact lv_if_ne hx hb hd ht (fun q => by simpa [mm_P1, q] using kk _ hl) (fun q => by simpa [mm_P1, q] using kk _ hl)
    | lt => exact lv_if_lt hx hb hd ht (fun q => by simpa [mm_P1, q] using kk _ hl) (fun q => by simpa [mm_P1, q] using kk _ hl)
    | ge => exact lv_if_ge hx hb hd ht (fun q => by simpa [mm_P1, q] using kk _ hl) (fun q => by simpa [mm_P1, q] using kk _ hl)
    | gt => exact lv_if_gt hx hb hd ht (fun q => by simpa [mm_P1, q] using kk _ hl) (fun q => by simpa [mm_P1, q] using kk _ hl)
    | le => exact lv_if_le hx hb hd ht (fun q => by simpa [mm_P1, q] using kk _ hl) (fun q => by simpa [mm_P1, q] using kk _ hl)
  | if_icmp cd off =>
    replace h : mm_if2 (mm_P2 cd) off len pc lv st = some f := h
    obtain ⟨rfl, tgt, x, y, r, ht, rfl, rfl⟩ := mm_if2_inv h
    have ht := mm_tgt_ok ht
    cases cd with
    | eq => exact lv_icmp_eq hx hb hd ht (fun q => by simpa [mm_P2, q] using kk _ hl) (fun q => by simpa [mm_P2, q] using kk _ hl)
    | ne => exact lv_icmp_ne hx hb hd ht (fun q => by simpa [mm_P2, q] using kk _ hl) (fun q => by simpa [mm_P2, q] using kk _ hl)
    | lt => exact lv_icmp_lt hx hb hd ht (fun q => by simpa [mm_P2, q] using kk _ hl) (fun q => by simpa [mm_P2, q] using kk _ hl)
    | ge => exact lv_icmp_ge hx hb hd ht (fun q => by simpa [mm_P2, q] using kk _ hl) (fun q => by simpa [mm_P2, q] using kk _ hl)
    | gt => exact lv_icmp_gt hx hb hd ht (fun q => by simpa [mm_P2, q] using kk _ hl) (fun q => by simpa [mm_P2, q] using kk _ hl)
    | le => exact lv_icmp_le hx hb hd ht (fun q => by simpa [mm_P2, q] using kk _ hl) (fun q => by simpa [mm_P2, q] using kk _ hl)
  | tableswitch dflt lo hi offs =>
    replace h : mm_sw dflt lo hi offs pc lv st = some f := h
    unfold mm_sw at h
    split at h
    · split at h
      · next e1 =>
        obtain ⟨t, h1, rfl⟩ := Option.map_eq_some_iff.mp h
        exact lv_tableOut hx hb hd e1 (mm_tgt_ok h1) (kk _ hl)
      · next e1 =>
        split at h
        · next off e2 =>
          obtain ⟨t, h1, rfl⟩ := Option.map_eq_some_iff.mp h
          exact lv_tableIn hx hb hd (fun q => e1 (Or.inl q)) (fun q => e1 (Or.inr q)) e2 (mm_tgt_ok h1) (kk _ hl)
        · cases h
    · cases h
  | lookupswitch dflt ps =>
    replace h : mm_lsw dflt ps pc lv st = some f := h
    unfold mm_lsw at h
    split at h
    · split at h
      · next e1 =>
        obtain ⟨t, h1, rfl⟩ := Option.map_eq_some_iff.mp h
        exact lv_lookup hx hb hd e1 rfl (mm_tgt_ok h1) (kk _ hl)
      · cases h
    · cases h
  | dup =>
    replace h : mm_dup len pc lv st = some f := h
    unfold mm_dup at h
    split at h
    · split at h
      · next e1 =>
        obtain ⟨rfl, e2⟩ := e1
        cases h
        exact lv_dup hx hb hd (by rw [mm_sh_cat]; exact e2) (kk _ hl)
      · cases h
    · cases h
  | pop =>
    replace h : mm_pop len pc lv st = some f := h
    unfold mm_pop at h
    split at h
    · split at h
      · next e1 =>
        obtain ⟨rfl, e2⟩ := e1
        cases h
        exact lv_pop hx hb hd (by rw [mm_sh_cat]; exact e2) (kk _ hl)
      · cases h
    · cases h
  | dup2 =>
    replace h : mm_dup2 len pc lv st = some f := h
    unfold mm_dup2 at h
    split at h
    · split at h
      · next e1 =>
        obtain ⟨rfl, e2, e3⟩ := e1
        cases h
        exact lv_dup2_11 hx hb hd (by rw [mm_sh_cat]; exact e2) (by rw [mm_sh_cat]; exact e3) (kk _ hl)
      · cases h
    · cases h
  | _ => cases h
end
