section
-- ===== PART A: goes FIRST, ahead of the names: the tables' words, and 'selects' of the private methods out of them =====
/-- a private method of a class that the tables say can be made, by its rows of tables_1 -/
def lw_okq (q : MethodName × Nat) : Prop := (q.1.cls ≠ "java/lang/invoke/MethodHandle" ∧ q.1.cls ≠ "java/lang/invoke/VarHandle") ∧ Cond.instantiable q.1.cls q.2 ∈ tables_1 ∧ Cond.privateMethod q.1 ∈ tables_1 ∧ Cond.instanceMethod q.1 ∈ tables_1
theorem lw_p0 : lw_okq (⟨"RaftTown", "noted", "(I)I"⟩, 8) := ⟨⟨by decide +kernel, by decide +kernel⟩, List.mem_of_getElem? (i := 23) (by decide +kernel), List.mem_of_getElem? (i := 423) (by decide +kernel), List.mem_of_getElem? (i := 424) (by decide +kernel)⟩
theorem lw_p1 : lw_okq (⟨"RaftTown", "surveyed", "()LRaftTown$Net;"⟩, 8) := ⟨⟨by decide +kernel, by decide +kernel⟩, List.mem_of_getElem? (i := 23) (by decide +kernel), List.mem_of_getElem? (i := 475) (by decide +kernel), List.mem_of_getElem? (i := 476) (by decide +kernel)⟩
theorem lw_p2 : lw_okq (⟨"RaftTown$Net", "reach", "(II)I"⟩, 6) := ⟨⟨by decide +kernel, by decide +kernel⟩, List.mem_of_getElem? (i := 343) (by decide +kernel), List.mem_of_getElem? (i := 524) (by decide +kernel), List.mem_of_getElem? (i := 525) (by decide +kernel)⟩
theorem lw_p3 : lw_okq (⟨"RaftTown", "areParents", "(II)Z"⟩, 8) := ⟨⟨by decide +kernel, by decide +kernel⟩, List.mem_of_getElem? (i := 23) (by decide +kernel), List.mem_of_getElem? (i := 572) (by decide +kernel), List.mem_of_getElem? (i := 573) (by decide +kernel)⟩
theorem lw_p4 : lw_okq (⟨"RaftTown$Town", "areKin", "(II)Z"⟩, 12) := ⟨⟨by decide +kernel, by decide +kernel⟩, List.mem_of_getElem? (i := 31) (by decide +kernel), List.mem_of_getElem? (i := 607) (by decide +kernel), List.mem_of_getElem? (i := 608) (by decide +kernel)⟩
theorem lw_p5 : lw_okq (⟨"RaftTown$Log", "placeOf", "(I)I"⟩, 9) := ⟨⟨by decide +kernel, by decide +kernel⟩, List.mem_of_getElem? (i := 61) (by decide +kernel), List.mem_of_getElem? (i := 644) (by decide +kernel), List.mem_of_getElem? (i := 645) (by decide +kernel)⟩
theorem lw_p6 : lw_okq (⟨"RaftTown", "ropeRuling", "(III)I"⟩, 8) := ⟨⟨by decide +kernel, by decide +kernel⟩, List.mem_of_getElem? (i := 23) (by decide +kernel), List.mem_of_getElem? (i := 664) (by decide +kernel), List.mem_of_getElem? (i := 665) (by decide +kernel)⟩
theorem lw_p7 : lw_okq (⟨"RaftTown$Judge", "nameNothing", "()V"⟩, 3) := ⟨⟨by decide +kernel, by decide +kernel⟩, List.mem_of_getElem? (i := 371) (by decide +kernel), List.mem_of_getElem? (i := 673) (by decide +kernel), List.mem_of_getElem? (i := 674) (by decide +kernel)⟩
theorem lw_p8 : lw_okq (⟨"RaftTown$Net", "weigh", "(I)I"⟩, 6) := ⟨⟨by decide +kernel, by decide +kernel⟩, List.mem_of_getElem? (i := 343) (by decide +kernel), List.mem_of_getElem? (i := 685) (by decide +kernel), List.mem_of_getElem? (i := 686) (by decide +kernel)⟩
theorem lw_p9 : lw_okq (⟨"RaftTown$Judge", "namePart", "(LRaftTown$Town;I)V"⟩, 3) := ⟨⟨by decide +kernel, by decide +kernel⟩, List.mem_of_getElem? (i := 371) (by decide +kernel), List.mem_of_getElem? (i := 714) (by decide +kernel), List.mem_of_getElem? (i := 715) (by decide +kernel)⟩
theorem lw_p10 : lw_okq (⟨"RaftTown$Judge", "push", "(I)V"⟩, 3) := ⟨⟨by decide +kernel, by decide +kernel⟩, List.mem_of_getElem? (i := 371) (by decide +kernel), List.mem_of_getElem? (i := 757) (by decide +kernel), List.mem_of_getElem? (i := 758) (by decide +kernel)⟩
theorem lw_p11 : lw_okq (⟨"RaftTown$Judge", "pop", "()I"⟩, 3) := ⟨⟨by decide +kernel, by decide +kernel⟩, List.mem_of_getElem? (i := 371) (by decide +kernel), List.mem_of_getElem? (i := 761) (by decide +kernel), List.mem_of_getElem? (i := 762) (by decide +kernel)⟩
theorem lw_p12 : lw_okq (⟨"RaftTown$Town", "partUnder", "(ILRaftTown$Net;)I"⟩, 12) := ⟨⟨by decide +kernel, by decide +kernel⟩, List.mem_of_getElem? (i := 31) (by decide +kernel), List.mem_of_getElem? (i := 824) (by decide +kernel), List.mem_of_getElem? (i := 825) (by decide +kernel)⟩
theorem lw_p13 : lw_okq (⟨"RaftTown$Town", "catchRain", "(I)V"⟩, 12) := ⟨⟨by decide +kernel, by decide +kernel⟩, List.mem_of_getElem? (i := 31) (by decide +kernel), List.mem_of_getElem? (i := 836) (by decide +kernel), List.mem_of_getElem? (i := 837) (by decide +kernel)⟩
theorem lw_p14 : lw_okq (⟨"RaftTown$Town", "waterGardens", "()V"⟩, 12) := ⟨⟨by decide +kernel, by decide +kernel⟩, List.mem_of_getElem? (i := 31) (by decide +kernel), List.mem_of_getElem? (i := 844) (by decide +kernel), List.mem_of_getElem? (i := 845) (by decide +kernel)⟩
theorem lw_p15 : lw_okq (⟨"RaftTown$Town", "drinkAll", "(LRaftTown$Net;)V"⟩, 12) := ⟨⟨by decide +kernel, by decide +kernel⟩, List.mem_of_getElem? (i := 31) (by decide +kernel), List.mem_of_getElem? (i := 848) (by decide +kernel), List.mem_of_getElem? (i := 849) (by decide +kernel)⟩
def lw_privs_1 : List (MethodName × Nat) := [(⟨"RaftTown", "noted", "(I)I"⟩, 8), (⟨"RaftTown", "surveyed", "()LRaftTown$Net;"⟩, 8), (⟨"RaftTown$Net", "reach", "(II)I"⟩, 6), (⟨"RaftTown", "areParents", "(II)Z"⟩, 8), (⟨"RaftTown$Town", "areKin", "(II)Z"⟩, 12), (⟨"RaftTown$Log", "placeOf", "(I)I"⟩, 9), (⟨"RaftTown", "ropeRuling", "(III)I"⟩, 8), (⟨"RaftTown$Judge", "nameNothing", "()V"⟩, 3), (⟨"RaftTown$Net", "weigh", "(I)I"⟩, 6), (⟨"RaftTown$Judge", "namePart", "(LRaftTown$Town;I)V"⟩, 3), (⟨"RaftTown$Judge", "push", "(I)V"⟩, 3), (⟨"RaftTown$Judge", "pop", "()I"⟩, 3), (⟨"RaftTown$Town", "partUnder", "(ILRaftTown$Net;)I"⟩, 12), (⟨"RaftTown$Town", "catchRain", "(I)V"⟩, 12), (⟨"RaftTown$Town", "waterGardens", "()V"⟩, 12), (⟨"RaftTown$Town", "drinkAll", "(LRaftTown$Net;)V"⟩, 12)]
theorem lw_r1 : ∀ q ∈ lw_privs_1, lw_okq q := List.forall_mem_cons.mpr ⟨lw_p0, List.forall_mem_cons.mpr ⟨lw_p1, List.forall_mem_cons.mpr ⟨lw_p2, List.forall_mem_cons.mpr ⟨lw_p3, List.forall_mem_cons.mpr ⟨lw_p4, List.forall_mem_cons.mpr ⟨lw_p5, List.forall_mem_cons.mpr ⟨lw_p6, List.forall_mem_cons.mpr ⟨lw_p7, List.forall_mem_cons.mpr ⟨lw_p8, List.forall_mem_cons.mpr ⟨lw_p9, List.forall_mem_cons.mpr ⟨lw_p10, List.forall_mem_cons.mpr ⟨lw_p11, List.forall_mem_cons.mpr ⟨lw_p12, List.forall_mem_cons.mpr ⟨lw_p13, List.forall_mem_cons.mpr ⟨lw_p14, List.forall_mem_cons.mpr ⟨lw_p15, fun _ h => absurd h List.not_mem_nil⟩⟩⟩⟩⟩⟩⟩⟩⟩⟩⟩⟩⟩⟩⟩⟩
theorem lw_p16 : lw_okq (⟨"RaftTown$Town", "drink", "(II)V"⟩, 12) := ⟨⟨by decide +kernel, by decide +kernel⟩, List.mem_of_getElem? (i := 31) (by decide +kernel), List.mem_of_getElem? (i := 852) (by decide +kernel), List.mem_of_getElem? (i := 853) (by decide +kernel)⟩
theorem lw_p17 : lw_okq (⟨"RaftTown$Town", "fullestOf", "(I)LRaftTown$Raft;"⟩, 12) := ⟨⟨by decide +kernel, by decide +kernel⟩, List.mem_of_getElem? (i := 31) (by decide +kernel), List.mem_of_getElem? (i := 856) (by decide +kernel), List.mem_of_getElem? (i := 857) (by decide +kernel)⟩
theorem lw_p18 : lw_okq (⟨"RaftTown$Town", "lose", "(II)V"⟩, 12) := ⟨⟨by decide +kernel, by decide +kernel⟩, List.mem_of_getElem? (i := 31) (by decide +kernel), List.mem_of_getElem? (i := 861) (by decide +kernel), List.mem_of_getElem? (i := 862) (by decide +kernel)⟩
theorem lw_p19 : lw_okq (⟨"RaftTown$Town", "ageRopes", "(Z)V"⟩, 12) := ⟨⟨by decide +kernel, by decide +kernel⟩, List.mem_of_getElem? (i := 31) (by decide +kernel), List.mem_of_getElem? (i := 865) (by decide +kernel), List.mem_of_getElem? (i := 866) (by decide +kernel)⟩
theorem lw_p20 : lw_okq (⟨"RaftTown$Town", "rot", "(LRaftTown$Net;)V"⟩, 12) := ⟨⟨by decide +kernel, by decide +kernel⟩, List.mem_of_getElem? (i := 31) (by decide +kernel), List.mem_of_getElem? (i := 869) (by decide +kernel), List.mem_of_getElem? (i := 870) (by decide +kernel)⟩
theorem lw_p21 : lw_okq (⟨"RaftTown$Town", "sink", "(ILRaftTown$Net;)V"⟩, 12) := ⟨⟨by decide +kernel, by decide +kernel⟩, List.mem_of_getElem? (i := 31) (by decide +kernel), List.mem_of_getElem? (i := 873) (by decide +kernel), List.mem_of_getElem? (i := 874) (by decide +kernel)⟩
theorem lw_p22 : lw_okq (⟨"RaftTown$Town", "drift", "()V"⟩, 12) := ⟨⟨by decide +kernel, by decide +kernel⟩, List.mem_of_getElem? (i := 31) (by decide +kernel), List.mem_of_getElem? (i := 881) (by decide +kernel), List.mem_of_getElem? (i := 882) (by decide +kernel)⟩
theorem lw_p23 : lw_okq (⟨"RaftTown$Sea", "ledBy", "(II)I"⟩, 3) := ⟨⟨by decide +kernel, by decide +kernel⟩, List.mem_of_getElem? (i := 37) (by decide +kernel), List.mem_of_getElem? (i := 889) (by decide +kernel), List.mem_of_getElem? (i := 890) (by decide +kernel)⟩
theorem lw_p24 : lw_okq (⟨"RaftTown$Tape", "next", "()V"⟩, 7) := ⟨⟨by decide +kernel, by decide +kernel⟩, List.mem_of_getElem? (i := 312) (by decide +kernel), List.mem_of_getElem? (i := 949) (by decide +kernel), List.mem_of_getElem? (i := 950) (by decide +kernel)⟩
theorem lw_p25 : lw_okq (⟨"RaftTown$Tape", "byteAt", "(I)I"⟩, 7) := ⟨⟨by decide +kernel, by decide +kernel⟩, List.mem_of_getElem? (i := 312) (by decide +kernel), List.mem_of_getElem? (i := 953) (by decide +kernel), List.mem_of_getElem? (i := 954) (by decide +kernel)⟩
theorem lw_p26 : lw_okq (⟨"RaftTown$Tape", "nextWord", "()V"⟩, 7) := ⟨⟨by decide +kernel, by decide +kernel⟩, List.mem_of_getElem? (i := 312) (by decide +kernel), List.mem_of_getElem? (i := 961) (by decide +kernel), List.mem_of_getElem? (i := 962) (by decide +kernel)⟩
theorem lw_p27 : lw_okq (⟨"RaftTown$Tape", "standsHere", "(Ljava/lang/String;)Z"⟩, 7) := ⟨⟨by decide +kernel, by decide +kernel⟩, List.mem_of_getElem? (i := 312) (by decide +kernel), List.mem_of_getElem? (i := 984) (by decide +kernel), List.mem_of_getElem? (i := 985) (by decide +kernel)⟩
theorem lw_p28 : lw_okq (⟨"RaftTown$Tape", "nextNumber", "()V"⟩, 7) := ⟨⟨by decide +kernel, by decide +kernel⟩, List.mem_of_getElem? (i := 312) (by decide +kernel), List.mem_of_getElem? (i := 1039) (by decide +kernel), List.mem_of_getElem? (i := 1040) (by decide +kernel)⟩
theorem lw_p29 : lw_okq (⟨"RaftTown$Tape", "readClause", "(II)Z"⟩, 7) := ⟨⟨by decide +kernel, by decide +kernel⟩, List.mem_of_getElem? (i := 312) (by decide +kernel), List.mem_of_getElem? (i := 1046) (by decide +kernel), List.mem_of_getElem? (i := 1047) (by decide +kernel)⟩
theorem lw_p30 : lw_okq (⟨"RaftTown$Tape", "pass", "(I)Z"⟩, 7) := ⟨⟨by decide +kernel, by decide +kernel⟩, List.mem_of_getElem? (i := 312) (by decide +kernel), List.mem_of_getElem? (i := 1050) (by decide +kernel), List.mem_of_getElem? (i := 1051) (by decide +kernel)⟩
theorem lw_p31 : lw_okq (⟨"RaftTown$Tape", "readOr", "(I)Z"⟩, 7) := ⟨⟨by decide +kernel, by decide +kernel⟩, List.mem_of_getElem? (i := 312) (by decide +kernel), List.mem_of_getElem? (i := 1054) (by decide +kernel), List.mem_of_getElem? (i := 1055) (by decide +kernel)⟩
def lw_privs_2 : List (MethodName × Nat) := [(⟨"RaftTown$Town", "drink", "(II)V"⟩, 12), (⟨"RaftTown$Town", "fullestOf", "(I)LRaftTown$Raft;"⟩, 12), (⟨"RaftTown$Town", "lose", "(II)V"⟩, 12), (⟨"RaftTown$Town", "ageRopes", "(Z)V"⟩, 12), (⟨"RaftTown$Town", "rot", "(LRaftTown$Net;)V"⟩, 12), (⟨"RaftTown$Town", "sink", "(ILRaftTown$Net;)V"⟩, 12), (⟨"RaftTown$Town", "drift", "()V"⟩, 12), (⟨"RaftTown$Sea", "ledBy", "(II)I"⟩, 3), (⟨"RaftTown$Tape", "next", "()V"⟩, 7), (⟨"RaftTown$Tape", "byteAt", "(I)I"⟩, 7), (⟨"RaftTown$Tape", "nextWord", "()V"⟩, 7), (⟨"RaftTown$Tape", "standsHere", "(Ljava/lang/String;)Z"⟩, 7), (⟨"RaftTown$Tape", "nextNumber", "()V"⟩, 7), (⟨"RaftTown$Tape", "readClause", "(II)Z"⟩, 7), (⟨"RaftTown$Tape", "pass", "(I)Z"⟩, 7), (⟨"RaftTown$Tape", "readOr", "(I)Z"⟩, 7)]
theorem lw_r2 : ∀ q ∈ lw_privs_2, lw_okq q := List.forall_mem_cons.mpr ⟨lw_p16, List.forall_mem_cons.mpr ⟨lw_p17, List.forall_mem_cons.mpr ⟨lw_p18, List.forall_mem_cons.mpr ⟨lw_p19, List.forall_mem_cons.mpr ⟨lw_p20, List.forall_mem_cons.mpr ⟨lw_p21, List.forall_mem_cons.mpr ⟨lw_p22, List.forall_mem_cons.mpr ⟨lw_p23, List.forall_mem_cons.mpr ⟨lw_p24, List.forall_mem_cons.mpr ⟨lw_p25, List.forall_mem_cons.mpr ⟨lw_p26, List.forall_mem_cons.mpr ⟨lw_p27, List.forall_mem_cons.mpr ⟨lw_p28, List.forall_mem_cons.mpr ⟨lw_p29, List.forall_mem_cons.mpr ⟨lw_p30, List.forall_mem_cons.mpr ⟨lw_p31, fun _ h => absurd h List.not_mem_nil⟩⟩⟩⟩⟩⟩⟩⟩⟩⟩⟩⟩⟩⟩⟩⟩
theorem lw_p32 : lw_okq (⟨"RaftTown$Tape", "readAnd", "(I)Z"⟩, 7) := ⟨⟨by decide +kernel, by decide +kernel⟩, List.mem_of_getElem? (i := 312) (by decide +kernel), List.mem_of_getElem? (i := 1058) (by decide +kernel), List.mem_of_getElem? (i := 1059) (by decide +kernel)⟩
theorem lw_p33 : lw_okq (⟨"RaftTown$Tape", "readNot", "(I)Z"⟩, 7) := ⟨⟨by decide +kernel, by decide +kernel⟩, List.mem_of_getElem? (i := 312) (by decide +kernel), List.mem_of_getElem? (i := 1062) (by decide +kernel), List.mem_of_getElem? (i := 1063) (by decide +kernel)⟩
theorem lw_p34 : lw_okq (⟨"RaftTown$Tape", "readComparison", "(I)Z"⟩, 7) := ⟨⟨by decide +kernel, by decide +kernel⟩, List.mem_of_getElem? (i := 312) (by decide +kernel), List.mem_of_getElem? (i := 1066) (by decide +kernel), List.mem_of_getElem? (i := 1067) (by decide +kernel)⟩
theorem lw_p35 : lw_okq (⟨"RaftTown$Tape", "readSum", "(I)Z"⟩, 7) := ⟨⟨by decide +kernel, by decide +kernel⟩, List.mem_of_getElem? (i := 312) (by decide +kernel), List.mem_of_getElem? (i := 1070) (by decide +kernel), List.mem_of_getElem? (i := 1071) (by decide +kernel)⟩
theorem lw_p36 : lw_okq (⟨"RaftTown$Tape", "readOne", "(I)Z"⟩, 7) := ⟨⟨by decide +kernel, by decide +kernel⟩, List.mem_of_getElem? (i := 312) (by decide +kernel), List.mem_of_getElem? (i := 1074) (by decide +kernel), List.mem_of_getElem? (i := 1075) (by decide +kernel)⟩
theorem lw_p37 : lw_okq (⟨"RaftTown", "lawAt", "(I)I"⟩, 8) := ⟨⟨by decide +kernel, by decide +kernel⟩, List.mem_of_getElem? (i := 23) (by decide +kernel), List.mem_of_getElem? (i := 1113) (by decide +kernel), List.mem_of_getElem? (i := 1114) (by decide +kernel)⟩
theorem lw_p38 : lw_okq (⟨"RaftTown$Net", "ropesOf", "(I)I"⟩, 6) := ⟨⟨by decide +kernel, by decide +kernel⟩, List.mem_of_getElem? (i := 343) (by decide +kernel), List.mem_of_getElem? (i := 1166) (by decide +kernel), List.mem_of_getElem? (i := 1167) (by decide +kernel)⟩
theorem lw_p39 : lw_okq (⟨"RaftTown$Net", "doomed", "(I)I"⟩, 6) := ⟨⟨by decide +kernel, by decide +kernel⟩, List.mem_of_getElem? (i := 343) (by decide +kernel), List.mem_of_getElem? (i := 1170) (by decide +kernel), List.mem_of_getElem? (i := 1171) (by decide +kernel)⟩
theorem lw_p40 : lw_okq (⟨"RaftTown$Net", "doomedOf", "(II)I"⟩, 6) := ⟨⟨by decide +kernel, by decide +kernel⟩, List.mem_of_getElem? (i := 343) (by decide +kernel), List.mem_of_getElem? (i := 1174) (by decide +kernel), List.mem_of_getElem? (i := 1175) (by decide +kernel)⟩
theorem lw_p41 : lw_okq (⟨"RaftTown$Net", "isBridge", "(II)Z"⟩, 6) := ⟨⟨by decide +kernel, by decide +kernel⟩, List.mem_of_getElem? (i := 343) (by decide +kernel), List.mem_of_getElem? (i := 1178) (by decide +kernel), List.mem_of_getElem? (i := 1179) (by decide +kernel)⟩
theorem lw_p42 : lw_okq (⟨"RaftTown$Net", "bridgesOf", "(I)I"⟩, 6) := ⟨⟨by decide +kernel, by decide +kernel⟩, List.mem_of_getElem? (i := 343) (by decide +kernel), List.mem_of_getElem? (i := 1182) (by decide +kernel), List.mem_of_getElem? (i := 1183) (by decide +kernel)⟩
theorem lw_p43 : lw_okq (⟨"RaftTown$Net", "holds", "(II)Z"⟩, 6) := ⟨⟨by decide +kernel, by decide +kernel⟩, List.mem_of_getElem? (i := 343) (by decide +kernel), List.mem_of_getElem? (i := 1187) (by decide +kernel), List.mem_of_getElem? (i := 1188) (by decide +kernel)⟩
theorem lw_p44 : lw_okq (⟨"RaftTown$Net", "mostKept", "(II)I"⟩, 6) := ⟨⟨by decide +kernel, by decide +kernel⟩, List.mem_of_getElem? (i := 343) (by decide +kernel), List.mem_of_getElem? (i := 1199) (by decide +kernel), List.mem_of_getElem? (i := 1200) (by decide +kernel)⟩
theorem lw_p45 : lw_okq (⟨"RaftTown", "hasSail", "(I)Z"⟩, 8) := ⟨⟨by decide +kernel, by decide +kernel⟩, List.mem_of_getElem? (i := 23) (by decide +kernel), List.mem_of_getElem? (i := 1223) (by decide +kernel), List.mem_of_getElem? (i := 1224) (by decide +kernel)⟩
theorem lw_p46 : lw_okq (⟨"RaftTown$Sea", "aDayOn", "(J)J"⟩, 3) := ⟨⟨by decide +kernel, by decide +kernel⟩, List.mem_of_getElem? (i := 37) (by decide +kernel), List.mem_of_getElem? (i := 1236) (by decide +kernel), List.mem_of_getElem? (i := 1237) (by decide +kernel)⟩
theorem lw_p47 : lw_okq (⟨"RaftTownModel", "finds", "(I)I"⟩, 26) := ⟨⟨by decide +kernel, by decide +kernel⟩, List.mem_of_getElem? (i := 1338) (by decide +kernel), List.mem_of_getElem? (i := 1433) (by decide +kernel), List.mem_of_getElem? (i := 1434) (by decide +kernel)⟩
def lw_privs_3 : List (MethodName × Nat) := [(⟨"RaftTown$Tape", "readAnd", "(I)Z"⟩, 7), (⟨"RaftTown$Tape", "readNot", "(I)Z"⟩, 7), (⟨"RaftTown$Tape", "readComparison", "(I)Z"⟩, 7), (⟨"RaftTown$Tape", "readSum", "(I)Z"⟩, 7), (⟨"RaftTown$Tape", "readOne", "(I)Z"⟩, 7), (⟨"RaftTown", "lawAt", "(I)I"⟩, 8), (⟨"RaftTown$Net", "ropesOf", "(I)I"⟩, 6), (⟨"RaftTown$Net", "doomed", "(I)I"⟩, 6), (⟨"RaftTown$Net", "doomedOf", "(II)I"⟩, 6), (⟨"RaftTown$Net", "isBridge", "(II)Z"⟩, 6), (⟨"RaftTown$Net", "bridgesOf", "(I)I"⟩, 6), (⟨"RaftTown$Net", "holds", "(II)Z"⟩, 6), (⟨"RaftTown$Net", "mostKept", "(II)I"⟩, 6), (⟨"RaftTown", "hasSail", "(I)Z"⟩, 8), (⟨"RaftTown$Sea", "aDayOn", "(J)J"⟩, 3), (⟨"RaftTownModel", "finds", "(I)I"⟩, 26)]
theorem lw_r3 : ∀ q ∈ lw_privs_3, lw_okq q := List.forall_mem_cons.mpr ⟨lw_p32, List.forall_mem_cons.mpr ⟨lw_p33, List.forall_mem_cons.mpr ⟨lw_p34, List.forall_mem_cons.mpr ⟨lw_p35, List.forall_mem_cons.mpr ⟨lw_p36, List.forall_mem_cons.mpr ⟨lw_p37, List.forall_mem_cons.mpr ⟨lw_p38, List.forall_mem_cons.mpr ⟨lw_p39, List.forall_mem_cons.mpr ⟨lw_p40, List.forall_mem_cons.mpr ⟨lw_p41, List.forall_mem_cons.mpr ⟨lw_p42, List.forall_mem_cons.mpr ⟨lw_p43, List.forall_mem_cons.mpr ⟨lw_p44, List.forall_mem_cons.mpr ⟨lw_p45, List.forall_mem_cons.mpr ⟨lw_p46, List.forall_mem_cons.mpr ⟨lw_p47, fun _ h => absurd h List.not_mem_nil⟩⟩⟩⟩⟩⟩⟩⟩⟩⟩⟩⟩⟩⟩⟩⟩
theorem lw_p48 : lw_okq (⟨"RaftTownModel", "makes", "(III)V"⟩, 26) := ⟨⟨by decide +kernel, by decide +kernel⟩, List.mem_of_getElem? (i := 1338) (by decide +kernel), List.mem_of_getElem? (i := 1442) (by decide +kernel), List.mem_of_getElem? (i := 1443) (by decide +kernel)⟩
theorem lw_p49 : lw_okq (⟨"RaftTownModel", "isFloat", "(I)Z"⟩, 26) := ⟨⟨by decide +kernel, by decide +kernel⟩, List.mem_of_getElem? (i := 1338) (by decide +kernel), List.mem_of_getElem? (i := 1450) (by decide +kernel), List.mem_of_getElem? (i := 1451) (by decide +kernel)⟩
theorem lw_p50 : lw_okq (⟨"RaftTownModel", "own", "(II)I"⟩, 26) := ⟨⟨by decide +kernel, by decide +kernel⟩, List.mem_of_getElem? (i := 1338) (by decide +kernel), List.mem_of_getElem? (i := 1454) (by decide +kernel), List.mem_of_getElem? (i := 1455) (by decide +kernel)⟩
theorem lw_p51 : lw_okq (⟨"RaftTownModel", "weightOf", "(I)I"⟩, 26) := ⟨⟨by decide +kernel, by decide +kernel⟩, List.mem_of_getElem? (i := 1338) (by decide +kernel), List.mem_of_getElem? (i := 1463) (by decide +kernel), List.mem_of_getElem? (i := 1464) (by decide +kernel)⟩
theorem lw_p52 : lw_okq (⟨"RaftTownModel", "isOn", "(II)Z"⟩, 26) := ⟨⟨by decide +kernel, by decide +kernel⟩, List.mem_of_getElem? (i := 1338) (by decide +kernel), List.mem_of_getElem? (i := 1467) (by decide +kernel), List.mem_of_getElem? (i := 1468) (by decide +kernel)⟩
theorem lw_p53 : lw_okq (⟨"RaftTownModel", "isLost", "(I)Z"⟩, 26) := ⟨⟨by decide +kernel, by decide +kernel⟩, List.mem_of_getElem? (i := 1338) (by decide +kernel), List.mem_of_getElem? (i := 1471) (by decide +kernel), List.mem_of_getElem? (i := 1472) (by decide +kernel)⟩
theorem lw_p54 : lw_okq (⟨"RaftTownModel", "ofPerson", "(II)I"⟩, 26) := ⟨⟨by decide +kernel, by decide +kernel⟩, List.mem_of_getElem? (i := 1338) (by decide +kernel), List.mem_of_getElem? (i := 1475) (by decide +kernel), List.mem_of_getElem? (i := 1476) (by decide +kernel)⟩
theorem lw_p55 : lw_okq (⟨"RaftTownModel", "areaOf", "(I)I"⟩, 26) := ⟨⟨by decide +kernel, by decide +kernel⟩, List.mem_of_getElem? (i := 1338) (by decide +kernel), List.mem_of_getElem? (i := 1479) (by decide +kernel), List.mem_of_getElem? (i := 1480) (by decide +kernel)⟩
theorem lw_p56 : lw_okq (⟨"RaftTownModel", "allRopes", "()I"⟩, 26) := ⟨⟨by decide +kernel, by decide +kernel⟩, List.mem_of_getElem? (i := 1338) (by decide +kernel), List.mem_of_getElem? (i := 1483) (by decide +kernel), List.mem_of_getElem? (i := 1484) (by decide +kernel)⟩
theorem lw_p57 : lw_okq (⟨"RaftTownModel", "isLaid", "(I)Z"⟩, 26) := ⟨⟨by decide +kernel, by decide +kernel⟩, List.mem_of_getElem? (i := 1338) (by decide +kernel), List.mem_of_getElem? (i := 1487) (by decide +kernel), List.mem_of_getElem? (i := 1488) (by decide +kernel)⟩
theorem lw_p58 : lw_okq (⟨"RaftTownModel", "ofRope", "(II)I"⟩, 26) := ⟨⟨by decide +kernel, by decide +kernel⟩, List.mem_of_getElem? (i := 1338) (by decide +kernel), List.mem_of_getElem? (i := 1491) (by decide +kernel), List.mem_of_getElem? (i := 1492) (by decide +kernel)⟩
theorem lw_p59 : lw_okq (⟨"RaftTownModel", "partOf", "(II)I"⟩, 26) := ⟨⟨by decide +kernel, by decide +kernel⟩, List.mem_of_getElem? (i := 1338) (by decide +kernel), List.mem_of_getElem? (i := 1495) (by decide +kernel), List.mem_of_getElem? (i := 1496) (by decide +kernel)⟩
theorem lw_p60 : lw_okq (⟨"RaftTownModel", "isSunk", "(I)Z"⟩, 26) := ⟨⟨by decide +kernel, by decide +kernel⟩, List.mem_of_getElem? (i := 1338) (by decide +kernel), List.mem_of_getElem? (i := 1506) (by decide +kernel), List.mem_of_getElem? (i := 1507) (by decide +kernel)⟩
theorem lw_p61 : lw_okq (⟨"RaftTownModel", "roomOf", "(I)I"⟩, 26) := ⟨⟨by decide +kernel, by decide +kernel⟩, List.mem_of_getElem? (i := 1338) (by decide +kernel), List.mem_of_getElem? (i := 1511) (by decide +kernel), List.mem_of_getElem? (i := 1512) (by decide +kernel)⟩
theorem lw_p62 : lw_okq (⟨"RaftTownModel", "isPerson", "(I)Z"⟩, 26) := ⟨⟨by decide +kernel, by decide +kernel⟩, List.mem_of_getElem? (i := 1338) (by decide +kernel), List.mem_of_getElem? (i := 1530) (by decide +kernel), List.mem_of_getElem? (i := 1531) (by decide +kernel)⟩
theorem lw_p63 : lw_okq (⟨"RaftTownModel", "areKin", "(II)Z"⟩, 26) := ⟨⟨by decide +kernel, by decide +kernel⟩, List.mem_of_getElem? (i := 1338) (by decide +kernel), List.mem_of_getElem? (i := 1543) (by decide +kernel), List.mem_of_getElem? (i := 1544) (by decide +kernel)⟩
def lw_privs_4 : List (MethodName × Nat) := [(⟨"RaftTownModel", "makes", "(III)V"⟩, 26), (⟨"RaftTownModel", "isFloat", "(I)Z"⟩, 26), (⟨"RaftTownModel", "own", "(II)I"⟩, 26), (⟨"RaftTownModel", "weightOf", "(I)I"⟩, 26), (⟨"RaftTownModel", "isOn", "(II)Z"⟩, 26), (⟨"RaftTownModel", "isLost", "(I)Z"⟩, 26), (⟨"RaftTownModel", "ofPerson", "(II)I"⟩, 26), (⟨"RaftTownModel", "areaOf", "(I)I"⟩, 26), (⟨"RaftTownModel", "allRopes", "()I"⟩, 26), (⟨"RaftTownModel", "isLaid", "(I)Z"⟩, 26), (⟨"RaftTownModel", "ofRope", "(II)I"⟩, 26), (⟨"RaftTownModel", "partOf", "(II)I"⟩, 26), (⟨"RaftTownModel", "isSunk", "(I)Z"⟩, 26), (⟨"RaftTownModel", "roomOf", "(I)I"⟩, 26), (⟨"RaftTownModel", "isPerson", "(I)Z"⟩, 26), (⟨"RaftTownModel", "areKin", "(II)Z"⟩, 26)]
theorem lw_r4 : ∀ q ∈ lw_privs_4, lw_okq q := List.forall_mem_cons.mpr ⟨lw_p48, List.forall_mem_cons.mpr ⟨lw_p49, List.forall_mem_cons.mpr ⟨lw_p50, List.forall_mem_cons.mpr ⟨lw_p51, List.forall_mem_cons.mpr ⟨lw_p52, List.forall_mem_cons.mpr ⟨lw_p53, List.forall_mem_cons.mpr ⟨lw_p54, List.forall_mem_cons.mpr ⟨lw_p55, List.forall_mem_cons.mpr ⟨lw_p56, List.forall_mem_cons.mpr ⟨lw_p57, List.forall_mem_cons.mpr ⟨lw_p58, List.forall_mem_cons.mpr ⟨lw_p59, List.forall_mem_cons.mpr ⟨lw_p60, List.forall_mem_cons.mpr ⟨lw_p61, List.forall_mem_cons.mpr ⟨lw_p62, List.forall_mem_cons.mpr ⟨lw_p63, fun _ h => absurd h List.not_mem_nil⟩⟩⟩⟩⟩⟩⟩⟩⟩⟩⟩⟩⟩⟩⟩⟩
theorem lw_p64 : lw_okq (⟨"RaftTownModel", "isParent", "(II)Z"⟩, 26) := ⟨⟨by decide +kernel, by decide +kernel⟩, List.mem_of_getElem? (i := 1338) (by decide +kernel), List.mem_of_getElem? (i := 1547) (by decide +kernel), List.mem_of_getElem? (i := 1548) (by decide +kernel)⟩
theorem lw_p65 : lw_okq (⟨"RaftTownModel", "partMany", "()I"⟩, 26) := ⟨⟨by decide +kernel, by decide +kernel⟩, List.mem_of_getElem? (i := 1338) (by decide +kernel), List.mem_of_getElem? (i := 1555) (by decide +kernel), List.mem_of_getElem? (i := 1556) (by decide +kernel)⟩
theorem lw_p66 : lw_okq (⟨"RaftTownModel", "hasRoom", "(II)Z"⟩, 26) := ⟨⟨by decide +kernel, by decide +kernel⟩, List.mem_of_getElem? (i := 1338) (by decide +kernel), List.mem_of_getElem? (i := 1567) (by decide +kernel), List.mem_of_getElem? (i := 1568) (by decide +kernel)⟩
theorem lw_p67 : lw_okq (⟨"RaftTownModel", "tellsOn", "(I)V"⟩, 26) := ⟨⟨by decide +kernel, by decide +kernel⟩, List.mem_of_getElem? (i := 1338) (by decide +kernel), List.mem_of_getElem? (i := 1571) (by decide +kernel), List.mem_of_getElem? (i := 1572) (by decide +kernel)⟩
theorem lw_p68 : lw_okq (⟨"RaftTownModel", "happens", "(III)V"⟩, 26) := ⟨⟨by decide +kernel, by decide +kernel⟩, List.mem_of_getElem? (i := 1338) (by decide +kernel), List.mem_of_getElem? (i := 1575) (by decide +kernel), List.mem_of_getElem? (i := 1576) (by decide +kernel)⟩
theorem lw_p69 : lw_okq (⟨"RaftTownModel", "isRope", "(I)Z"⟩, 26) := ⟨⟨by decide +kernel, by decide +kernel⟩, List.mem_of_getElem? (i := 1338) (by decide +kernel), List.mem_of_getElem? (i := 1583) (by decide +kernel), List.mem_of_getElem? (i := 1584) (by decide +kernel)⟩
theorem lw_p70 : lw_okq (⟨"RaftTownModel", "strengthOf", "(I)I"⟩, 26) := ⟨⟨by decide +kernel, by decide +kernel⟩, List.mem_of_getElem? (i := 1338) (by decide +kernel), List.mem_of_getElem? (i := 1587) (by decide +kernel), List.mem_of_getElem? (i := 1588) (by decide +kernel)⟩
theorem lw_p71 : lw_okq (⟨"RaftTownModel", "weighs", "()V"⟩, 26) := ⟨⟨by decide +kernel, by decide +kernel⟩, List.mem_of_getElem? (i := 1338) (by decide +kernel), List.mem_of_getElem? (i := 1591) (by decide +kernel), List.mem_of_getElem? (i := 1592) (by decide +kernel)⟩
theorem lw_p72 : lw_okq (⟨"RaftTownModel", "hangOf", "(II)I"⟩, 26) := ⟨⟨by decide +kernel, by decide +kernel⟩, List.mem_of_getElem? (i := 1338) (by decide +kernel), List.mem_of_getElem? (i := 1595) (by decide +kernel), List.mem_of_getElem? (i := 1596) (by decide +kernel)⟩
theorem lw_p73 : lw_okq (⟨"RaftTownModel", "weightOfAll", "(I)I"⟩, 26) := ⟨⟨by decide +kernel, by decide +kernel⟩, List.mem_of_getElem? (i := 1338) (by decide +kernel), List.mem_of_getElem? (i := 1599) (by decide +kernel), List.mem_of_getElem? (i := 1600) (by decide +kernel)⟩
theorem lw_p74 : lw_okq (⟨"RaftTownModel", "loadOf", "(III)I"⟩, 26) := ⟨⟨by decide +kernel, by decide +kernel⟩, List.mem_of_getElem? (i := 1338) (by decide +kernel), List.mem_of_getElem? (i := 1610) (by decide +kernel), List.mem_of_getElem? (i := 1611) (by decide +kernel)⟩
theorem lw_p75 : lw_okq (⟨"RaftTownModel", "partsFirst", "(II)I"⟩, 26) := ⟨⟨by decide +kernel, by decide +kernel⟩, List.mem_of_getElem? (i := 1338) (by decide +kernel), List.mem_of_getElem? (i := 1618) (by decide +kernel), List.mem_of_getElem? (i := 1619) (by decide +kernel)⟩
theorem lw_p76 : lw_okq (⟨"RaftTownModel", "passes", "(II)I"⟩, 26) := ⟨⟨by decide +kernel, by decide +kernel⟩, List.mem_of_getElem? (i := 1338) (by decide +kernel), List.mem_of_getElem? (i := 1634) (by decide +kernel), List.mem_of_getElem? (i := 1635) (by decide +kernel)⟩
theorem lw_p77 : lw_okq (⟨"RaftTownModel", "partsAll", "(I)I"⟩, 26) := ⟨⟨by decide +kernel, by decide +kernel⟩, List.mem_of_getElem? (i := 1338) (by decide +kernel), List.mem_of_getElem? (i := 1638) (by decide +kernel), List.mem_of_getElem? (i := 1639) (by decide +kernel)⟩
theorem lw_p78 : lw_okq (⟨"RaftTownModel", "rains", "(I)V"⟩, 26) := ⟨⟨by decide +kernel, by decide +kernel⟩, List.mem_of_getElem? (i := 1338) (by decide +kernel), List.mem_of_getElem? (i := 1642) (by decide +kernel), List.mem_of_getElem? (i := 1643) (by decide +kernel)⟩
theorem lw_p79 : lw_okq (⟨"RaftTownModel", "drinks", "(I)Z"⟩, 26) := ⟨⟨by decide +kernel, by decide +kernel⟩, List.mem_of_getElem? (i := 1338) (by decide +kernel), List.mem_of_getElem? (i := 1646) (by decide +kernel), List.mem_of_getElem? (i := 1647) (by decide +kernel)⟩
def lw_privs_5 : List (MethodName × Nat) := [(⟨"RaftTownModel", "isParent", "(II)Z"⟩, 26), (⟨"RaftTownModel", "partMany", "()I"⟩, 26), (⟨"RaftTownModel", "hasRoom", "(II)Z"⟩, 26), (⟨"RaftTownModel", "tellsOn", "(I)V"⟩, 26), (⟨"RaftTownModel", "happens", "(III)V"⟩, 26), (⟨"RaftTownModel", "isRope", "(I)Z"⟩, 26), (⟨"RaftTownModel", "strengthOf", "(I)I"⟩, 26), (⟨"RaftTownModel", "weighs", "()V"⟩, 26), (⟨"RaftTownModel", "hangOf", "(II)I"⟩, 26), (⟨"RaftTownModel", "weightOfAll", "(I)I"⟩, 26), (⟨"RaftTownModel", "loadOf", "(III)I"⟩, 26), (⟨"RaftTownModel", "partsFirst", "(II)I"⟩, 26), (⟨"RaftTownModel", "passes", "(II)I"⟩, 26), (⟨"RaftTownModel", "partsAll", "(I)I"⟩, 26), (⟨"RaftTownModel", "rains", "(I)V"⟩, 26), (⟨"RaftTownModel", "drinks", "(I)Z"⟩, 26)]
theorem lw_r5 : ∀ q ∈ lw_privs_5, lw_okq q := List.forall_mem_cons.mpr ⟨lw_p64, List.forall_mem_cons.mpr ⟨lw_p65, List.forall_mem_cons.mpr ⟨lw_p66, List.forall_mem_cons.mpr ⟨lw_p67, List.forall_mem_cons.mpr ⟨lw_p68, List.forall_mem_cons.mpr ⟨lw_p69, List.forall_mem_cons.mpr ⟨lw_p70, List.forall_mem_cons.mpr ⟨lw_p71, List.forall_mem_cons.mpr ⟨lw_p72, List.forall_mem_cons.mpr ⟨lw_p73, List.forall_mem_cons.mpr ⟨lw_p74, List.forall_mem_cons.mpr ⟨lw_p75, List.forall_mem_cons.mpr ⟨lw_p76, List.forall_mem_cons.mpr ⟨lw_p77, List.forall_mem_cons.mpr ⟨lw_p78, List.forall_mem_cons.mpr ⟨lw_p79, fun _ h => absurd h List.not_mem_nil⟩⟩⟩⟩⟩⟩⟩⟩⟩⟩⟩⟩⟩⟩⟩⟩
theorem lw_p80 : lw_okq (⟨"RaftTownModel", "allDrink", "()V"⟩, 26) := ⟨⟨by decide +kernel, by decide +kernel⟩, List.mem_of_getElem? (i := 1338) (by decide +kernel), List.mem_of_getElem? (i := 1650) (by decide +kernel), List.mem_of_getElem? (i := 1651) (by decide +kernel)⟩
theorem lw_p81 : lw_okq (⟨"RaftTownModel", "loses", "(II)V"⟩, 26) := ⟨⟨by decide +kernel, by decide +kernel⟩, List.mem_of_getElem? (i := 1338) (by decide +kernel), List.mem_of_getElem? (i := 1654) (by decide +kernel), List.mem_of_getElem? (i := 1655) (by decide +kernel)⟩
theorem lw_p82 : lw_okq (⟨"RaftTownModel", "ropesAge", "(I)V"⟩, 26) := ⟨⟨by decide +kernel, by decide +kernel⟩, List.mem_of_getElem? (i := 1338) (by decide +kernel), List.mem_of_getElem? (i := 1658) (by decide +kernel), List.mem_of_getElem? (i := 1659) (by decide +kernel)⟩
theorem lw_p83 : lw_okq (⟨"RaftTownModel", "rots", "()V"⟩, 26) := ⟨⟨by decide +kernel, by decide +kernel⟩, List.mem_of_getElem? (i := 1338) (by decide +kernel), List.mem_of_getElem? (i := 1662) (by decide +kernel), List.mem_of_getElem? (i := 1663) (by decide +kernel)⟩
theorem lw_p84 : lw_okq (⟨"RaftTownModel", "sinks", "(I)V"⟩, 26) := ⟨⟨by decide +kernel, by decide +kernel⟩, List.mem_of_getElem? (i := 1338) (by decide +kernel), List.mem_of_getElem? (i := 1666) (by decide +kernel), List.mem_of_getElem? (i := 1667) (by decide +kernel)⟩
theorem lw_p85 : lw_okq (⟨"RaftTownModel", "drifts", "()V"⟩, 26) := ⟨⟨by decide +kernel, by decide +kernel⟩, List.mem_of_getElem? (i := 1338) (by decide +kernel), List.mem_of_getElem? (i := 1670) (by decide +kernel), List.mem_of_getElem? (i := 1671) (by decide +kernel)⟩
theorem lw_p86 : lw_okq (⟨"RaftTownModel", "leads", "(II)I"⟩, 26) := ⟨⟨by decide +kernel, by decide +kernel⟩, List.mem_of_getElem? (i := 1338) (by decide +kernel), List.mem_of_getElem? (i := 1674) (by decide +kernel), List.mem_of_getElem? (i := 1675) (by decide +kernel)⟩
theorem lw_p87 : lw_okq (⟨"RaftTownModel", "headsOf", "(I)I"⟩, 26) := ⟨⟨by decide +kernel, by decide +kernel⟩, List.mem_of_getElem? (i := 1338) (by decide +kernel), List.mem_of_getElem? (i := 1689) (by decide +kernel), List.mem_of_getElem? (i := 1690) (by decide +kernel)⟩
theorem lw_p88 : lw_okq (⟨"RaftTownModel", "waterOf", "(I)I"⟩, 26) := ⟨⟨by decide +kernel, by decide +kernel⟩, List.mem_of_getElem? (i := 1338) (by decide +kernel), List.mem_of_getElem? (i := 1693) (by decide +kernel), List.mem_of_getElem? (i := 1694) (by decide +kernel)⟩
theorem lw_p89 : lw_okq (⟨"RaftTownModel", "reads", "()Z"⟩, 26) := ⟨⟨by decide +kernel, by decide +kernel⟩, List.mem_of_getElem? (i := 1338) (by decide +kernel), List.mem_of_getElem? (i := 1705) (by decide +kernel), List.mem_of_getElem? (i := 1706) (by decide +kernel)⟩
theorem lw_p90 : lw_okq (⟨"RaftTownModel", "looks", "()V"⟩, 26) := ⟨⟨by decide +kernel, by decide +kernel⟩, List.mem_of_getElem? (i := 1338) (by decide +kernel), List.mem_of_getElem? (i := 1709) (by decide +kernel), List.mem_of_getElem? (i := 1710) (by decide +kernel)⟩
theorem lw_p91 : lw_okq (⟨"RaftTownModel", "byteAt", "(I)I"⟩, 26) := ⟨⟨by decide +kernel, by decide +kernel⟩, List.mem_of_getElem? (i := 1338) (by decide +kernel), List.mem_of_getElem? (i := 1713) (by decide +kernel), List.mem_of_getElem? (i := 1714) (by decide +kernel)⟩
theorem lw_p92 : lw_okq (⟨"RaftTownModel", "wordOf", "()I"⟩, 26) := ⟨⟨by decide +kernel, by decide +kernel⟩, List.mem_of_getElem? (i := 1338) (by decide +kernel), List.mem_of_getElem? (i := 1720) (by decide +kernel), List.mem_of_getElem? (i := 1721) (by decide +kernel)⟩
theorem lw_p93 : lw_okq (⟨"RaftTownModel", "readsE", "(I)Z"⟩, 26) := ⟨⟨by decide +kernel, by decide +kernel⟩, List.mem_of_getElem? (i := 1338) (by decide +kernel), List.mem_of_getElem? (i := 1730) (by decide +kernel), List.mem_of_getElem? (i := 1731) (by decide +kernel)⟩
theorem lw_p94 : lw_okq (⟨"RaftTownModel", "waitsOf", "(I)I"⟩, 26) := ⟨⟨by decide +kernel, by decide +kernel⟩, List.mem_of_getElem? (i := 1338) (by decide +kernel), List.mem_of_getElem? (i := 1734) (by decide +kernel), List.mem_of_getElem? (i := 1735) (by decide +kernel)⟩
theorem lw_p95 : lw_okq (⟨"RaftTownModel", "lays", "(I)V"⟩, 26) := ⟨⟨by decide +kernel, by decide +kernel⟩, List.mem_of_getElem? (i := 1338) (by decide +kernel), List.mem_of_getElem? (i := 1738) (by decide +kernel), List.mem_of_getElem? (i := 1739) (by decide +kernel)⟩
def lw_privs_6 : List (MethodName × Nat) := [(⟨"RaftTownModel", "allDrink", "()V"⟩, 26), (⟨"RaftTownModel", "loses", "(II)V"⟩, 26), (⟨"RaftTownModel", "ropesAge", "(I)V"⟩, 26), (⟨"RaftTownModel", "rots", "()V"⟩, 26), (⟨"RaftTownModel", "sinks", "(I)V"⟩, 26), (⟨"RaftTownModel", "drifts", "()V"⟩, 26), (⟨"RaftTownModel", "leads", "(II)I"⟩, 26), (⟨"RaftTownModel", "headsOf", "(I)I"⟩, 26), (⟨"RaftTownModel", "waterOf", "(I)I"⟩, 26), (⟨"RaftTownModel", "reads", "()Z"⟩, 26), (⟨"RaftTownModel", "looks", "()V"⟩, 26), (⟨"RaftTownModel", "byteAt", "(I)I"⟩, 26), (⟨"RaftTownModel", "wordOf", "()I"⟩, 26), (⟨"RaftTownModel", "readsE", "(I)Z"⟩, 26), (⟨"RaftTownModel", "waitsOf", "(I)I"⟩, 26), (⟨"RaftTownModel", "lays", "(I)V"⟩, 26)]
theorem lw_r6 : ∀ q ∈ lw_privs_6, lw_okq q := List.forall_mem_cons.mpr ⟨lw_p80, List.forall_mem_cons.mpr ⟨lw_p81, List.forall_mem_cons.mpr ⟨lw_p82, List.forall_mem_cons.mpr ⟨lw_p83, List.forall_mem_cons.mpr ⟨lw_p84, List.forall_mem_cons.mpr ⟨lw_p85, List.forall_mem_cons.mpr ⟨lw_p86, List.forall_mem_cons.mpr ⟨lw_p87, List.forall_mem_cons.mpr ⟨lw_p88, List.forall_mem_cons.mpr ⟨lw_p89, List.forall_mem_cons.mpr ⟨lw_p90, List.forall_mem_cons.mpr ⟨lw_p91, List.forall_mem_cons.mpr ⟨lw_p92, List.forall_mem_cons.mpr ⟨lw_p93, List.forall_mem_cons.mpr ⟨lw_p94, List.forall_mem_cons.mpr ⟨lw_p95, fun _ h => absurd h List.not_mem_nil⟩⟩⟩⟩⟩⟩⟩⟩⟩⟩⟩⟩⟩⟩⟩⟩
theorem lw_p96 : lw_okq (⟨"RaftTownModel", "settles", "(I)V"⟩, 26) := ⟨⟨by decide +kernel, by decide +kernel⟩, List.mem_of_getElem? (i := 1338) (by decide +kernel), List.mem_of_getElem? (i := 1742) (by decide +kernel), List.mem_of_getElem? (i := 1743) (by decide +kernel)⟩
theorem lw_p97 : lw_okq (⟨"RaftTownModel", "isTested", "()Z"⟩, 26) := ⟨⟨by decide +kernel, by decide +kernel⟩, List.mem_of_getElem? (i := 1338) (by decide +kernel), List.mem_of_getElem? (i := 1749) (by decide +kernel), List.mem_of_getElem? (i := 1750) (by decide +kernel)⟩
theorem lw_p98 : lw_okq (⟨"RaftTownModel", "lawOf", "(I)I"⟩, 26) := ⟨⟨by decide +kernel, by decide +kernel⟩, List.mem_of_getElem? (i := 1338) (by decide +kernel), List.mem_of_getElem? (i := 1761) (by decide +kernel), List.mem_of_getElem? (i := 1762) (by decide +kernel)⟩
theorem lw_p99 : lw_okq (⟨"RaftTownModel", "cutOf", "(IIII)I"⟩, 26) := ⟨⟨by decide +kernel, by decide +kernel⟩, List.mem_of_getElem? (i := 1338) (by decide +kernel), List.mem_of_getElem? (i := 1769) (by decide +kernel), List.mem_of_getElem? (i := 1770) (by decide +kernel)⟩
theorem lw_p100 : lw_okq (⟨"RaftTownModel", "namesOf", "(I)V"⟩, 26) := ⟨⟨by decide +kernel, by decide +kernel⟩, List.mem_of_getElem? (i := 1338) (by decide +kernel), List.mem_of_getElem? (i := 1773) (by decide +kernel), List.mem_of_getElem? (i := 1774) (by decide +kernel)⟩
theorem lw_p101 : lw_okq (⟨"RaftTownModel", "kinOn", "(II)I"⟩, 26) := ⟨⟨by decide +kernel, by decide +kernel⟩, List.mem_of_getElem? (i := 1338) (by decide +kernel), List.mem_of_getElem? (i := 1777) (by decide +kernel), List.mem_of_getElem? (i := 1778) (by decide +kernel)⟩
theorem lw_p102 : lw_okq (⟨"RaftTownModel", "worth", "(II)I"⟩, 26) := ⟨⟨by decide +kernel, by decide +kernel⟩, List.mem_of_getElem? (i := 1338) (by decide +kernel), List.mem_of_getElem? (i := 1781) (by decide +kernel), List.mem_of_getElem? (i := 1782) (by decide +kernel)⟩
theorem lw_p103 : lw_okq (⟨"RaftTownModel", "holds", "(II)Z"⟩, 26) := ⟨⟨by decide +kernel, by decide +kernel⟩, List.mem_of_getElem? (i := 1338) (by decide +kernel), List.mem_of_getElem? (i := 1808) (by decide +kernel), List.mem_of_getElem? (i := 1809) (by decide +kernel)⟩
theorem lw_p104 : lw_okq (⟨"RaftTownModel", "lostBy", "(II)I"⟩, 26) := ⟨⟨by decide +kernel, by decide +kernel⟩, List.mem_of_getElem? (i := 1338) (by decide +kernel), List.mem_of_getElem? (i := 1816) (by decide +kernel), List.mem_of_getElem? (i := 1817) (by decide +kernel)⟩
theorem lw_p105 : lw_okq (⟨"RaftTownModel", "hasSail", "(I)Z"⟩, 26) := ⟨⟨by decide +kernel, by decide +kernel⟩, List.mem_of_getElem? (i := 1338) (by decide +kernel), List.mem_of_getElem? (i := 1828) (by decide +kernel), List.mem_of_getElem? (i := 1829) (by decide +kernel)⟩
theorem lw_p106 : lw_okq (⟨"RaftTownModel", "copies", "()V"⟩, 26) := ⟨⟨by decide +kernel, by decide +kernel⟩, List.mem_of_getElem? (i := 1338) (by decide +kernel), List.mem_of_getElem? (i := 1835) (by decide +kernel), List.mem_of_getElem? (i := 1836) (by decide +kernel)⟩
def lw_privs_7 : List (MethodName × Nat) := [(⟨"RaftTownModel", "settles", "(I)V"⟩, 26), (⟨"RaftTownModel", "isTested", "()Z"⟩, 26), (⟨"RaftTownModel", "lawOf", "(I)I"⟩, 26), (⟨"RaftTownModel", "cutOf", "(IIII)I"⟩, 26), (⟨"RaftTownModel", "namesOf", "(I)V"⟩, 26), (⟨"RaftTownModel", "kinOn", "(II)I"⟩, 26), (⟨"RaftTownModel", "worth", "(II)I"⟩, 26), (⟨"RaftTownModel", "holds", "(II)Z"⟩, 26), (⟨"RaftTownModel", "lostBy", "(II)I"⟩, 26), (⟨"RaftTownModel", "hasSail", "(I)Z"⟩, 26), (⟨"RaftTownModel", "copies", "()V"⟩, 26)]
theorem lw_r7 : ∀ q ∈ lw_privs_7, lw_okq q := List.forall_mem_cons.mpr ⟨lw_p96, List.forall_mem_cons.mpr ⟨lw_p97, List.forall_mem_cons.mpr ⟨lw_p98, List.forall_mem_cons.mpr ⟨lw_p99, List.forall_mem_cons.mpr ⟨lw_p100, List.forall_mem_cons.mpr ⟨lw_p101, List.forall_mem_cons.mpr ⟨lw_p102, List.forall_mem_cons.mpr ⟨lw_p103, List.forall_mem_cons.mpr ⟨lw_p104, List.forall_mem_cons.mpr ⟨lw_p105, List.forall_mem_cons.mpr ⟨lw_p106, fun _ h => absurd h List.not_mem_nil⟩⟩⟩⟩⟩⟩⟩⟩⟩⟩⟩
def lw_privs : List (MethodName × Nat) := lw_privs_1 ++ (lw_privs_2 ++ (lw_privs_3 ++ (lw_privs_4 ++ (lw_privs_5 ++ (lw_privs_6 ++ (lw_privs_7))))))
def lw_tbl : List Cond := k2_sels lw_privs ++ tables_1
theorem lw_privs_ok : ∀ q ∈ lw_privs, lw_okq q := by
  show ∀ q ∈ lw_privs_1 ++ (lw_privs_2 ++ (lw_privs_3 ++ (lw_privs_4 ++ (lw_privs_5 ++ (lw_privs_6 ++ (lw_privs_7)))))), lw_okq q
  exact List.forall_mem_append.mpr ⟨lw_r1, List.forall_mem_append.mpr ⟨lw_r2, List.forall_mem_append.mpr ⟨lw_r3, List.forall_mem_append.mpr ⟨lw_r4, List.forall_mem_append.mpr ⟨lw_r5, List.forall_mem_append.mpr ⟨lw_r6, lw_r7⟩⟩⟩⟩⟩⟩
end
section
/-! ===== the small machine: its memory, and how the heap holds it ===== -/
/-- a cell: an array of a type, or an object of the class of a number; addresses are places in the memory -/
abbrev mm_C : Type := (FieldType × List Value) ⊕ (Nat × List Value)
def mm_sh (φ : Nat → Nat) : Value → Value
  | .ref a => .ref (φ a)
  | v => v
def mm_sl (φ : Nat → Nat) (l : List (Nat × Value)) : List (Nat × Value) := l.map fun q => (q.1, mm_sh φ q.2)
def mm_ph (φ : Nat → Nat) (kx bs : Nat) : Prop := (∀ i, i < kx → φ i < bs) ∧ ∀ i, kx ≤ i → φ i = bs + (i - kx)
/-- nothing but class and contents -/
def mm_pl (cell : Cell) : Prop := cell.vm = .none ∧ cell = { cls := cell.cls, slots := cell.slots, vm := .none }
theorem mm_pl_set {cell : Cell} (h : mm_pl cell) (k : Nat) (v : Value) : mm_pl (cell.setSlot k v) := by
  refine ⟨h.1, ?_⟩
  rw [h.2]
  rfl
/-- what is read of a row that may be another's: its first places -/
def mm_wk (φ : Nat → Nat) (cell : Cell) (xs : List Value) : Prop := xs.length ≤ cell.slots.size ∧ cell.slots.size.toInt32 = Int32.ofNat xs.length ∧ ∀ (j : Nat) (v : Value), xs[j]? = some v → cell.slots[j]? = some (mm_sh φ v)
theorem mm_wk_of {φ : Nat → Nat} {cell : Cell} {xs : List Value} (h : cell.slots = (xs.map (mm_sh φ)).toArray) : mm_wk φ cell xs := by
  refine ⟨by rw [h]; simp, by rw [h]; simp, fun j v hv => ?_⟩
  rw [h]
  simp [hv]
def mm_at (φ : Nat → Nat) (kx : Nat) (D : va_G) (cl : List vw_C) (U : State) (H : Heap) (i : Nat) : mm_C → Prop
  | .inl a => ∃ cell : Cell, H[φ i]? = some cell ∧ mm_wk φ cell a.2 ∧ cell.vm ≠ .unknown ∧ U.isArrayOf cell a.1 ∧ (kx ≤ i → (mm_pl cell ∧ cell.slots = (a.2.map (mm_sh φ)).toArray) ∧ va_RA U cell.cls a.1)
  | .inr o => ∃ r : vw_C, cl[o.1]? = some r ∧ o.2.length = r.2.2 ∧ t_OB (φ i) (D.1 o.1) r.2.2 (D.2 o.1) H (vp_V (o.2.map (mm_sh φ)))
def mm_B (bs : Nat) : Nat → Prop := fun q => bs ≤ q
abbrev mm_Zt : Type := String × String × String × Value
def mm_R (φ : Nat → Nat) (kx bs : Nat) (D : va_G) (cl : List vw_C) (zs : List mm_Zt) (U : State) (mem : List mm_C) (H : Heap) : Prop :=
  kx ≤ mem.length ∧ H.size = bs + (mem.length - kx) ∧ (∀ (i : Nat) (c : mm_C), mem[i]? = some c → mm_at φ kx D cl U H i c) ∧ ∀ z ∈ zs, va_Z z.1 z.2.1 z.2.2.1 (mm_sh φ z.2.2.2) (mm_B bs) U H
theorem mm_sh_cat (φ : Nat → Nat) (v : Value) : (mm_sh φ v).category = v.category := by cases v <;> rfl
theorem mm_at_moved {φ : Nat → Nat} {kx : Nat} {D : va_G} {cl : List vw_C} {u U : State} {H : Heap} {i : Nat} {c : mm_C} (hvm : u.vm.Alike U.vm) (h : mm_at φ kx D cl u H i c) : mm_at φ kx D cl U H i c := by
  cases c with
  | inl a =>
    obtain ⟨cell, h1, h2, h3, h4, h5⟩ := h
    exact ⟨cell, h1, h2, h3, State.isArrayOf_alike hvm h4, fun q => ⟨(h5 q).1, (h5 q).2.moved hvm⟩⟩
  | inr o => exact h
theorem mm_R_moved {φ : Nat → Nat} {kx bs : Nat} {D : va_G} {cl : List vw_C} {zs : List mm_Zt} {u U : State} {mem : List mm_C} {H : Heap} (hvm : u.vm.Alike U.vm) (h : mm_R φ kx bs D cl zs u mem H) : mm_R φ kx bs D cl zs U mem H :=
  ⟨h.1, h.2.1, fun i c hc => mm_at_moved hvm (h.2.2.1 i c hc), fun z hz => (h.2.2.2 z hz).moved hvm⟩
theorem mm_at_kept {φ : Nat → Nat} {kx : Nat} {D : va_G} {cl : List vw_C} {U : State} {H H1 : Heap} {i : Nat} {c : mm_C} (h : mm_at φ kx D cl U H i c) (hq : H1[φ i]? = H[φ i]?) : mm_at φ kx D cl U H1 i c := by
  cases c with
  | inl a =>
    obtain ⟨cell, h1, h2⟩ := h
    exact ⟨cell, hq.trans h1, h2⟩
  | inr o =>
    obtain ⟨r, h1, h2, h3⟩ := h
    exact ⟨r, h1, h2, h3.kept hq⟩
theorem mm_at_lt {φ : Nat → Nat} {kx : Nat} {D : va_G} {cl : List vw_C} {U : State} {H : Heap} {i : Nat} {c : mm_C} (h : mm_at φ kx D cl U H i c) : φ i < H.size := by
  cases c with
  | inl a =>
    obtain ⟨cell, h1, h2⟩ := h
    exact (Array.getElem?_eq_some_iff.mp h1).1
  | inr o =>
    obtain ⟨r, h1, h2, cell, h3, h4⟩ := h
    exact (Array.getElem?_eq_some_iff.mp h3).1
theorem mm_ph_ne {φ : Nat → Nat} {kx bs : Nat} (h : mm_ph φ kx bs) {i j : Nat} (hi : kx ≤ i) (hij : j ≠ i) : φ j ≠ φ i := by
  intro e
  rw [h.2 i hi] at e
  by_cases hj : kx ≤ j
  · rw [h.2 j hj] at e; omega
  · have := h.1 j (by omega); omega
/-- one cell of ours is another now -/
theorem mm_R_set {φ : Nat → Nat} {kx bs : Nat} {D : va_G} {cl : List vw_C} {zs : List mm_Zt} {U : State} {mem : List mm_C} {H H1 : Heap} (hp : mm_ph φ kx bs) (h : mm_R φ kx bs D cl zs U mem H) {i : Nat} (hi : kx ≤ i) {c : mm_C} (hc : mm_at φ kx D cl U H1 i c) (hz : H1.size = H.size) (ho : ∀ q : Nat, q ≠ φ i → H1[q]? = H[q]?) : mm_R φ kx bs D cl zs U (mem.set i c) H1 := by
  refine ⟨by simpa using h.1, by rw [hz, h.2.1, List.length_set], fun j d hd => ?_, fun z hz => ?_⟩
  · by_cases hj : j = i
    · subst hj
      rw [List.getElem?_set] at hd
      simp only [if_true] at hd
      split at hd
      · cases hd; exact hc
      · cases hd
    · rw [List.getElem?_set_ne (fun e => hj e.symm)] at hd
      exact mm_at_kept (h.2.2.1 j d hd) (ho _ (mm_ph_ne hp hi hj))
  · refine (h.2.2.2 z hz).kept (fun a _ ha => ho a (fun e => ha ?_))
    rw [e, hp.2 i hi]
    exact Nat.le_add_right _ _
/-- a cell more -/
theorem mm_R_push {φ : Nat → Nat} {kx bs : Nat} {D : va_G} {cl : List vw_C} {zs : List mm_Zt} {U : State} {mem : List mm_C} {H H1 : Heap} (h : mm_R φ kx bs D cl zs U mem H) {c : mm_C} (hc : mm_at φ kx D cl U H1 mem.length c) (hz : H1.size = H.size + 1) (ho : ∀ q : Nat, q < H.size → H1[q]? = H[q]?) : mm_R φ kx bs D cl zs U (mem ++ [c]) H1 := by
  have h1 := h.1
  have h2 := h.2.1
  refine ⟨by simp; omega, by simp; omega, fun j d hd => ?_, fun z hz => ?_⟩
  · by_cases hj : j < mem.length
    · rw [List.getElem?_append_left hj] at hd
      exact mm_at_kept (h.2.2.1 j d hd) (ho _ (mm_at_lt (h.2.2.1 j d hd)))
    · rw [List.getElem?_append_right (by omega)] at hd
      have hlt := (List.getElem?_eq_some_iff.mp hd).1
      simp at hlt
      have : j = mem.length := by omega
      subst this
      simp at hd
      subst hd
      exact hc
  · exact (h.2.2.2 z hz).kept (fun a ha _ => ho a ha)
theorem mm_ph_size {φ : Nat → Nat} {kx bs : Nat} {D : va_G} {cl : List vw_C} {zs : List mm_Zt} {U : State} {mem : List mm_C} {H : Heap} (hp : mm_ph φ kx bs) (h : mm_R φ kx bs D cl zs U mem H) : φ mem.length = H.size := by
  rw [hp.2 _ h.1, h.2.1]
end
section
/-! ===== printed by wip/gen_names.py: names, methods, pools ===== -/
def RX0 : String := "RaftTown$Judge"
def TX0 : u_T := fun k => match k with
  | 0 => ("RaftTown$Judge", "names", "[I", true)
  | 1 => ("RaftTown$Judge", "values", "[I", true)
  | _ => ("RaftTown$Judge", "open", "I", false)
def tyX0 : Nat → FieldType := fun k => match k with
  | 0 => .array .int
  | 1 => .array .int
  | _ => .int
theorem nmX0 : ∀ a, a < 3 → ∀ b, b < 3 → a ≠ b → (TX0 a).2.1 ≠ (TX0 b).2.1 := by decide +kernel
theorem tyX0_ok : ∀ k, k < 3 → parseFieldDescriptor (TX0 k).2.2.1 = some (tyX0 k) := by decide +kernel
def RX1 : String := "RaftTown$Log"
def TX1 : u_T := fun k => match k with
  | 0 => ("RaftTown$Log", "whats", "[I", true)
  | 1 => ("RaftTown$Log", "numbers", "[I", true)
  | 2 => ("RaftTown$Log", "days", "[I", true)
  | 3 => ("RaftTown$Log", "knowers", "[I", true)
  | 4 => ("RaftTown$Log", "first", "I", false)
  | 5 => ("RaftTown$Log", "size", "I", false)
  | 6 => ("RaftTown$Log", "lawText", "[I", true)
  | 7 => ("RaftTown$Log", "lawKnown", "[I", true)
  | _ => ("RaftTown$Log", "lawCount", "I", false)
def tyX1 : Nat → FieldType := fun k => match k with
  | 0 => .array .int
  | 1 => .array .int
  | 2 => .array .int
  | 3 => .array .int
  | 4 => .int
  | 5 => .int
  | 6 => .array .int
  | 7 => .array .int
  | _ => .int
theorem nmX1 : ∀ a, a < 9 → ∀ b, b < 9 → a ≠ b → (TX1 a).2.1 ≠ (TX1 b).2.1 := by decide +kernel
theorem tyX1_ok : ∀ k, k < 9 → parseFieldDescriptor (TX1 k).2.2.1 = some (tyX1 k) := by decide +kernel
def RX2 : String := "RaftTown$Net"
def TX2 : u_T := fun k => match k with
  | 0 => ("RaftTown$Net", "ends", "[I", true)
  | 1 => ("RaftTown$Net", "strength", "[I", true)
  | 2 => ("RaftTown$Net", "lighter", "[I", true)
  | 3 => ("RaftTown$Net", "weight", "[I", true)
  | 4 => ("RaftTown$Net", "all", "I", false)
  | _ => ("RaftTown$Net", "afloat", "I", false)
def tyX2 : Nat → FieldType := fun k => match k with
  | 0 => .array .int
  | 1 => .array .int
  | 2 => .array .int
  | 3 => .array .int
  | 4 => .int
  | _ => .int
theorem nmX2 : ∀ a, a < 6 → ∀ b, b < 6 → a ≠ b → (TX2 a).2.1 ≠ (TX2 b).2.1 := by decide +kernel
theorem tyX2_ok : ∀ k, k < 6 → parseFieldDescriptor (TX2 k).2.2.1 = some (tyX2 k) := by decide +kernel
def RX3 : String := "RaftTown$Person"
def TX3 : u_T := fun k => match k with
  | 0 => ("RaftTown$Person", "raft", "I", false)
  | 1 => ("RaftTown$Person", "born", "I", false)
  | 2 => ("RaftTown$Person", "one", "I", false)
  | 3 => ("RaftTown$Person", "two", "I", false)
  | 4 => ("RaftTown$Person", "wedTo", "I", false)
  | 5 => ("RaftTown$Person", "thirst", "I", false)
  | _ => ("RaftTown$Person", "lost", "Z", false)
def tyX3 : Nat → FieldType := fun k => match k with
  | 0 => .int
  | 1 => .int
  | 2 => .int
  | 3 => .int
  | 4 => .int
  | 5 => .int
  | _ => .boolean
theorem nmX3 : ∀ a, a < 7 → ∀ b, b < 7 → a ≠ b → (TX3 a).2.1 ≠ (TX3 b).2.1 := by decide +kernel
theorem tyX3_ok : ∀ k, k < 7 → parseFieldDescriptor (TX3 k).2.2.1 = some (tyX3 k) := by decide +kernel
def RX4 : String := "RaftTown$Raft"
def TX4 : u_T := fun k => match k with
  | 0 => ("RaftTown$Raft", "kind", "I", false)
  | 1 => ("RaftTown$Raft", "cell", "I", false)
  | 2 => ("RaftTown$Raft", "planks", "I", false)
  | 3 => ("RaftTown$Raft", "hold", "I", false)
  | 4 => ("RaftTown$Raft", "water", "I", false)
  | 5 => ("RaftTown$Raft", "goods", "I", false)
  | _ => ("RaftTown$Raft", "sunk", "Z", false)
def tyX4 : Nat → FieldType := fun k => match k with
  | 0 => .int
  | 1 => .int
  | 2 => .int
  | 3 => .int
  | 4 => .int
  | 5 => .int
  | _ => .boolean
theorem nmX4 : ∀ a, a < 7 → ∀ b, b < 7 → a ≠ b → (TX4 a).2.1 ≠ (TX4 b).2.1 := by decide +kernel
theorem tyX4_ok : ∀ k, k < 7 → parseFieldDescriptor (TX4 k).2.2.1 = some (tyX4 k) := by decide +kernel
def RX5 : String := "RaftTown$Rope"
def TX5 : u_T := fun k => match k with
  | 0 => ("RaftTown$Rope", "one", "I", false)
  | 1 => ("RaftTown$Rope", "two", "I", false)
  | 2 => ("RaftTown$Rope", "sideOne", "I", false)
  | 3 => ("RaftTown$Rope", "sideTwo", "I", false)
  | 4 => ("RaftTown$Rope", "toldStrength", "I", false)
  | 5 => ("RaftTown$Rope", "age", "I", false)
  | 6 => ("RaftTown$Rope", "wetDays", "I", false)
  | _ => ("RaftTown$Rope", "live", "Z", false)
def tyX5 : Nat → FieldType := fun k => match k with
  | 0 => .int
  | 1 => .int
  | 2 => .int
  | 3 => .int
  | 4 => .int
  | 5 => .int
  | 6 => .int
  | _ => .boolean
theorem nmX5 : ∀ a, a < 8 → ∀ b, b < 8 → a ≠ b → (TX5 a).2.1 ≠ (TX5 b).2.1 := by decide +kernel
theorem tyX5_ok : ∀ k, k < 8 → parseFieldDescriptor (TX5 k).2.2.1 = some (tyX5 k) := by decide +kernel
def RX6 : String := "RaftTown$Sea"
def TX6 : u_T := fun k => match k with
  | 0 => ("RaftTown$Sea", "streamX", "[I", true)
  | 1 => ("RaftTown$Sea", "streamY", "[I", true)
  | _ => ("RaftTown$Sea", "steps", "[J", true)
def tyX6 : Nat → FieldType := fun k => match k with
  | 0 => .array .int
  | 1 => .array .int
  | _ => .array .long
theorem nmX6 : ∀ a, a < 3 → ∀ b, b < 3 → a ≠ b → (TX6 a).2.1 ≠ (TX6 b).2.1 := by decide +kernel
theorem tyX6_ok : ∀ k, k < 3 → parseFieldDescriptor (TX6 k).2.2.1 = some (tyX6 k) := by decide +kernel
def RX7 : String := "RaftTown$Sheet"
def TX7 : u_T := fun k => match k with
  | 0 => ("RaftTown$Sheet", "bits", "I", false)
  | 1 => ("RaftTown$Sheet", "length", "I", false)
  | _ => ("RaftTown$Sheet", "row", "[I", true)
def tyX7 : Nat → FieldType := fun k => match k with
  | 0 => .int
  | 1 => .int
  | _ => .array .int
theorem nmX7 : ∀ a, a < 3 → ∀ b, b < 3 → a ≠ b → (TX7 a).2.1 ≠ (TX7 b).2.1 := by decide +kernel
theorem tyX7_ok : ∀ k, k < 3 → parseFieldDescriptor (TX7 k).2.2.1 = some (tyX7 k) := by decide +kernel
def RX8 : String := "RaftTown$Tape"
def TX8 : u_T := fun k => match k with
  | 0 => ("RaftTown$Tape", "bytes", "[I", true)
  | 1 => ("RaftTown$Tape", "length", "I", false)
  | 2 => ("RaftTown$Tape", "draft", "LRaftTown$Text;", true)
  | 3 => ("RaftTown$Tape", "at", "I", false)
  | 4 => ("RaftTown$Tape", "token", "I", false)
  | 5 => ("RaftTown$Tape", "start", "I", false)
  | _ => ("RaftTown$Tape", "number", "I", false)
def tyX8 : Nat → FieldType := fun k => match k with
  | 0 => .array .int
  | 1 => .int
  | 2 => .object "RaftTown$Text"
  | 3 => .int
  | 4 => .int
  | 5 => .int
  | _ => .int
theorem nmX8 : ∀ a, a < 7 → ∀ b, b < 7 → a ≠ b → (TX8 a).2.1 ≠ (TX8 b).2.1 := by decide +kernel
theorem tyX8_ok : ∀ k, k < 7 → parseFieldDescriptor (TX8 k).2.2.1 = some (tyX8 k) := by decide +kernel
def RX9 : String := "RaftTown$Text"
def TX9 : u_T := fun k => match k with
  | 0 => ("RaftTown$Text", "told", "Z", false)
  | 1 => ("RaftTown$Text", "code", "[I", true)
  | 2 => ("RaftTown$Text", "ends", "[I", true)
  | _ => ("RaftTown$Text", "length", "I", false)
def tyX9 : Nat → FieldType := fun k => match k with
  | 0 => .boolean
  | 1 => .array .int
  | 2 => .array .int
  | _ => .int
theorem nmX9 : ∀ a, a < 4 → ∀ b, b < 4 → a ≠ b → (TX9 a).2.1 ≠ (TX9 b).2.1 := by decide +kernel
theorem tyX9_ok : ∀ k, k < 4 → parseFieldDescriptor (TX9 k).2.2.1 = some (tyX9 k) := by decide +kernel
def RX10 : String := "RaftTown$Town"
def TX10 : u_T := fun k => match k with
  | 0 => ("RaftTown$Town", "sea", "LRaftTown$Sea;", true)
  | 1 => ("RaftTown$Town", "rafts", "[LRaftTown$Raft;", true)
  | 2 => ("RaftTown$Town", "raftCount", "I", false)
  | 3 => ("RaftTown$Town", "persons", "[LRaftTown$Person;", true)
  | 4 => ("RaftTown$Town", "personCount", "I", false)
  | 5 => ("RaftTown$Town", "ropes", "[LRaftTown$Rope;", true)
  | 6 => ("RaftTown$Town", "ropeCount", "I", false)
  | 7 => ("RaftTown$Town", "log", "LRaftTown$Log;", true)
  | 8 => ("RaftTown$Town", "texts", "[LRaftTown$Text;", true)
  | 9 => ("RaftTown$Town", "today", "I", false)
  | 10 => ("RaftTown$Town", "used", "I", false)
  | _ => ("RaftTown$Town", "spilt", "I", false)
def tyX10 : Nat → FieldType := fun k => match k with
  | 0 => .object "RaftTown$Sea"
  | 1 => .array (.object "RaftTown$Raft")
  | 2 => .int
  | 3 => .array (.object "RaftTown$Person")
  | 4 => .int
  | 5 => .array (.object "RaftTown$Rope")
  | 6 => .int
  | 7 => .object "RaftTown$Log"
  | 8 => .array (.object "RaftTown$Text")
  | 9 => .int
  | 10 => .int
  | _ => .int
theorem nmX10 : ∀ a, a < 12 → ∀ b, b < 12 → a ≠ b → (TX10 a).2.1 ≠ (TX10 b).2.1 := by decide +kernel
theorem tyX10_ok : ∀ k, k < 12 → parseFieldDescriptor (TX10 k).2.2.1 = some (tyX10 k) := by decide +kernel
def RX11 : String := "RaftTown"
def TX11 : u_T := fun k => match k with
  | 0 => ("RaftTown", "town", "LRaftTown$Town;", true)
  | 1 => ("RaftTown", "kept", "LRaftTown$Town;", true)
  | 2 => ("RaftTown", "hasImage", "Z", false)
  | 3 => ("RaftTown", "sheets", "[LRaftTown$Sheet;", true)
  | 4 => ("RaftTown", "tape", "LRaftTown$Tape;", true)
  | 5 => ("RaftTown", "net", "LRaftTown$Net;", true)
  | 6 => ("RaftTown", "judge", "LRaftTown$Judge;", true)
  | _ => ("RaftTown", "findings", "I", false)
def tyX11 : Nat → FieldType := fun k => match k with
  | 0 => .object "RaftTown$Town"
  | 1 => .object "RaftTown$Town"
  | 2 => .boolean
  | 3 => .array (.object "RaftTown$Sheet")
  | 4 => .object "RaftTown$Tape"
  | 5 => .object "RaftTown$Net"
  | 6 => .object "RaftTown$Judge"
  | _ => .int
theorem nmX11 : ∀ a, a < 8 → ∀ b, b < 8 → a ≠ b → (TX11 a).2.1 ≠ (TX11 b).2.1 := by decide +kernel
theorem tyX11_ok : ∀ k, k < 8 → parseFieldDescriptor (TX11 k).2.2.1 = some (tyX11 k) := by decide +kernel
def RX12 : String := "RaftTownModel"
def TX12 : u_T := fun k => match k with
  | 0 => ("RaftTownModel", "now", "[I", true)
  | 1 => ("RaftTownModel", "kept", "[I", true)
  | 2 => ("RaftTownModel", "hasImage", "Z", false)
  | 3 => ("RaftTownModel", "findings", "I", false)
  | 4 => ("RaftTownModel", "weights", "[I", true)
  | 5 => ("RaftTownModel", "tape", "[B", true)
  | 6 => ("RaftTownModel", "taped", "I", false)
  | 7 => ("RaftTownModel", "letters", "[C", true)
  | 8 => ("RaftTownModel", "begins", "[I", true)
  | 9 => ("RaftTownModel", "code", "[I", true)
  | 10 => ("RaftTownModel", "waits", "[I", true)
  | 11 => ("RaftTownModel", "names", "[I", true)
  | 12 => ("RaftTownModel", "begin", "I", false)
  | 13 => ("RaftTownModel", "end", "I", false)
  | 14 => ("RaftTownModel", "next", "I", false)
  | 15 => ("RaftTownModel", "number", "I", false)
  | 16 => ("RaftTownModel", "size", "I", false)
  | 17 => ("RaftTownModel", "waitMany", "I", false)
  | 18 => ("RaftTownModel", "heap", "[I", true)
  | 19 => ("RaftTownModel", "lostOf", "[I", true)
  | 20 => ("RaftTownModel", "may0", "[Z", true)
  | 21 => ("RaftTownModel", "then", "[Z", true)
  | 22 => ("RaftTownModel", "sheetBits", "[I", true)
  | 23 => ("RaftTownModel", "sheetSize", "[I", true)
  | 24 => ("RaftTownModel", "sheets", "[I", true)
  | _ => ("RaftTownModel", "carried", "[I", true)
def tyX12 : Nat → FieldType := fun k => match k with
  | 0 => .array .int
  | 1 => .array .int
  | 2 => .boolean
  | 3 => .int
  | 4 => .array .int
  | 5 => .array .byte
  | 6 => .int
  | 7 => .array .char
  | 8 => .array .int
  | 9 => .array .int
  | 10 => .array .int
  | 11 => .array .int
  | 12 => .int
  | 13 => .int
  | 14 => .int
  | 15 => .int
  | 16 => .int
  | 17 => .int
  | 18 => .array .int
  | 19 => .array .int
  | 20 => .array .boolean
  | 21 => .array .boolean
  | 22 => .array .int
  | 23 => .array .int
  | 24 => .array .int
  | _ => .array .int
theorem nmX12 : ∀ a, a < 26 → ∀ b, b < 26 → a ≠ b → (TX12 a).2.1 ≠ (TX12 b).2.1 := by decide +kernel
theorem tyX12_ok : ∀ k, k < 26 → parseFieldDescriptor (TX12 k).2.2.1 = some (tyX12 k) := by decide +kernel
abbrev vwCl : List vw_C := [(RX0, TX0, 3), (RX1, TX1, 9), (RX2, TX2, 6), (RX3, TX3, 7), (RX4, TX4, 7), (RX5, TX5, 8), (RX6, TX6, 3), (RX7, TX7, 3), (RX8, TX8, 7), (RX9, TX9, 4), (RX10, TX10, 12), (RX11, TX11, 8), (RX12, TX12, 26)]
def mm_ty (ci : Nat) : Nat → FieldType := match ci with
  | 0 => tyX0
  | 1 => tyX1
  | 2 => tyX2
  | 3 => tyX3
  | 4 => tyX4
  | 5 => tyX5
  | 6 => tyX6
  | 7 => tyX7
  | 8 => tyX8
  | 9 => tyX9
  | 10 => tyX10
  | 11 => tyX11
  | _ => tyX12
def mm_cns : List String := [RX0, RX1, RX2, RX3, RX4, RX5, RX6, RX7, RX8, RX9, RX10, RX11, RX12, "RaftTownLaw", "java/lang/Integer", "java/lang/String", "java/lang/StringLatin1", "jdk/internal/util/Preconditions", "java/lang/StringUTF16", "java/lang/Long"]
abbrev mm_Mt : Type := Nat × MethodName × ByteArray × Nat × Option FieldType × Nat × Nat × List Nat
def mm_mths_0 : List mm_Mt := [
  (11, ⟨"RaftTown", "<init>", "()V"⟩, prog_1_method_1_code, 2, (none), 0, 2, [1026, 1025, 0, 1001]),
  (10, ⟨"RaftTown$Town", "<init>", "()V"⟩, prog_12_method_1_code, 2, (none), 0, 2, [1034, 1033, 0, 1002]),
  (6, ⟨"RaftTown$Sea", "<init>", "()V"⟩, prog_8_method_1_code, 1, (none), 0, 2, [1040, 1039, 0, 1003]),
  (1, ⟨"RaftTown$Log", "<init>", "()V"⟩, prog_3_method_1_code, 1, (none), 0, 2, [1064, 1063, 0, 1004]),
  (4, ⟨"RaftTown$Raft", "<init>", "()V"⟩, prog_6_method_1_code, 1, (none), 0, 2, [1101, 1100, 0, 1005]),
  (3, ⟨"RaftTown$Person", "<init>", "()V"⟩, prog_5_method_1_code, 1, (none), 0, 2, [1142, 1141, 0, 1006]),
  (5, ⟨"RaftTown$Rope", "<init>", "()V"⟩, prog_7_method_1_code, 1, (none), 0, 2, [1183, 1182, 0, 1007]),
  (9, ⟨"RaftTown$Text", "<init>", "()V"⟩, prog_11_method_1_code, 1, (none), 0, 2, [1229, 1228, 0, 1008]),
  (7, ⟨"RaftTown$Sheet", "<init>", "()V"⟩, prog_9_method_1_code, 1, (none), 0, 2, [2056, 2055, 0, 1009]),
  (8, ⟨"RaftTown$Tape", "<init>", "()V"⟩, prog_10_method_1_code, 1, (none), 0, 2, [2075, 2074, 0, 1010]),
  (2, ⟨"RaftTown$Net", "<init>", "()V"⟩, prog_4_method_1_code, 1, (none), 0, 2, [2106, 2105, 0, 1011]),
  (0, ⟨"RaftTown$Judge", "<init>", "()V"⟩, prog_2_method_1_code, 1, (none), 0, 2, [2134, 2133, 0, 1012]),
  (11, ⟨"RaftTown", "stream", "(III)I"⟩, prog_1_method_2_code, 4, (some .int), 3, 1, [2174, 2172, 2173, 1001]),
  (11, ⟨"RaftTown", "isCell", "(I)Z"⟩, prog_1_method_49_code, 1, (some .boolean), 1, 0, [2177, 2176, 0, 1001]),
  (11, ⟨"RaftTown", "within", "(III)Z"⟩, prog_1_method_48_code, 3, (some .boolean), 3, 0, [2180, 2179, 0, 1001]),
  (11, ⟨"RaftTown", "noted", "(I)I"⟩, prog_1_method_42_code, 2, (some .int), 1, 1, [2185, 2184, 0, 1001]),
  (6, ⟨"RaftTown$Sea", "lead", "(III)V"⟩, prog_8_method_3_code, 4, (none), 3, 1, [2190, 2188, 2189, 1003]),
  (11, ⟨"RaftTown", "raft", "(IIII)I"⟩, prog_1_method_3_code, 5, (some .int), 4, 1, [2195, 2193, 2194, 1001]),
  (11, ⟨"RaftTown", "isKind", "(I)Z"⟩, prog_1_method_50_code, 1, (some .boolean), 1, 0, [2198, 2197, 0, 1001]),
  (10, ⟨"RaftTown$Town", "addRaft", "(IIII)I"⟩, prog_12_method_11_code, 6, (some .int), 4, 1, [2203, 2201, 2202, 1002]),
  (10, ⟨"RaftTown$Town", "raftAt", "(I)LRaftTown$Raft;"⟩, prog_12_method_6_code, 2, (some (.object "RaftTown$Raft")), 1, 1, [2207, 2205, 2206, 1002]),
  (4, ⟨"RaftTown$Raft", "launch", "(IIII)V"⟩, prog_6_method_3_code, 5, (none), 4, 1, [2212, 2210, 2211, 1005]),
  (11, ⟨"RaftTown", "as", "(II)I"⟩, prog_1_method_4_code, 3, (some .int), 2, 1, [2216, 2214, 2215, 1001]),
  (10, ⟨"RaftTown$Town", "hasRaft", "(I)Z"⟩, prog_12_method_3_code, 2, (some .boolean), 1, 1, [2220, 2218, 2219, 1002]),
  (4, ⟨"RaftTown$Raft", "isOf", "(I)Z"⟩, prog_6_method_4_code, 4, (some .boolean), 1, 1, [2225, 2223, 2224, 1005]),
  (11, ⟨"RaftTown", "raftIs", "(II)I"⟩, prog_1_method_5_code, 4, (some .int), 2, 1, [2233, 2231, 2232, 1001]),
  (11, ⟨"RaftTown", "surveyed", "()LRaftTown$Net;"⟩, prog_1_method_43_code, 1, (some (.object "RaftTown$Net")), 0, 1, [2237, 2236, 1, 1001]),
  (2, ⟨"RaftTown$Net", "survey", "(LRaftTown$Town;)V"⟩, prog_4_method_2_code, 4, (none), 1, 1, [3001, 2239, 3000, 1011]),
  (4, ⟨"RaftTown$Raft", "ownWeight", "()I"⟩, prog_6_method_6_code, 1, (some .int), 0, 1, [3006, 3004, 3005, 1005]),
  (4, ⟨"RaftTown$Raft", "area", "()I"⟩, prog_6_method_5_code, 1, (some .int), 0, 1, [3010, 3008, 3009, 1005]),
  (10, ⟨"RaftTown$Town", "personAt", "(I)LRaftTown$Person;"⟩, prog_12_method_7_code, 2, (some (.object "RaftTown$Person")), 1, 1, [3017, 3015, 3016, 1002]),
  (10, ⟨"RaftTown$Town", "ropeAt", "(I)LRaftTown$Rope;"⟩, prog_12_method_8_code, 2, (some (.object "RaftTown$Rope")), 1, 1, [3022, 3020, 3021, 1002]),
  (5, ⟨"RaftTown$Rope", "strength", "()I"⟩, prog_7_method_4_code, 1, (some .int), 0, 1, [3026, 3024, 3025, 1007]),
  (2, ⟨"RaftTown$Net", "weightAt", "(I)I"⟩, prog_4_method_3_code, 2, (some .int), 1, 1, [3033, 3031, 3032, 1011]),
  (2, ⟨"RaftTown$Net", "partOf", "(I)I"⟩, prog_4_method_6_code, 2, (some .int), 1, 1, [3042, 3040, 3041, 1011]),
  (2, ⟨"RaftTown$Net", "reach", "(II)I"⟩, prog_4_method_5_code, 7, (some .int), 2, 1, [3046, 3045, 2, 1011]),
  (11, ⟨"RaftTown", "leastOf", "(I)I"⟩, prog_1_method_57_code, 1, (some .int), 1, 0, [3049, 3048, 0, 1001]),
  (14, ⟨"java/lang/Integer", "numberOfTrailingZeros", "(I)I"⟩, prog_15_method_48_code, 2, (some .int), 1, 0, [3052, 3051, 0, 1015]),
  (11, ⟨"RaftTown", "load", "(IIZ)I"⟩, prog_1_method_6_code, 5, (some .int), 3, 1, [3057, 3055, 3056, 1001]),
  (4, ⟨"RaftTown$Raft", "room", "()I"⟩, prog_6_method_7_code, 1, (some .int), 0, 1, [3062, 3060, 3061, 1005])]
def mm_mths_1 : List mm_Mt := [
  (4, ⟨"RaftTown$Raft", "stow", "(IZ)I"⟩, prog_6_method_9_code, 3, (some .int), 2, 1, [3066, 3064, 3065, 1005]),
  (4, ⟨"RaftTown$Raft", "casks", "(Z)I"⟩, prog_6_method_8_code, 2, (some .int), 1, 1, [3070, 3068, 3069, 1005]),
  (11, ⟨"RaftTown", "trade", "(IIIZ)I"⟩, prog_1_method_7_code, 7, (some .int), 4, 1, [3074, 3072, 3073, 1001]),
  (2, ⟨"RaftTown$Net", "inOnePart", "(II)Z"⟩, prog_4_method_7_code, 3, (some .boolean), 2, 1, [3079, 3077, 3078, 1011]),
  (11, ⟨"RaftTown", "has", "(II)Z"⟩, prog_1_method_56_code, 2, (some .boolean), 2, 0, [3083, 3082, 0, 1001]),
  (11, ⟨"RaftTown", "person", "(IIII)I"⟩, prog_1_method_8_code, 5, (some .int), 4, 1, [3090, 3088, 3089, 1001]),
  (11, ⟨"RaftTown", "areParents", "(II)Z"⟩, prog_1_method_47_code, 3, (some .boolean), 2, 1, [3094, 3093, 3, 1001]),
  (10, ⟨"RaftTown$Town", "addPerson", "(IIII)I"⟩, prog_12_method_12_code, 6, (some .int), 4, 1, [3098, 3096, 3097, 1002]),
  (3, ⟨"RaftTown$Person", "arrive", "(IIII)V"⟩, prog_5_method_3_code, 5, (none), 4, 1, [3103, 3101, 3102, 1006]),
  (11, ⟨"RaftTown", "wed", "(II)I"⟩, prog_1_method_9_code, 5, (some .int), 2, 1, [3107, 3105, 3106, 1001]),
  (10, ⟨"RaftTown$Town", "hasPerson", "(I)Z"⟩, prog_12_method_4_code, 2, (some .boolean), 1, 1, [3111, 3109, 3110, 1002]),
  (11, ⟨"RaftTown", "move", "(II)I"⟩, prog_1_method_10_code, 5, (some .int), 2, 1, [3117, 3115, 3116, 1001]),
  (11, ⟨"RaftTown", "personIs", "(II)I"⟩, prog_1_method_11_code, 4, (some .int), 2, 1, [3121, 3119, 3120, 1001]),
  (10, ⟨"RaftTown$Town", "kinOf", "(I)I"⟩, prog_12_method_16_code, 4, (some .int), 1, 1, [3125, 3123, 3124, 1002]),
  (10, ⟨"RaftTown$Town", "areKin", "(II)Z"⟩, prog_12_method_15_code, 5, (some .boolean), 2, 1, [3129, 3128, 4, 1002]),
  (3, ⟨"RaftTown$Person", "hasParent", "(I)Z"⟩, prog_5_method_4_code, 2, (some .boolean), 1, 1, [3133, 3131, 3132, 1006]),
  (11, ⟨"RaftTown", "tie", "(IIIII)I"⟩, prog_1_method_12_code, 10, (some .int), 5, 1, [3137, 3135, 3136, 1001]),
  (11, ⟨"RaftTown", "isSide", "(I)Z"⟩, prog_1_method_51_code, 1, (some .boolean), 1, 0, [3140, 3139, 0, 1001]),
  (10, ⟨"RaftTown$Town", "hasRoomAt", "(II)Z"⟩, prog_12_method_13_code, 5, (some .boolean), 2, 1, [3144, 3142, 3143, 1002]),
  (5, ⟨"RaftTown$Rope", "isAtSide", "(II)Z"⟩, prog_7_method_6_code, 3, (some .boolean), 2, 1, [3148, 3146, 3147, 1007]),
  (10, ⟨"RaftTown$Town", "freeRope", "()I"⟩, prog_12_method_14_code, 2, (some .int), 0, 1, [3152, 3150, 3151, 1002]),
  (5, ⟨"RaftTown$Rope", "lay", "(IIIII)V"⟩, prog_7_method_3_code, 6, (none), 5, 1, [3158, 3156, 3157, 1007]),
  (1, ⟨"RaftTown$Log", "add", "(IIII)V"⟩, prog_3_method_5_code, 6, (none), 4, 1, [3162, 3160, 3161, 1004]),
  (1, ⟨"RaftTown$Log", "placeOf", "(I)I"⟩, prog_3_method_3_code, 3, (some .int), 1, 1, [3166, 3165, 5, 1004]),
  (1, ⟨"RaftTown$Log", "tellOn", "(I)V"⟩, prog_3_method_7_code, 3, (none), 1, 1, [3170, 3168, 3169, 1004]),
  (11, ⟨"RaftTown", "cut", "(I)I"⟩, prog_1_method_13_code, 4, (some .int), 1, 1, [3174, 3172, 3173, 1001]),
  (10, ⟨"RaftTown$Town", "hasRope", "(I)Z"⟩, prog_12_method_5_code, 2, (some .boolean), 1, 1, [3178, 3176, 3177, 1002]),
  (1, ⟨"RaftTown$Log", "lawOf", "(I)I"⟩, prog_3_method_9_code, 4, (some .int), 1, 1, [3182, 3180, 3181, 1004]),
  (11, ⟨"RaftTown", "ropeRuling", "(III)I"⟩, prog_1_method_45_code, 4, (some .int), 3, 1, [3186, 3185, 6, 1001]),
  (0, ⟨"RaftTown$Judge", "nameRope", "(LRaftTown$Town;LRaftTown$Net;II)V"⟩, prog_2_method_3_code, 6, (none), 4, 1, [3190, 3188, 3189, 1012]),
  (0, ⟨"RaftTown$Judge", "nameNothing", "()V"⟩, prog_2_method_2_code, 2, (none), 0, 1, [3195, 3194, 7, 1012]),
  (2, ⟨"RaftTown$Net", "loadOf", "(III)I"⟩, prog_4_method_11_code, 4, (some .int), 3, 1, [3199, 3197, 3198, 1011]),
  (2, ⟨"RaftTown$Net", "hang", "(II)I"⟩, prog_4_method_10_code, 7, (some .int), 2, 1, [3203, 3201, 3202, 1011]),
  (2, ⟨"RaftTown$Net", "weigh", "(I)I"⟩, prog_4_method_9_code, 4, (some .int), 1, 1, [3207, 3206, 8, 1011]),
  (10, ⟨"RaftTown$Town", "kinBetween", "(II)I"⟩, prog_12_method_19_code, 6, (some .int), 2, 1, [3212, 3210, 3211, 1002]),
  (10, ⟨"RaftTown$Town", "personsOf", "(I)I"⟩, prog_12_method_17_code, 4, (some .int), 1, 1, [3216, 3214, 3215, 1002]),
  (3, ⟨"RaftTown$Person", "isAmong", "(I)Z"⟩, prog_5_method_6_code, 2, (some .boolean), 1, 1, [3220, 3218, 3219, 1006]),
  (3, ⟨"RaftTown$Person", "isOn", "(I)Z"⟩, prog_5_method_5_code, 2, (some .boolean), 1, 1, [3224, 3222, 3223, 1006]),
  (14, ⟨"java/lang/Integer", "bitCount", "(I)I"⟩, prog_15_method_49_code, 1, (some .int), 1, 0, [3228, 3227, 0, 1015]),
  (0, ⟨"RaftTown$Judge", "namePart", "(LRaftTown$Town;I)V"⟩, prog_2_method_6_code, 3, (none), 2, 1, [3236, 3235, 9, 1012])]
def mm_mths_2 : List mm_Mt := [
  (10, ⟨"RaftTown$Town", "headsOf", "(I)I"⟩, prog_12_method_18_code, 2, (some .int), 1, 1, [4000, 3238, 3239, 1002]),
  (10, ⟨"RaftTown$Town", "waterOf", "(I)I"⟩, prog_12_method_20_code, 4, (some .int), 1, 1, [4004, 4002, 4003, 1002]),
  (10, ⟨"RaftTown$Town", "textOfLaw", "(I)LRaftTown$Text;"⟩, prog_12_method_10_code, 2, (some (.object "RaftTown$Text")), 1, 1, [4009, 4007, 4008, 1002]),
  (1, ⟨"RaftTown$Log", "textOf", "(I)I"⟩, prog_3_method_10_code, 2, (some .int), 1, 1, [4013, 4011, 4012, 1004]),
  (10, ⟨"RaftTown$Town", "textAt", "(I)LRaftTown$Text;"⟩, prog_12_method_9_code, 2, (some (.object "RaftTown$Text")), 1, 1, [4018, 4016, 4017, 1002]),
  (11, ⟨"RaftTown", "isText", "(I)Z"⟩, prog_1_method_52_code, 1, (some .boolean), 1, 0, [4021, 4020, 0, 1001]),
  (0, ⟨"RaftTown$Judge", "comesTo", "(LRaftTown$Text;I)I"⟩, prog_2_method_7_code, 8, (some .int), 2, 1, [4025, 4023, 4024, 1012]),
  (9, ⟨"RaftTown$Text", "endOf", "(I)I"⟩, prog_11_method_8_code, 2, (some .int), 1, 1, [4029, 4027, 4028, 1008]),
  (9, ⟨"RaftTown$Text", "startOf", "(I)I"⟩, prog_11_method_7_code, 2, (some .int), 1, 1, [4035, 4033, 4034, 1008]),
  (0, ⟨"RaftTown$Judge", "push", "(I)V"⟩, prog_2_method_8_code, 2, (none), 1, 1, [4039, 4038, 10, 1012]),
  (0, ⟨"RaftTown$Judge", "pop", "()I"⟩, prog_2_method_9_code, 1, (some .int), 0, 1, [4043, 4042, 11, 1012]),
  (0, ⟨"RaftTown$Judge", "joined", "(III)I"⟩, prog_2_method_10_code, 3, (some .int), 3, 0, [4046, 4045, 0, 1012]),
  (2, ⟨"RaftTown$Net", "countParts", "()I"⟩, prog_4_method_8_code, 4, (some .int), 0, 1, [4051, 4049, 4050, 1011]),
  (11, ⟨"RaftTown", "rope", "(II)I"⟩, prog_1_method_14_code, 4, (some .int), 2, 1, [4055, 4053, 4054, 1001]),
  (11, ⟨"RaftTown", "bears", "(II)I"⟩, prog_1_method_15_code, 3, (some .int), 2, 1, [4061, 4059, 4060, 1001]),
  (11, ⟨"RaftTown", "areWaves", "(I)Z"⟩, prog_1_method_54_code, 1, (some .boolean), 1, 0, [4064, 4063, 0, 1001]),
  (11, ⟨"RaftTown", "parts", "()I"⟩, prog_1_method_16_code, 1, (some .int), 0, 1, [4069, 4067, 4068, 1001]),
  (11, ⟨"RaftTown", "part", "(I)I"⟩, prog_1_method_17_code, 2, (some .int), 1, 1, [4073, 4071, 4072, 1001]),
  (11, ⟨"RaftTown", "worst", "(II)I"⟩, prog_1_method_18_code, 4, (some .int), 2, 1, [4077, 4075, 4076, 1001]),
  (2, ⟨"RaftTown$Net", "countParting", "(III)I"⟩, prog_4_method_13_code, 8, (some .int), 3, 1, [4081, 4079, 4080, 1011]),
  (2, ⟨"RaftTown$Net", "worstOf", "(II)I"⟩, prog_4_method_12_code, 7, (some .int), 2, 1, [4085, 4083, 4084, 1011]),
  (2, ⟨"RaftTown$Net", "partingAt", "(II)I"⟩, prog_4_method_14_code, 6, (some .int), 2, 1, [4090, 4088, 4089, 1011]),
  (11, ⟨"RaftTown", "day", "(II)I"⟩, prog_1_method_19_code, 3, (some .int), 2, 1, [4094, 4092, 4093, 1001]),
  (11, ⟨"RaftTown", "isRain", "(I)Z"⟩, prog_1_method_55_code, 1, (some .boolean), 1, 0, [4097, 4096, 0, 1001]),
  (10, ⟨"RaftTown$Town", "passDay", "(IILRaftTown$Net;)I"⟩, prog_12_method_26_code, 5, (some .int), 3, 1, [4101, 4099, 4100, 1002]),
  (10, ⟨"RaftTown$Town", "partUnder", "(ILRaftTown$Net;)I"⟩, prog_12_method_27_code, 6, (some .int), 2, 1, [4106, 4105, 12, 1002]),
  (2, ⟨"RaftTown$Net", "drop", "(I)V"⟩, prog_4_method_4_code, 2, (none), 1, 1, [4114, 4112, 4113, 1011]),
  (10, ⟨"RaftTown$Town", "catchRain", "(I)V"⟩, prog_12_method_28_code, 4, (none), 1, 1, [4118, 4117, 13, 1002]),
  (10, ⟨"RaftTown$Town", "waterGardens", "()V"⟩, prog_12_method_29_code, 3, (none), 0, 1, [4126, 4125, 14, 1002]),
  (10, ⟨"RaftTown$Town", "drinkAll", "(LRaftTown$Net;)V"⟩, prog_12_method_30_code, 4, (none), 1, 1, [4130, 4129, 15, 1002]),
  (10, ⟨"RaftTown$Town", "drink", "(II)V"⟩, prog_12_method_31_code, 5, (none), 2, 1, [4134, 4133, 16, 1002]),
  (10, ⟨"RaftTown$Town", "fullestOf", "(I)LRaftTown$Raft;"⟩, prog_12_method_32_code, 4, (some (.object "RaftTown$Raft")), 1, 1, [4138, 4137, 17, 1002]),
  (10, ⟨"RaftTown$Town", "lose", "(II)V"⟩, prog_12_method_33_code, 3, (none), 2, 1, [4143, 4142, 18, 1002]),
  (10, ⟨"RaftTown$Town", "ageRopes", "(Z)V"⟩, prog_12_method_34_code, 3, (none), 1, 1, [4147, 4146, 19, 1002]),
  (10, ⟨"RaftTown$Town", "rot", "(LRaftTown$Net;)V"⟩, prog_12_method_35_code, 5, (none), 1, 1, [4151, 4150, 20, 1002]),
  (10, ⟨"RaftTown$Town", "sink", "(ILRaftTown$Net;)V"⟩, prog_12_method_36_code, 7, (none), 2, 1, [4155, 4154, 21, 1002]),
  (5, ⟨"RaftTown$Rope", "isAt", "(I)Z"⟩, prog_7_method_5_code, 2, (some .boolean), 1, 1, [4159, 4157, 4158, 1007]),
  (10, ⟨"RaftTown$Town", "drift", "()V"⟩, prog_12_method_37_code, 3, (none), 0, 1, [4163, 4162, 22, 1002]),
  (6, ⟨"RaftTown$Sea", "drifted", "(I)I"⟩, prog_8_method_6_code, 2, (some .int), 1, 1, [4167, 4165, 4166, 1003]),
  (6, ⟨"RaftTown$Sea", "ledBy", "(II)I"⟩, prog_8_method_5_code, 3, (some .int), 2, 1, [4171, 4170, 23, 1003])]
def mm_mths_3 : List mm_Mt := [
  (6, ⟨"RaftTown$Sea", "stepped", "(III)I"⟩, prog_8_method_4_code, 6, (some .int), 3, 0, [4174, 4173, 0, 1003]),
  (11, ⟨"RaftTown", "days", "(II)I"⟩, prog_1_method_20_code, 10, (some .int), 2, 1, [4179, 4177, 4178, 1001]),
  (11, ⟨"RaftTown", "isSheet", "(I)Z"⟩, prog_1_method_53_code, 1, (some .boolean), 1, 0, [4182, 4181, 0, 1001]),
  (7, ⟨"RaftTown$Sheet", "isMissing", "()Z"⟩, prog_9_method_2_code, 1, (some .boolean), 0, 1, [4186, 4184, 4185, 1009]),
  (7, ⟨"RaftTown$Sheet", "numberOr", "(II)I"⟩, prog_9_method_5_code, 3, (some .int), 2, 1, [4190, 4188, 4189, 1009]),
  (11, ⟨"RaftTown", "lasts", "(I)I"⟩, prog_1_method_21_code, 4, (some .int), 1, 1, [4195, 4193, 4194, 1001]),
  (10, ⟨"RaftTown$Town", "countKind", "(II)I"⟩, prog_12_method_21_code, 5, (some .int), 2, 1, [4200, 4198, 4199, 1002]),
  (11, ⟨"RaftTown", "feed", "(IJ)I"⟩, prog_1_method_22_code, 4, (some .int), 2, 1, [4205, 4203, 4204, 1001]),
  (8, ⟨"RaftTown$Tape", "hasRoom", "(I)Z"⟩, prog_10_method_2_code, 2, (some .boolean), 1, 1, [4209, 4207, 4208, 1010]),
  (8, ⟨"RaftTown$Tape", "append", "(IJ)I"⟩, prog_10_method_3_code, 5, (some .int), 2, 1, [4213, 4211, 4212, 1010]),
  (11, ⟨"RaftTown", "text", "(I)I"⟩, prog_1_method_23_code, 3, (some .int), 1, 1, [4218, 4216, 4217, 1001]),
  (8, ⟨"RaftTown$Tape", "read", "()I"⟩, prog_10_method_4_code, 2, (some .int), 0, 1, [4223, 4221, 4222, 1010]),
  (9, ⟨"RaftTown$Text", "clear", "()V"⟩, prog_11_method_3_code, 1, (none), 0, 1, [4227, 4225, 4226, 1008]),
  (8, ⟨"RaftTown$Tape", "next", "()V"⟩, prog_10_method_13_code, 2, (none), 0, 1, [4231, 4230, 24, 1010]),
  (8, ⟨"RaftTown$Tape", "byteAt", "(I)I"⟩, prog_10_method_14_code, 2, (some .int), 1, 1, [4235, 4234, 25, 1010]),
  (8, ⟨"RaftTown$Tape", "isLetter", "(I)Z"⟩, prog_10_method_18_code, 1, (some .boolean), 1, 0, [4238, 4237, 0, 1010]),
  (8, ⟨"RaftTown$Tape", "nextWord", "()V"⟩, prog_10_method_15_code, 2, (none), 0, 1, [5003, 5002, 26, 1010]),
  (8, ⟨"RaftTown$Tape", "word", "(I)Ljava/lang/String;"⟩, prog_10_method_21_code, 1, (some (.object "java/lang/String")), 1, 0, [5006, 5005, 0, 1010]),
  (8, ⟨"RaftTown$Tape", "standsHere", "(Ljava/lang/String;)Z"⟩, prog_10_method_16_code, 3, (some .boolean), 1, 1, [5026, 5025, 27, 1010]),
  (15, ⟨"java/lang/String", "length", "()I"⟩, prog_18_method_54_code, 1, (some .int), 0, 1, [5030, 5028, 5029, 1016]),
  (15, ⟨"java/lang/String", "coder", "()B"⟩, prog_18_method_152_code, 1, (some .byte), 0, 1, [5034, 5032, 5033, 1016]),
  (15, ⟨"java/lang/String", "charAt", "(I)C"⟩, prog_18_method_56_code, 2, (some .char), 1, 1, [5040, 5038, 5039, 1016]),
  (15, ⟨"java/lang/String", "isLatin1", "()Z"⟩, prog_18_method_154_code, 1, (some .boolean), 0, 1, [5044, 5042, 5043, 1016]),
  (16, ⟨"java/lang/StringLatin1", "charAt", "([BI)C"⟩, prog_19_method_2_code, 2, (some .char), 2, 0, [5047, 5046, 0, 1017]),
  (15, ⟨"java/lang/String", "checkIndex", "(II)V"⟩, prog_18_method_155_code, 2, (none), 2, 0, [5050, 5049, 0, 1016]),
  (17, ⟨"jdk/internal/util/Preconditions", "checkIndex", "(IILjava/util/function/BiFunction;)I"⟩, prog_22_method_11_code, 3, (some .int), 3, 0, [5055, 5054, 0, 1018]),
  (18, ⟨"java/lang/StringUTF16", "charAt", "([BI)C"⟩, prog_20_method_83_code, 2, (some .char), 2, 0, [5058, 5057, 0, 1019]),
  (18, ⟨"java/lang/StringUTF16", "checkIndex", "(I[B)V"⟩, prog_20_method_91_code, 2, (none), 2, 0, [5061, 5060, 0, 1019]),
  (18, ⟨"java/lang/StringUTF16", "length", "([B)I"⟩, prog_20_method_6_code, 1, (some .int), 1, 0, [5064, 5063, 0, 1019]),
  (18, ⟨"java/lang/StringUTF16", "getChar", "([BI)C"⟩, prog_20_method_5_code, 2, (some .char), 2, 0, [5068, 5067, 0, 1019]),
  (8, ⟨"RaftTown$Tape", "isDigit", "(I)Z"⟩, prog_10_method_19_code, 1, (some .boolean), 1, 0, [5077, 5076, 0, 1010]),
  (8, ⟨"RaftTown$Tape", "nextNumber", "()V"⟩, prog_10_method_17_code, 1, (none), 0, 1, [5081, 5080, 28, 1010]),
  (8, ⟨"RaftTown$Tape", "signOf", "(I)I"⟩, prog_10_method_20_code, 1, (some .int), 1, 0, [5084, 5083, 0, 1010]),
  (8, ⟨"RaftTown$Tape", "readClause", "(II)Z"⟩, prog_10_method_5_code, 4, (some .boolean), 2, 1, [5088, 5087, 29, 1010]),
  (8, ⟨"RaftTown$Tape", "pass", "(I)Z"⟩, prog_10_method_6_code, 2, (some .boolean), 1, 1, [5092, 5091, 30, 1010]),
  (8, ⟨"RaftTown$Tape", "readOr", "(I)Z"⟩, prog_10_method_7_code, 4, (some .boolean), 1, 1, [5096, 5095, 31, 1010]),
  (8, ⟨"RaftTown$Tape", "readAnd", "(I)Z"⟩, prog_10_method_8_code, 4, (some .boolean), 1, 1, [5100, 5099, 32, 1010]),
  (8, ⟨"RaftTown$Tape", "readNot", "(I)Z"⟩, prog_10_method_9_code, 3, (some .boolean), 1, 1, [5104, 5103, 33, 1010]),
  (8, ⟨"RaftTown$Tape", "readComparison", "(I)Z"⟩, prog_10_method_10_code, 4, (some .boolean), 1, 1, [5108, 5107, 34, 1010]),
  (8, ⟨"RaftTown$Tape", "readSum", "(I)Z"⟩, prog_10_method_11_code, 5, (some .boolean), 1, 1, [5112, 5111, 35, 1010])]
def mm_mths_4 : List mm_Mt := [
  (8, ⟨"RaftTown$Tape", "readOne", "(I)Z"⟩, prog_10_method_12_code, 2, (some .boolean), 1, 1, [5116, 5115, 36, 1010]),
  (9, ⟨"RaftTown$Text", "addNumber", "(I)V"⟩, prog_11_method_4_code, 2, (none), 1, 1, [5120, 5118, 5119, 1008]),
  (9, ⟨"RaftTown$Text", "addToken", "(I)V"⟩, prog_11_method_5_code, 2, (none), 1, 1, [5124, 5122, 5123, 1008]),
  (9, ⟨"RaftTown$Text", "endClause", "(I)V"⟩, prog_11_method_6_code, 2, (none), 1, 1, [5129, 5127, 5128, 1008]),
  (9, ⟨"RaftTown$Text", "take", "(LRaftTown$Text;)V"⟩, prog_11_method_2_code, 2, (none), 1, 1, [5134, 5132, 5133, 1008]),
  (11, ⟨"RaftTown", "force", "(II)I"⟩, prog_1_method_24_code, 3, (some .int), 2, 1, [5142, 5140, 5141, 1001]),
  (1, ⟨"RaftTown$Log", "addLaw", "(III)I"⟩, prog_3_method_6_code, 5, (some .int), 3, 1, [5146, 5144, 5145, 1004]),
  (11, ⟨"RaftTown", "law", "(I)I"⟩, prog_1_method_25_code, 3, (some .int), 1, 1, [5151, 5149, 5150, 1001]),
  (11, ⟨"RaftTown", "lawAt", "(I)I"⟩, prog_1_method_44_code, 3, (some .int), 1, 1, [5155, 5154, 37, 1001]),
  (11, ⟨"RaftTown", "may", "(II)I"⟩, prog_1_method_26_code, 5, (some .int), 2, 1, [5159, 5157, 5158, 1001]),
  (11, ⟨"RaftTown", "must", "(II)I"⟩, prog_1_method_27_code, 4, (some .int), 2, 1, [5163, 5161, 5162, 1001]),
  (0, ⟨"RaftTown$Judge", "nameRafts", "(LRaftTown$Town;III)V"⟩, prog_2_method_4_code, 5, (none), 4, 1, [5167, 5165, 5166, 1012]),
  (11, ⟨"RaftTown", "speaks", "(I)I"⟩, prog_1_method_28_code, 8, (some .int), 1, 1, [5171, 5169, 5170, 1001]),
  (0, ⟨"RaftTown$Judge", "namePerson", "(LRaftTown$Town;II)V"⟩, prog_2_method_5_code, 4, (none), 3, 1, [5176, 5174, 5175, 1012]),
  (11, ⟨"RaftTown", "events", "(I)I"⟩, prog_1_method_29_code, 2, (some .int), 1, 1, [5184, 5182, 5183, 1001]),
  (1, ⟨"RaftTown$Log", "countKnown", "(I)I"⟩, prog_3_method_8_code, 4, (some .int), 1, 1, [5188, 5186, 5187, 1004]),
  (11, ⟨"RaftTown", "event", "(II)I"⟩, prog_1_method_30_code, 3, (some .int), 2, 1, [5192, 5190, 5191, 1001]),
  (1, ⟨"RaftTown$Log", "detail", "(II)I"⟩, prog_3_method_4_code, 4, (some .int), 2, 1, [5196, 5194, 5195, 1004]),
  (11, ⟨"RaftTown", "lash", "(II)I"⟩, prog_1_method_31_code, 4, (some .int), 2, 1, [5200, 5198, 5199, 1001]),
  (2, ⟨"RaftTown$Net", "fewestLashings", "(II)I"⟩, prog_4_method_21_code, 11, (some .int), 2, 1, [5204, 5202, 5203, 1011]),
  (2, ⟨"RaftTown$Net", "ropesOf", "(I)I"⟩, prog_4_method_20_code, 4, (some .int), 1, 1, [5208, 5207, 38, 1011]),
  (2, ⟨"RaftTown$Net", "doomed", "(I)I"⟩, prog_4_method_18_code, 5, (some .int), 1, 1, [5212, 5211, 39, 1011]),
  (2, ⟨"RaftTown$Net", "doomedOf", "(II)I"⟩, prog_4_method_19_code, 6, (some .int), 2, 1, [5216, 5215, 40, 1011]),
  (2, ⟨"RaftTown$Net", "isBridge", "(II)Z"⟩, prog_4_method_16_code, 4, (some .boolean), 2, 1, [5220, 5219, 41, 1011]),
  (2, ⟨"RaftTown$Net", "bridgesOf", "(I)I"⟩, prog_4_method_17_code, 4, (some .int), 1, 1, [5224, 5223, 42, 1011]),
  (2, ⟨"RaftTown$Net", "holds", "(II)Z"⟩, prog_4_method_15_code, 4, (some .boolean), 2, 1, [5229, 5228, 43, 1011]),
  (11, ⟨"RaftTown", "storm", "(IZ)I"⟩, prog_1_method_32_code, 4, (some .int), 2, 1, [5233, 5231, 5232, 1001]),
  (2, ⟨"RaftTown$Net", "bestCuts", "(I)I"⟩, prog_4_method_24_code, 5, (some .int), 1, 1, [5237, 5235, 5236, 1011]),
  (2, ⟨"RaftTown$Net", "mostKept", "(II)I"⟩, prog_4_method_22_code, 6, (some .int), 2, 1, [6001, 6000, 44, 1011]),
  (2, ⟨"RaftTown$Net", "lostBy", "(III)I"⟩, prog_4_method_23_code, 5, (some .int), 3, 1, [6005, 6003, 6004, 1011]),
  (11, ⟨"RaftTown", "proves", "(III)I"⟩, prog_1_method_33_code, 6, (some .int), 3, 1, [6011, 6009, 6010, 1001]),
  (2, ⟨"RaftTown$Net", "firstUnproved", "(IILRaftTown$Sheet;)I"⟩, prog_4_method_25_code, 7, (some .int), 3, 1, [6016, 6014, 6015, 1011]),
  (11, ⟨"RaftTown", "patch", "(II)I"⟩, prog_1_method_34_code, 4, (some .int), 2, 1, [6021, 6019, 6020, 1001]),
  (11, ⟨"RaftTown", "hasSail", "(I)Z"⟩, prog_1_method_46_code, 2, (some .boolean), 1, 1, [6025, 6024, 45, 1001]),
  (6, ⟨"RaftTown$Sea", "patchSize", "(IIZ)I"⟩, prog_8_method_7_code, 8, (some .int), 3, 1, [6029, 6027, 6028, 1003]),
  (6, ⟨"RaftTown$Sea", "aDayOn", "(J)J"⟩, prog_8_method_9_code, 6, (some .long), 1, 1, [6038, 6037, 46, 1003]),
  (19, ⟨"java/lang/Long", "bitCount", "(J)I"⟩, prog_16_method_50_code, 2, (some .int), 1, 0, [6041, 6040, 0, 1021]),
  (11, ⟨"RaftTown", "tow", "(II)I"⟩, prog_1_method_35_code, 6, (some .int), 2, 1, [6048, 6046, 6047, 1001]),
  (6, ⟨"RaftTown$Sea", "soonest", "(IIZ)I"⟩, prog_8_method_8_code, 9, (some .int), 3, 1, [6052, 6050, 6051, 1003]),
  (11, ⟨"RaftTown", "sheet", "(III)I"⟩, prog_1_method_36_code, 4, (some .int), 3, 1, [6056, 6054, 6055, 1001])]
def mm_mths_5 : List mm_Mt := [
  (7, ⟨"RaftTown$Sheet", "rule", "(II)I"⟩, prog_9_method_3_code, 4, (some .int), 2, 1, [6060, 6058, 6059, 1009]),
  (11, ⟨"RaftTown", "put", "(III)I"⟩, prog_1_method_37_code, 5, (some .int), 3, 1, [6064, 6062, 6063, 1001]),
  (7, ⟨"RaftTown$Sheet", "write", "(II)V"⟩, prog_9_method_4_code, 3, (none), 2, 1, [6068, 6066, 6067, 1009]),
  (11, ⟨"RaftTown", "copy", "(IIIII)I"⟩, prog_1_method_38_code, 8, (some .int), 5, 1, [6073, 6071, 6072, 1001]),
  (7, ⟨"RaftTown$Sheet", "hasRun", "(II)Z"⟩, prog_9_method_6_code, 3, (some .boolean), 2, 1, [6077, 6075, 6076, 1009]),
  (11, ⟨"RaftTown", "image", "()I"⟩, prog_1_method_39_code, 1, (some .int), 0, 1, [6082, 6080, 6081, 1001]),
  (10, ⟨"RaftTown$Town", "take", "(LRaftTown$Town;)V"⟩, prog_12_method_2_code, 3, (none), 1, 1, [6086, 6084, 6085, 1002]),
  (6, ⟨"RaftTown$Sea", "take", "(LRaftTown$Sea;)V"⟩, prog_8_method_2_code, 2, (none), 1, 1, [6090, 6088, 6089, 1003]),
  (4, ⟨"RaftTown$Raft", "take", "(LRaftTown$Raft;)V"⟩, prog_6_method_2_code, 2, (none), 1, 1, [6095, 6093, 6094, 1005]),
  (3, ⟨"RaftTown$Person", "take", "(LRaftTown$Person;)V"⟩, prog_5_method_2_code, 2, (none), 1, 1, [6100, 6098, 6099, 1006]),
  (5, ⟨"RaftTown$Rope", "take", "(LRaftTown$Rope;)V"⟩, prog_7_method_2_code, 2, (none), 1, 1, [6105, 6103, 6104, 1007]),
  (1, ⟨"RaftTown$Log", "take", "(LRaftTown$Log;)V"⟩, prog_3_method_2_code, 2, (none), 1, 1, [6110, 6108, 6109, 1004]),
  (11, ⟨"RaftTown", "restore", "()I"⟩, prog_1_method_40_code, 1, (some .int), 0, 1, [6116, 6114, 6115, 1001]),
  (11, ⟨"RaftTown", "count", "(I)I"⟩, prog_1_method_41_code, 2, (some .int), 1, 1, [6120, 6118, 6119, 1001]),
  (10, ⟨"RaftTown$Town", "countAfloat", "()I"⟩, prog_12_method_22_code, 3, (some .int), 0, 1, [6124, 6122, 6123, 1002]),
  (10, ⟨"RaftTown$Town", "countAlive", "()I"⟩, prog_12_method_23_code, 3, (some .int), 0, 1, [6128, 6126, 6127, 1002]),
  (10, ⟨"RaftTown$Town", "countRopes", "()I"⟩, prog_12_method_24_code, 3, (some .int), 0, 1, [6132, 6130, 6131, 1002]),
  (10, ⟨"RaftTown$Town", "countCasks", "()I"⟩, prog_12_method_25_code, 3, (some .int), 0, 1, [6136, 6134, 6135, 1002]),
  (12, ⟨"RaftTownModel", "<init>", "()V"⟩, prog_14_method_1_code, 1, (none), 0, 2, [6141, 6140, 0, 1013]),
  (12, ⟨"RaftTownModel", "stream", "(III)I"⟩, prog_14_method_12_code, 4, (some .int), 3, 1, [6227, 6225, 6226, 1013]),
  (12, ⟨"RaftTownModel", "in", "(III)Z"⟩, prog_14_method_3_code, 3, (some .boolean), 3, 0, [6230, 6229, 0, 1013]),
  (12, ⟨"RaftTownModel", "finds", "(I)I"⟩, prog_14_method_4_code, 2, (some .int), 1, 1, [6235, 6234, 47, 1013]),
  (12, ⟨"RaftTownModel", "raft", "(IIII)I"⟩, prog_14_method_13_code, 6, (some .int), 4, 1, [6239, 6237, 6238, 1013]),
  (12, ⟨"RaftTownModel", "makes", "(III)V"⟩, prog_14_method_10_code, 4, (none), 3, 1, [7004, 7003, 48, 1013]),
  (12, ⟨"RaftTownModel", "as", "(II)I"⟩, prog_14_method_14_code, 4, (some .int), 2, 1, [7008, 7006, 7007, 1013]),
  (12, ⟨"RaftTownModel", "isFloat", "(I)Z"⟩, prog_14_method_5_code, 2, (some .boolean), 1, 1, [7012, 7011, 49, 1013]),
  (12, ⟨"RaftTownModel", "own", "(II)I"⟩, prog_14_method_9_code, 3, (some .int), 2, 1, [7016, 7015, 50, 1013]),
  (12, ⟨"RaftTownModel", "raftIs", "(II)I"⟩, prog_14_method_17_code, 3, (some .int), 2, 1, [7021, 7019, 7020, 1013]),
  (12, ⟨"RaftTownModel", "weightOf", "(I)I"⟩, prog_14_method_16_code, 4, (some .int), 1, 1, [7025, 7024, 51, 1013]),
  (12, ⟨"RaftTownModel", "isOn", "(II)Z"⟩, prog_14_method_23_code, 3, (some .boolean), 2, 1, [7029, 7028, 52, 1013]),
  (12, ⟨"RaftTownModel", "isLost", "(I)Z"⟩, prog_14_method_22_code, 2, (some .boolean), 1, 1, [7033, 7032, 53, 1013]),
  (12, ⟨"RaftTownModel", "ofPerson", "(II)I"⟩, prog_14_method_21_code, 3, (some .int), 2, 1, [7037, 7036, 54, 1013]),
  (12, ⟨"RaftTownModel", "areaOf", "(I)I"⟩, prog_14_method_15_code, 3, (some .int), 1, 1, [7041, 7040, 55, 1013]),
  (12, ⟨"RaftTownModel", "allRopes", "()I"⟩, prog_14_method_32_code, 3, (some .int), 0, 1, [7045, 7044, 56, 1013]),
  (12, ⟨"RaftTownModel", "isLaid", "(I)Z"⟩, prog_14_method_31_code, 2, (some .boolean), 1, 1, [7049, 7048, 57, 1013]),
  (12, ⟨"RaftTownModel", "ofRope", "(II)I"⟩, prog_14_method_30_code, 3, (some .int), 2, 1, [7053, 7052, 58, 1013]),
  (12, ⟨"RaftTownModel", "partOf", "(II)I"⟩, prog_14_method_33_code, 8, (some .int), 2, 1, [7057, 7056, 59, 1013]),
  (12, ⟨"RaftTownModel", "leastOf", "(I)I"⟩, prog_14_method_34_code, 2, (some .int), 1, 0, [7060, 7059, 0, 1013]),
  (12, ⟨"RaftTownModel", "load", "(IIZ)I"⟩, prog_14_method_19_code, 5, (some .int), 3, 1, [7064, 7062, 7063, 1013]),
  (12, ⟨"RaftTownModel", "isSunk", "(I)Z"⟩, prog_14_method_11_code, 2, (some .boolean), 1, 1, [7068, 7067, 60, 1013])]
def mm_mths_6 : List mm_Mt := [
  (12, ⟨"RaftTownModel", "roomOf", "(I)I"⟩, prog_14_method_18_code, 2, (some .int), 1, 1, [7073, 7072, 61, 1013]),
  (12, ⟨"RaftTownModel", "trade", "(IIIZ)I"⟩, prog_14_method_20_code, 6, (some .int), 4, 1, [7077, 7075, 7076, 1013]),
  (12, ⟨"RaftTownModel", "person", "(IIII)I"⟩, prog_14_method_24_code, 7, (some .int), 4, 1, [7084, 7082, 7083, 1013]),
  (12, ⟨"RaftTownModel", "wed", "(II)I"⟩, prog_14_method_25_code, 3, (some .int), 2, 1, [7088, 7086, 7087, 1013]),
  (12, ⟨"RaftTownModel", "isPerson", "(I)Z"⟩, prog_14_method_6_code, 2, (some .boolean), 1, 1, [7092, 7091, 62, 1013]),
  (12, ⟨"RaftTownModel", "move", "(II)I"⟩, prog_14_method_26_code, 4, (some .int), 2, 1, [7097, 7095, 7096, 1013]),
  (12, ⟨"RaftTownModel", "personIs", "(II)I"⟩, prog_14_method_29_code, 5, (some .int), 2, 1, [7101, 7099, 7100, 1013]),
  (12, ⟨"RaftTownModel", "areKin", "(II)Z"⟩, prog_14_method_28_code, 3, (some .boolean), 2, 1, [7105, 7104, 63, 1013]),
  (12, ⟨"RaftTownModel", "isParent", "(II)Z"⟩, prog_14_method_27_code, 3, (some .boolean), 2, 1, [7109, 7108, 64, 1013]),
  (12, ⟨"RaftTownModel", "parts", "()I"⟩, prog_14_method_37_code, 1, (some .int), 0, 1, [7113, 7111, 7112, 1013]),
  (12, ⟨"RaftTownModel", "partMany", "()I"⟩, prog_14_method_36_code, 4, (some .int), 0, 1, [7117, 7116, 65, 1013]),
  (12, ⟨"RaftTownModel", "part", "(I)I"⟩, prog_14_method_38_code, 2, (some .int), 1, 1, [7121, 7119, 7120, 1013]),
  (12, ⟨"RaftTownModel", "tie", "(IIIII)I"⟩, prog_14_method_40_code, 9, (some .int), 5, 1, [7125, 7123, 7124, 1013]),
  (12, ⟨"RaftTownModel", "hasRoom", "(II)Z"⟩, prog_14_method_39_code, 5, (some .boolean), 2, 1, [7129, 7128, 66, 1013]),
  (12, ⟨"RaftTownModel", "tellsOn", "(I)V"⟩, prog_14_method_51_code, 3, (none), 1, 1, [7133, 7132, 67, 1013]),
  (12, ⟨"RaftTownModel", "happens", "(III)V"⟩, prog_14_method_50_code, 5, (none), 3, 1, [7137, 7136, 68, 1013]),
  (12, ⟨"RaftTownModel", "rope", "(II)I"⟩, prog_14_method_47_code, 3, (some .int), 2, 1, [7141, 7139, 7140, 1013]),
  (12, ⟨"RaftTownModel", "isRope", "(I)Z"⟩, prog_14_method_7_code, 2, (some .boolean), 1, 1, [7145, 7144, 69, 1013]),
  (12, ⟨"RaftTownModel", "strengthOf", "(I)I"⟩, prog_14_method_41_code, 3, (some .int), 1, 1, [7149, 7148, 70, 1013]),
  (12, ⟨"RaftTownModel", "weighs", "()V"⟩, prog_14_method_43_code, 2, (none), 0, 1, [7153, 7152, 71, 1013]),
  (12, ⟨"RaftTownModel", "hangOf", "(II)I"⟩, prog_14_method_44_code, 8, (some .int), 2, 1, [7157, 7156, 72, 1013]),
  (12, ⟨"RaftTownModel", "weightOfAll", "(I)I"⟩, prog_14_method_42_code, 4, (some .int), 1, 1, [7161, 7160, 73, 1013]),
  (12, ⟨"RaftTownModel", "bears", "(II)I"⟩, prog_14_method_48_code, 3, (some .int), 2, 1, [7165, 7163, 7164, 1013]),
  (12, ⟨"RaftTownModel", "isWaves", "(I)Z"⟩, prog_14_method_8_code, 1, (some .boolean), 1, 0, [7168, 7167, 0, 1013]),
  (12, ⟨"RaftTownModel", "loadOf", "(III)I"⟩, prog_14_method_45_code, 4, (some .int), 3, 1, [7172, 7171, 74, 1013]),
  (12, ⟨"RaftTownModel", "worst", "(II)I"⟩, prog_14_method_49_code, 6, (some .int), 2, 1, [7176, 7174, 7175, 1013]),
  (12, ⟨"RaftTownModel", "partsFirst", "(II)I"⟩, prog_14_method_46_code, 7, (some .int), 2, 1, [7180, 7179, 75, 1013]),
  (12, ⟨"RaftTownModel", "events", "(I)I"⟩, prog_14_method_52_code, 4, (some .int), 1, 1, [7184, 7182, 7183, 1013]),
  (12, ⟨"RaftTownModel", "event", "(II)I"⟩, prog_14_method_53_code, 3, (some .int), 2, 1, [7188, 7186, 7187, 1013]),
  (12, ⟨"RaftTownModel", "day", "(II)I"⟩, prog_14_method_65_code, 3, (some .int), 2, 1, [7192, 7190, 7191, 1013]),
  (12, ⟨"RaftTownModel", "passes", "(II)I"⟩, prog_14_method_64_code, 4, (some .int), 2, 1, [7196, 7195, 76, 1013]),
  (12, ⟨"RaftTownModel", "partsAll", "(I)I"⟩, prog_14_method_55_code, 5, (some .int), 1, 1, [7200, 7199, 77, 1013]),
  (12, ⟨"RaftTownModel", "rains", "(I)V"⟩, prog_14_method_56_code, 4, (none), 1, 1, [7204, 7203, 78, 1013]),
  (12, ⟨"RaftTownModel", "drinks", "(I)Z"⟩, prog_14_method_57_code, 2, (some .boolean), 1, 1, [7208, 7207, 79, 1013]),
  (12, ⟨"RaftTownModel", "allDrink", "()V"⟩, prog_14_method_58_code, 6, (none), 0, 1, [7212, 7211, 80, 1013]),
  (12, ⟨"RaftTownModel", "loses", "(II)V"⟩, prog_14_method_54_code, 3, (none), 2, 1, [7216, 7215, 81, 1013]),
  (12, ⟨"RaftTownModel", "ropesAge", "(I)V"⟩, prog_14_method_59_code, 3, (none), 1, 1, [7220, 7219, 82, 1013]),
  (12, ⟨"RaftTownModel", "rots", "()V"⟩, prog_14_method_61_code, 2, (none), 0, 1, [7224, 7223, 83, 1013]),
  (12, ⟨"RaftTownModel", "sinks", "(I)V"⟩, prog_14_method_60_code, 5, (none), 1, 1, [7228, 7227, 84, 1013]),
  (12, ⟨"RaftTownModel", "drifts", "()V"⟩, prog_14_method_63_code, 2, (none), 0, 1, [7232, 7231, 85, 1013])]
def mm_mths_7 : List mm_Mt := [
  (12, ⟨"RaftTownModel", "leads", "(II)I"⟩, prog_14_method_62_code, 5, (some .int), 2, 1, [7236, 7235, 86, 1013]),
  (12, ⟨"RaftTownModel", "days", "(II)I"⟩, prog_14_method_66_code, 8, (some .int), 2, 1, [8000, 7238, 7239, 1013]),
  (12, ⟨"RaftTownModel", "isSheet", "(I)Z"⟩, prog_14_method_107_code, 1, (some .boolean), 1, 0, [8003, 8002, 0, 1013]),
  (12, ⟨"RaftTownModel", "lasts", "(I)I"⟩, prog_14_method_69_code, 5, (some .int), 1, 1, [8007, 8005, 8006, 1013]),
  (12, ⟨"RaftTownModel", "headsOf", "(I)I"⟩, prog_14_method_67_code, 4, (some .int), 1, 1, [8011, 8010, 87, 1013]),
  (12, ⟨"RaftTownModel", "waterOf", "(I)I"⟩, prog_14_method_68_code, 4, (some .int), 1, 1, [8015, 8014, 88, 1013]),
  (12, ⟨"RaftTownModel", "feed", "(IJ)I"⟩, prog_14_method_70_code, 5, (some .int), 2, 1, [8019, 8017, 8018, 1013]),
  (12, ⟨"RaftTownModel", "text", "(I)I"⟩, prog_14_method_84_code, 4, (some .int), 1, 1, [8023, 8021, 8022, 1013]),
  (12, ⟨"RaftTownModel", "reads", "()Z"⟩, prog_14_method_83_code, 2, (some .boolean), 0, 1, [8027, 8026, 89, 1013]),
  (12, ⟨"RaftTownModel", "looks", "()V"⟩, prog_14_method_76_code, 2, (none), 0, 1, [8031, 8030, 90, 1013]),
  (12, ⟨"RaftTownModel", "byteAt", "(I)I"⟩, prog_14_method_71_code, 2, (some .int), 1, 1, [8035, 8034, 91, 1013]),
  (12, ⟨"RaftTownModel", "isLetter", "(I)Z"⟩, prog_14_method_72_code, 1, (some .boolean), 1, 0, [8038, 8037, 0, 1013]),
  (12, ⟨"RaftTownModel", "wordOf", "()I"⟩, prog_14_method_75_code, 4, (some .int), 0, 1, [8042, 8041, 92, 1013]),
  (12, ⟨"RaftTownModel", "isDigit", "(I)Z"⟩, prog_14_method_73_code, 1, (some .boolean), 1, 0, [8045, 8044, 0, 1013]),
  (12, ⟨"RaftTownModel", "isSign", "(I)Z"⟩, prog_14_method_74_code, 1, (some .boolean), 1, 0, [8048, 8047, 0, 1013]),
  (12, ⟨"RaftTownModel", "readsE", "(I)Z"⟩, prog_14_method_82_code, 5, (some .boolean), 1, 1, [8052, 8051, 93, 1013]),
  (12, ⟨"RaftTownModel", "waitsOf", "(I)I"⟩, prog_14_method_80_code, 4, (some .int), 1, 1, [8056, 8055, 94, 1013]),
  (12, ⟨"RaftTownModel", "lays", "(I)V"⟩, prog_14_method_78_code, 2, (none), 1, 1, [8060, 8059, 95, 1013]),
  (12, ⟨"RaftTownModel", "settles", "(I)V"⟩, prog_14_method_79_code, 2, (none), 1, 1, [8064, 8063, 96, 1013]),
  (12, ⟨"RaftTownModel", "rankOf", "(I)I"⟩, prog_14_method_77_code, 1, (some .int), 1, 0, [8067, 8066, 0, 1013]),
  (12, ⟨"RaftTownModel", "isTested", "()Z"⟩, prog_14_method_81_code, 2, (some .boolean), 0, 1, [8071, 8070, 97, 1013]),
  (12, ⟨"RaftTownModel", "force", "(II)I"⟩, prog_14_method_87_code, 5, (some .int), 2, 1, [8075, 8073, 8074, 1013]),
  (12, ⟨"RaftTownModel", "law", "(I)I"⟩, prog_14_method_89_code, 3, (some .int), 1, 1, [8079, 8077, 8078, 1013]),
  (12, ⟨"RaftTownModel", "lawOf", "(I)I"⟩, prog_14_method_88_code, 4, (some .int), 1, 1, [8083, 8082, 98, 1013]),
  (12, ⟨"RaftTownModel", "cut", "(I)I"⟩, prog_14_method_93_code, 4, (some .int), 1, 1, [8087, 8085, 8086, 1013]),
  (12, ⟨"RaftTownModel", "cutOf", "(IIII)I"⟩, prog_14_method_92_code, 5, (some .int), 4, 1, [8091, 8090, 99, 1013]),
  (12, ⟨"RaftTownModel", "namesOf", "(I)V"⟩, prog_14_method_90_code, 3, (none), 1, 1, [8095, 8094, 100, 1013]),
  (12, ⟨"RaftTownModel", "kinOn", "(II)I"⟩, prog_14_method_91_code, 6, (some .int), 2, 1, [8099, 8098, 101, 1013]),
  (12, ⟨"RaftTownModel", "worth", "(II)I"⟩, prog_14_method_86_code, 7, (some .int), 2, 1, [8103, 8102, 102, 1013]),
  (12, ⟨"RaftTownModel", "done", "(III)I"⟩, prog_14_method_85_code, 3, (some .int), 3, 0, [8106, 8105, 0, 1013]),
  (12, ⟨"RaftTownModel", "may", "(II)I"⟩, prog_14_method_94_code, 5, (some .int), 2, 1, [8111, 8109, 8110, 1013]),
  (12, ⟨"RaftTownModel", "must", "(II)I"⟩, prog_14_method_95_code, 4, (some .int), 2, 1, [8115, 8113, 8114, 1013]),
  (12, ⟨"RaftTownModel", "speaks", "(I)I"⟩, prog_14_method_96_code, 8, (some .int), 1, 1, [8119, 8117, 8118, 1013]),
  (12, ⟨"RaftTownModel", "lash", "(II)I"⟩, prog_14_method_98_code, 7, (some .int), 2, 1, [8123, 8121, 8122, 1013]),
  (12, ⟨"RaftTownModel", "ones", "(I)I"⟩, prog_14_method_35_code, 3, (some .int), 1, 0, [8126, 8125, 0, 1013]),
  (12, ⟨"RaftTownModel", "holds", "(II)Z"⟩, prog_14_method_97_code, 3, (some .boolean), 2, 1, [8130, 8129, 103, 1013]),
  (12, ⟨"RaftTownModel", "storm", "(IZ)I"⟩, prog_14_method_100_code, 8, (some .int), 2, 1, [8134, 8132, 8133, 1013]),
  (12, ⟨"RaftTownModel", "lostBy", "(II)I"⟩, prog_14_method_99_code, 6, (some .int), 2, 1, [8138, 8137, 104, 1013]),
  (12, ⟨"RaftTownModel", "proves", "(III)I"⟩, prog_14_method_101_code, 8, (some .int), 3, 1, [8142, 8140, 8141, 1013]),
  (12, ⟨"RaftTownModel", "patch", "(II)I"⟩, prog_14_method_105_code, 7, (some .int), 2, 1, [8146, 8144, 8145, 1013])]
def mm_mths_8 : List mm_Mt := [
  (12, ⟨"RaftTownModel", "hasSail", "(I)Z"⟩, prog_14_method_102_code, 3, (some .boolean), 1, 1, [8150, 8149, 105, 1013]),
  (12, ⟨"RaftTownModel", "areNext", "(II)Z"⟩, prog_14_method_103_code, 4, (some .boolean), 2, 0, [8153, 8152, 0, 1013]),
  (12, ⟨"RaftTownModel", "copies", "()V"⟩, prog_14_method_104_code, 2, (none), 0, 1, [8157, 8156, 106, 1013]),
  (12, ⟨"RaftTownModel", "tow", "(II)I"⟩, prog_14_method_106_code, 8, (some .int), 2, 1, [8161, 8159, 8160, 1013]),
  (12, ⟨"RaftTownModel", "sheet", "(III)I"⟩, prog_14_method_108_code, 5, (some .int), 3, 1, [8165, 8163, 8164, 1013]),
  (12, ⟨"RaftTownModel", "put", "(III)I"⟩, prog_14_method_109_code, 4, (some .int), 3, 1, [8169, 8167, 8168, 1013]),
  (12, ⟨"RaftTownModel", "copy", "(IIIII)I"⟩, prog_14_method_110_code, 7, (some .int), 5, 1, [8173, 8171, 8172, 1013]),
  (12, ⟨"RaftTownModel", "image", "()I"⟩, prog_14_method_111_code, 2, (some .int), 0, 1, [8177, 8175, 8176, 1013]),
  (12, ⟨"RaftTownModel", "restore", "()I"⟩, prog_14_method_112_code, 2, (some .int), 0, 1, [8181, 8179, 8180, 1013]),
  (12, ⟨"RaftTownModel", "count", "(I)I"⟩, prog_14_method_113_code, 4, (some .int), 1, 1, [8185, 8183, 8184, 1013])]
def mm_mths : List mm_Mt := mm_mths_0 ++ (mm_mths_1 ++ (mm_mths_2 ++ (mm_mths_3 ++ (mm_mths_4 ++ (mm_mths_5 ++ (mm_mths_6 ++ (mm_mths_7 ++ (mm_mths_8))))))))
/-- what a class's pool says, as far as it is used: entry, kind, two numbers, a value, the word's place -/
abbrev mm_Pe : Type := Nat × Nat × Nat × Nat × Int × Nat
def mm_pool (o : Nat) : List mm_Pe := match o with
  | 0 => [(3, 8, 0, 0, 0, 2135), (9, 0, 0, 0, 0, 2136), (15, 0, 0, 1, 0, 2137), (18, 2, 31, 0, 0, 3191), (24, 2, 70, 0, 0, 3192), (27, 1, 2, 4, 0, 2113), (33, 2, 71, 0, 0, 3196), (37, 2, 32, 0, 0, 3208), (43, 1, 5, 5, 0, 1200), (46, 1, 5, 0, 0, 1187), (49, 1, 5, 1, 0, 1192), (52, 2, 74, 0, 0, 3209), (56, 2, 34, 0, 0, 3232), (60, 2, 79, 0, 0, 3233), (64, 2, 53, 0, 0, 5177), (67, 2, 75, 0, 0, 5178), (70, 2, 78, 0, 0, 5179), (75, 2, 30, 0, 0, 5180), (79, 1, 3, 1, 0, 1149), (84, 2, 80, 0, 0, 3237), (87, 2, 81, 0, 0, 4001), (90, 1, 10, 9, 0, 2020), (93, 0, 0, 2, 0, 2138), (96, 2, 87, 0, 0, 4026), (101, 2, 88, 0, 0, 4032), (104, 1, 9, 1, 0, 1234), (107, 2, 89, 0, 0, 4036), (111, 2, 90, 0, 0, 4040), (114, 2, 91, 0, 0, 4044)]
  | 1 => [(3, 8, 0, 0, 0, 1065), (9, 0, 1, 0, 0, 1066), (15, 0, 1, 1, 0, 1067), (18, 0, 1, 2, 0, 1068), (21, 0, 1, 3, 0, 1069), (24, 0, 1, 6, 0, 1073), (27, 0, 1, 7, 0, 1074), (30, 9, 0, 0, 0, 6111), (36, 0, 1, 4, 0, 1070), (40, 0, 1, 5, 0, 1071), (43, 0, 1, 8, 0, 1075), (46, 2, 63, 0, 0, 3163), (50, 2, 62, 0, 0, 5147), (54, 3, 14, 0, 0, 4014)]
  | 2 => [(3, 8, 0, 0, 0, 2107), (9, 0, 2, 0, 0, 2108), (15, 0, 2, 1, 0, 2109), (18, 0, 2, 2, 0, 2110), (21, 0, 2, 3, 0, 2111), (24, 0, 2, 5, 0, 2116), (28, 2, 20, 0, 0, 3002), (34, 2, 28, 0, 0, 3003), (40, 2, 23, 0, 0, 3013), (44, 1, 4, 6, 0, 1121), (48, 2, 30, 0, 0, 3014), (52, 1, 3, 6, 0, 1162), (57, 1, 3, 0, 0, 1145), (60, 3, 14, 0, 0, 3018), (64, 0, 2, 4, 0, 2112), (67, 2, 31, 0, 0, 3019), (71, 1, 5, 0, 0, 1186), (76, 1, 5, 1, 0, 1191), (79, 2, 32, 0, 0, 3023), (81, 2, 33, 0, 0, 3030), (85, 14, 0, 0, 0, 3034), (91, 1, 5, 7, 0, 1206), (94, 2, 35, 0, 0, 3043), (97, 2, 34, 0, 0, 3080), (100, 3, 44, 0, 0, 3081), (104, 2, 73, 0, 0, 3204), (107, 2, 72, 0, 0, 3200), (110, 2, 71, 0, 0, 4086), (114, 2, 100, 0, 0, 4082), (117, 2, 183, 0, 0, 5217), (120, 2, 182, 0, 0, 5213), (123, 2, 180, 0, 0, 5205), (126, 2, 181, 0, 0, 5209), (129, 2, 184, 0, 0, 5221), (132, 2, 78, 0, 0, 5225), (137, 2, 185, 0, 0, 5226), (140, 2, 99, 0, 0, 6006), (143, 2, 188, 0, 0, 5238), (146, 2, 189, 0, 0, 6002), (149, 2, 124, 0, 0, 6017)]
  | 3 => [(1, 8, 0, 0, 0, 1143), (7, 0, 3, 6, 0, 1161), (13, 0, 3, 0, 0, 1144), (17, 0, 3, 1, 0, 1148), (20, 0, 3, 2, 0, 1151), (23, 0, 3, 3, 0, 1153), (26, 2, 48, 0, 0, 6101), (30, 0, 3, 4, 0, 1155), (33, 0, 3, 5, 0, 1158)]
  | 4 => [(3, 8, 0, 0, 0, 1102), (9, 0, 4, 0, 0, 1103), (15, 0, 4, 1, 0, 1106), (18, 0, 4, 2, 0, 1109), (21, 0, 4, 3, 0, 1112), (24, 2, 21, 0, 0, 6096), (28, 0, 4, 4, 0, 1114), (31, 0, 4, 5, 0, 1117), (34, 0, 4, 6, 0, 1120), (38, 3, 18, 0, 0, 2226), (42, 11, 0, 0, 0, 2227), (46, 11, 1, 0, 0, 3011), (49, 2, 29, 0, 0, 3007), (53, 2, 41, 0, 0, 3067)]
  | 5 => [(1, 8, 0, 0, 0, 1184), (7, 0, 5, 0, 0, 1185), (13, 0, 5, 2, 0, 1194), (16, 0, 5, 1, 0, 1190), (19, 0, 5, 3, 0, 1196), (22, 0, 5, 4, 0, 1198), (25, 2, 61, 0, 0, 6106), (29, 0, 5, 5, 0, 1199), (32, 0, 5, 6, 0, 1203), (35, 0, 5, 7, 0, 1205), (39, 13, 0, 0, 0, 3027)]
  | 6 => [(3, 8, 0, 0, 0, 1041), (9, 0, 6, 0, 0, 1042), (15, 0, 6, 1, 0, 1043), (18, 0, 6, 2, 0, 1044), (22, 9, 0, 0, 0, 6091), (28, 3, 13, 0, 0, 2191), (32, 3, 14, 0, 0, 4175), (36, 2, 120, 0, 0, 4172), (40, 2, 119, 0, 0, 4168), (44, 2, 118, 0, 0, 6030), (48, 11, 7, 0, 0, 6031), (51, 11, 8, 0, 0, 6033), (54, 2, 195, 0, 0, 6035), (58, 2, 196, 0, 0, 6039)]
  | 7 => [(3, 8, 0, 0, 0, 2057), (9, 0, 7, 2, 0, 2062), (15, 0, 7, 0, 0, 2058), (19, 0, 7, 1, 0, 2060), (22, 3, 14, 0, 0, 4191), (26, 6, 0, 0, 65535, 6069)]
  | 8 => [(3, 8, 0, 0, 0, 2076), (9, 0, 8, 0, 0, 2079), (15, 4, 9, 1226, 1008, 2077), (17, 3, 7, 0, 0, 2078), (18, 0, 8, 2, 0, 2081), (22, 0, 8, 1, 0, 2080), (26, 7, 0, 0, 255, 4214), (28, 0, 8, 3, 0, 2083), (31, 2, 132, 0, 0, 4224), (34, 2, 133, 0, 0, 4228), (37, 2, 153, 0, 0, 5085), (41, 0, 8, 4, 0, 2084), (44, 0, 8, 5, 0, 2085), (47, 2, 154, 0, 0, 5089), (51, 2, 155, 0, 0, 5093), (54, 2, 163, 0, 0, 5126), (58, 2, 156, 0, 0, 5097), (61, 2, 162, 0, 0, 5121), (64, 2, 157, 0, 0, 5101), (67, 2, 158, 0, 0, 5105), (70, 2, 159, 0, 0, 5109), (73, 2, 160, 0, 0, 5113), (76, 0, 8, 6, 0, 2086), (79, 2, 161, 0, 0, 5117), (82, 2, 134, 0, 0, 4232), (86, 2, 135, 0, 0, 4236), (89, 2, 136, 0, 0, 5000), (92, 2, 150, 0, 0, 5075), (95, 2, 151, 0, 0, 5078), (98, 2, 152, 0, 0, 5082), (101, 2, 137, 0, 0, 5004), (105, 2, 138, 0, 0, 5023), (109, 2, 139, 0, 0, 5027), (114, 2, 141, 0, 0, 5037), (118, 3, 14, 0, 0, 4239)]
  | 9 => [(3, 8, 0, 0, 0, 1230), (9, 0, 9, 1, 0, 1233), (15, 0, 9, 2, 0, 1235), (18, 0, 9, 0, 0, 1231), (22, 0, 9, 3, 0, 1236), (26, 9, 0, 0, 0, 5135), (32, 2, 161, 0, 0, 5125), (36, 3, 14, 0, 0, 4030), (40, 14, 0, 0, 0, 4031)]
  | 10 => [(3, 8, 0, 0, 0, 1035), (9, 4, 6, 1037, 1003, 1036), (11, 3, 2, 0, 0, 1038), (12, 0, 10, 0, 0, 2006), (18, 4, 4, 1098, 1005, 1054), (20, 0, 10, 1, 0, 2008), (24, 4, 3, 1139, 1006, 1056), (26, 0, 10, 3, 0, 2011), (30, 4, 5, 1180, 1007, 1058), (32, 0, 10, 5, 0, 2014), (36, 4, 1, 1061, 1004, 1060), (38, 3, 3, 0, 0, 1062), (39, 0, 10, 7, 0, 2016), (43, 4, 9, 1226, 1008, 1096), (45, 0, 10, 8, 0, 2018), (49, 3, 4, 0, 0, 1099), (50, 3, 5, 0, 0, 1140), (51, 3, 6, 0, 0, 1181), (52, 3, 7, 0, 0, 1227), (53, 2, 207, 0, 0, 6087), (57, 2, 208, 0, 0, 6092), (60, 0, 10, 2, 0, 2009), (64, 2, 209, 0, 0, 6097), (67, 0, 10, 4, 0, 2012), (70, 2, 210, 0, 0, 6102), (73, 0, 10, 6, 0, 2015), (76, 2, 211, 0, 0, 6107), (79, 2, 164, 0, 0, 6112), (82, 0, 10, 9, 0, 2019), (85, 0, 10, 10, 0, 2022), (88, 0, 10, 11, 0, 2024), (91, 3, 14, 0, 0, 2208), (95, 3, 85, 0, 0, 4019), (99, 2, 83, 0, 0, 4010), (103, 2, 84, 0, 0, 4015), (107, 2, 20, 0, 0, 2204), (111, 2, 21, 0, 0, 2209), (115, 2, 30, 0, 0, 3099), (119, 2, 48, 0, 0, 3100), (122, 2, 59, 0, 0, 3145), (126, 1, 4, 0, 0, 1105), (129, 1, 5, 7, 0, 1208), (133, 13, 0, 0, 0, 3153), (139, 2, 55, 0, 0, 3130), (142, 1, 3, 2, 0, 1152), (145, 1, 3, 3, 0, 1154), (148, 1, 3, 4, 0, 1157), (151, 2, 54, 0, 0, 3126), (154, 2, 76, 0, 0, 3217), (157, 2, 75, 0, 0, 3213), (160, 2, 78, 0, 0, 3226), (165, 2, 77, 0, 0, 3221), (168, 2, 53, 0, 0, 3225), (171, 3, 44, 0, 0, 4005), (174, 1, 4, 4, 0, 1116), (177, 1, 4, 6, 0, 1123), (180, 1, 3, 6, 0, 1164), (183, 1, 4, 5, 0, 1119), (186, 2, 27, 0, 0, 4102), (192, 2, 105, 0, 0, 4103), (196, 2, 107, 0, 0, 4115), (200, 2, 108, 0, 0, 4123), (203, 2, 109, 0, 0, 4127), (207, 2, 113, 0, 0, 4144), (211, 2, 114, 0, 0, 4148), (214, 2, 117, 0, 0, 4160), (217, 1, 2, 4, 0, 2115), (220, 2, 100, 0, 0, 4107), (223, 2, 31, 0, 0, 4108), (227, 1, 5, 0, 0, 1189), (228, 2, 34, 0, 0, 4109), (231, 2, 62, 0, 0, 4110), (234, 2, 106, 0, 0, 4111), (237, 2, 29, 0, 0, 4119), (241, 2, 39, 0, 0, 4120), (244, 14, 0, 0, 0, 4121), (247, 2, 40, 0, 0, 4122), (251, 1, 3, 0, 0, 1147), (254, 2, 110, 0, 0, 4131), (258, 2, 111, 0, 0, 4135), (261, 1, 3, 5, 0, 1160), (264, 2, 112, 0, 0, 4140), (267, 3, 36, 0, 0, 4139), (270, 1, 5, 5, 0, 1202), (273, 1, 5, 6, 0, 1204), (276, 1, 4, 2, 0, 1111), (279, 2, 115, 0, 0, 4152), (283, 2, 116, 0, 0, 4156), (286, 1, 4, 1, 0, 1108), (289, 2, 118, 0, 0, 4164)]
  | 11 => [(1, 8, 0, 0, 0, 1027), (7, 4, 10, 1031, 1002, 1030), (9, 2, 1, 0, 0, 1032), (10, 0, 11, 0, 0, 2146), (16, 0, 11, 1, 0, 2147), (19, 0, 11, 2, 0, 2148), (23, 4, 7, 2053, 1009, 2051), (25, 0, 11, 3, 0, 2149), (29, 3, 8, 0, 0, 2054), (30, 4, 8, 2072, 1010, 2071), (32, 3, 9, 0, 0, 2073), (33, 0, 11, 4, 0, 2150), (37, 4, 2, 2103, 1011, 2102), (39, 3, 10, 0, 0, 2104), (40, 0, 11, 5, 0, 2151), (44, 4, 0, 2131, 1012, 2130), (46, 3, 11, 0, 0, 2132), (47, 0, 11, 6, 0, 2152), (51, 0, 11, 7, 0, 2153), (55, 2, 13, 0, 0, 2175), (59, 2, 14, 0, 0, 2178), (63, 6, 0, 0, -100001, 2181), (64, 2, 15, 0, 0, 2182), (68, 1, 10, 0, 0, 2007), (72, 2, 16, 0, 0, 2187), (78, 2, 18, 0, 0, 2196), (81, 1, 10, 2, 0, 2010), (84, 6, 0, 0, -100005, 2199), (85, 2, 19, 0, 0, 2200), (89, 2, 23, 0, 0, 2217), (92, 2, 20, 0, 0, 2221), (96, 2, 24, 0, 0, 2222), (101, 6, 0, 0, -100004, 2229), (102, 1, 4, 0, 0, 1104), (105, 1, 4, 1, 0, 1107), (108, 1, 4, 2, 0, 1110), (111, 1, 4, 3, 0, 1113), (114, 1, 4, 4, 0, 1115), (117, 1, 4, 5, 0, 1118), (120, 2, 26, 0, 0, 2234), (124, 2, 33, 0, 0, 3037), (127, 2, 29, 0, 0, 3038), (131, 2, 34, 0, 0, 3039), (134, 2, 36, 0, 0, 3047), (137, 1, 4, 6, 0, 1122), (140, 6, 0, 0, -100006, 3058), (141, 2, 39, 0, 0, 3059), (144, 2, 40, 0, 0, 3063), (148, 6, 0, 0, -100003, 3075), (149, 2, 43, 0, 0, 3076), (153, 6, 0, 0, -100008, 3084), (154, 2, 41, 0, 0, 3085), (158, 6, 0, 0, -100002, 3086), (159, 2, 46, 0, 0, 3091), (162, 1, 10, 4, 0, 2013), (165, 2, 47, 0, 0, 3095), (168, 2, 50, 0, 0, 3108), (171, 2, 30, 0, 0, 3112), (175, 1, 3, 6, 0, 1163), (180, 1, 3, 4, 0, 1156), (183, 6, 0, 0, -100007, 3113), (184, 1, 3, 0, 0, 1146), (187, 1, 3, 1, 0, 1150), (190, 1, 3, 5, 0, 1159), (193, 2, 53, 0, 0, 3122), (196, 2, 57, 0, 0, 3138), (199, 2, 58, 0, 0, 3141), (202, 2, 60, 0, 0, 3149), (205, 2, 31, 0, 0, 3154), (209, 2, 61, 0, 0, 3155), (215, 1, 10, 7, 0, 2017), (219, 1, 10, 9, 0, 2021), (222, 2, 62, 0, 0, 3159), (228, 2, 64, 0, 0, 3167), (232, 2, 66, 0, 0, 3175), (235, 1, 5, 7, 0, 1207), (238, 1, 5, 0, 0, 1188), (241, 2, 67, 0, 0, 3179), (244, 2, 68, 0, 0, 3183), (248, 6, 0, 0, -100009, 4047), (249, 2, 92, 0, 0, 4048), (252, 1, 5, 1, 0, 1193), (255, 2, 32, 0, 0, 4056), (258, 1, 5, 5, 0, 1201), (261, 1, 2, 4, 0, 2114), (264, 2, 72, 0, 0, 4057), (268, 1, 5, 2, 0, 1195), (271, 1, 5, 3, 0, 1197), (274, 2, 95, 0, 0, 4062), (277, 2, 71, 0, 0, 4065), (280, 2, 99, 0, 0, 4078), (283, 2, 101, 0, 0, 4087), (286, 2, 103, 0, 0, 4095), (289, 2, 104, 0, 0, 4098), (293, 2, 122, 0, 0, 4180), (296, 2, 123, 0, 0, 4183), (300, 2, 124, 0, 0, 4187), (303, 2, 80, 0, 0, 4196), (306, 2, 126, 0, 0, 4197), (309, 2, 81, 0, 0, 4201), (312, 2, 128, 0, 0, 4206), (315, 2, 129, 0, 0, 4210), (319, 2, 85, 0, 0, 4219), (322, 2, 131, 0, 0, 4220), (325, 2, 84, 0, 0, 5130), (329, 1, 8, 2, 0, 2082), (333, 2, 164, 0, 0, 5131), (339, 1, 9, 0, 0, 1232), (342, 1, 1, 8, 0, 1076), (345, 2, 166, 0, 0, 5143), (348, 2, 168, 0, 0, 5152), (351, 2, 171, 0, 0, 5164), (355, 2, 82, 0, 0, 4006), (358, 2, 86, 0, 0, 4022), (362, 2, 76, 0, 0, 5172), (365, 2, 173, 0, 0, 5173), (369, 1, 1, 5, 0, 1072), (372, 2, 175, 0, 0, 5185), (375, 2, 177, 0, 0, 5193), (378, 2, 179, 0, 0, 5201), (381, 2, 187, 0, 0, 5234), (384, 2, 189, 0, 0, 6007), (387, 2, 78, 0, 0, 6012), (392, 1, 7, 1, 0, 2061), (395, 2, 191, 0, 0, 6013), (399, 2, 193, 0, 0, 6022), (402, 2, 194, 0, 0, 6026), (406, 2, 198, 0, 0, 6049), (409, 2, 200, 0, 0, 6057), (412, 2, 202, 0, 0, 6065), (416, 1, 7, 0, 0, 2059), (419, 2, 204, 0, 0, 6074), (422, 1, 7, 2, 0, 2063), (426, 9, 0, 0, 0, 6078), (432, 2, 206, 0, 0, 6083), (435, 2, 214, 0, 0, 6121), (438, 2, 215, 0, 0, 6125), (441, 2, 216, 0, 0, 6129), (444, 2, 217, 0, 0, 6133), (447, 1, 10, 10, 0, 2023), (450, 1, 10, 11, 0, 2025), (453, 6, 0, 0, -99999, 2186), (454, 2, 27, 0, 0, 2238), (457, 2, 69, 0, 0, 3187), (461, 2, 37, 0, 0, 3050)]
  | 12 => [(1, 8, 0, 0, 0, 6142), (7, 0, 12, 0, 0, 6143), (13, 0, 12, 1, 0, 6144), (16, 0, 12, 4, 0, 6147), (19, 0, 12, 5, 0, 6148), (23, 0, 12, 7, 0, 6150), (27, 0, 12, 8, 0, 6151), (30, 0, 12, 9, 0, 6152), (33, 0, 12, 10, 0, 6153), (36, 0, 12, 11, 0, 6154), (39, 0, 12, 18, 0, 6161), (42, 0, 12, 19, 0, 6162), (45, 0, 12, 20, 0, 6163), (49, 0, 12, 21, 0, 6164), (52, 0, 12, 22, 0, 6165), (55, 0, 12, 23, 0, 6166), (58, 0, 12, 24, 0, 6167), (61, 0, 12, 25, 0, 6168), (64, 0, 12, 3, 0, 6146), (68, 2, 220, 0, 0, 6228), (72, 2, 226, 0, 0, 7013), (76, 6, 0, 0, -100001, 6231), (77, 2, 221, 0, 0, 6232), (81, 6, 0, 0, -100005, 7000), (82, 2, 223, 0, 0, 7001), (86, 2, 225, 0, 0, 7009), (90, 6, 0, 0, -100004, 7017), (91, 2, 229, 0, 0, 7026), (95, 2, 232, 0, 0, 7038), (98, 2, 228, 0, 0, 7022), (101, 2, 233, 0, 0, 7042), (105, 2, 236, 0, 0, 7054), (108, 2, 237, 0, 0, 7058), (111, 2, 239, 0, 0, 7065), (114, 6, 0, 0, -100006, 7069), (115, 2, 240, 0, 0, 7070), (118, 6, 0, 0, -100003, 7078), (119, 6, 0, 0, -100008, 7079), (120, 6, 0, 0, -100002, 7080), (121, 2, 231, 0, 0, 7034), (124, 2, 230, 0, 0, 7030), (127, 2, 244, 0, 0, 7089), (130, 6, 0, 0, -100007, 7093), (131, 2, 248, 0, 0, 7106), (134, 2, 247, 0, 0, 7102), (137, 2, 235, 0, 0, 7050), (140, 2, 234, 0, 0, 7046), (143, 2, 250, 0, 0, 7114), (146, 2, 253, 0, 0, 7126), (149, 2, 254, 0, 0, 7130), (153, 2, 255, 0, 0, 7134), (156, 2, 261, 0, 0, 7158), (159, 2, 260, 0, 0, 7154), (162, 2, 264, 0, 0, 7169), (166, 2, 258, 0, 0, 7146), (169, 2, 257, 0, 0, 7142), (172, 2, 259, 0, 0, 7150), (175, 2, 263, 0, 0, 7166), (178, 2, 266, 0, 0, 7177), (181, 2, 273, 0, 0, 7205), (184, 2, 275, 0, 0, 7213), (188, 2, 278, 0, 0, 7225), (191, 2, 280, 0, 0, 7233), (194, 2, 271, 0, 0, 7197), (197, 2, 272, 0, 0, 7201), (200, 2, 274, 0, 0, 7209), (203, 2, 276, 0, 0, 7217), (206, 2, 277, 0, 0, 7221), (209, 2, 279, 0, 0, 7229), (212, 2, 270, 0, 0, 7193), (215, 2, 282, 0, 0, 8001), (218, 2, 284, 0, 0, 8008), (221, 2, 285, 0, 0, 8012), (224, 0, 12, 6, 0, 6149), (227, 0, 12, 13, 0, 6156), (230, 0, 12, 12, 0, 6155), (233, 2, 290, 0, 0, 8032), (236, 0, 12, 14, 0, 6157), (239, 2, 291, 0, 0, 8036), (242, 2, 292, 0, 0, 8039), (245, 2, 293, 0, 0, 8043), (248, 0, 12, 15, 0, 6158), (251, 2, 294, 0, 0, 8046), (254, 0, 12, 16, 0, 6159), (257, 0, 12, 17, 0, 6160), (260, 2, 299, 0, 0, 8065), (263, 2, 297, 0, 0, 8057), (266, 2, 289, 0, 0, 8028), (269, 2, 296, 0, 0, 8053), (272, 2, 298, 0, 0, 8061), (275, 2, 300, 0, 0, 8068), (279, 2, 295, 0, 0, 8049), (282, 2, 288, 0, 0, 8024), (285, 2, 309, 0, 0, 8104), (288, 2, 303, 0, 0, 8080), (291, 2, 306, 0, 0, 8092), (294, 2, 307, 0, 0, 8096), (297, 2, 308, 0, 0, 8100), (300, 2, 305, 0, 0, 8088), (304, 6, 0, 0, -100009, 8107), (305, 2, 314, 0, 0, 8124), (308, 2, 315, 0, 0, 8127), (311, 2, 317, 0, 0, 8135), (314, 2, 320, 0, 0, 8147), (317, 2, 321, 0, 0, 8151), (320, 2, 322, 0, 0, 8154), (323, 0, 12, 2, 0, 6145)]
  | 13 => [(7, 4, 11, 1023, 1001, 1022), (9, 2, 0, 0, 0, 1024), (10, 4, 12, 6138, 1013, 6137), (12, 2, 218, 0, 0, 6139), (13, 2, 12, 0, 0, 2171), (17, 2, 219, 0, 0, 6224), (18, 2, 17, 0, 0, 2192), (22, 2, 222, 0, 0, 6236), (23, 2, 22, 0, 0, 2213), (27, 2, 224, 0, 0, 7005), (28, 2, 25, 0, 0, 2230), (31, 2, 227, 0, 0, 7018), (32, 2, 38, 0, 0, 3054), (36, 2, 238, 0, 0, 7061), (37, 2, 42, 0, 0, 3071), (41, 2, 241, 0, 0, 7074), (42, 2, 45, 0, 0, 3087), (45, 2, 242, 0, 0, 7081), (46, 2, 49, 0, 0, 3104), (49, 2, 243, 0, 0, 7085), (50, 2, 51, 0, 0, 3114), (53, 2, 245, 0, 0, 7094), (54, 2, 52, 0, 0, 3118), (57, 2, 246, 0, 0, 7098), (58, 2, 56, 0, 0, 3134), (62, 2, 252, 0, 0, 7122), (63, 2, 65, 0, 0, 3171), (67, 2, 304, 0, 0, 8084), (68, 2, 93, 0, 0, 4052), (71, 2, 256, 0, 0, 7138), (72, 2, 94, 0, 0, 4058), (75, 2, 262, 0, 0, 7162), (76, 2, 96, 0, 0, 4066), (80, 2, 249, 0, 0, 7110), (81, 2, 97, 0, 0, 4070), (84, 2, 251, 0, 0, 7118), (85, 2, 98, 0, 0, 4074), (88, 2, 265, 0, 0, 7173), (89, 2, 102, 0, 0, 4091), (92, 2, 269, 0, 0, 7189), (93, 2, 121, 0, 0, 4176), (96, 2, 281, 0, 0, 7237), (97, 2, 125, 0, 0, 4192), (100, 2, 283, 0, 0, 8004), (101, 7, 0, 0, 4294967295, 8186), (103, 2, 127, 0, 0, 4202), (107, 2, 286, 0, 0, 8016), (108, 2, 130, 0, 0, 4215), (111, 2, 287, 0, 0, 8020), (112, 2, 165, 0, 0, 5139), (115, 2, 301, 0, 0, 8072), (116, 2, 167, 0, 0, 5148), (119, 2, 302, 0, 0, 8076), (120, 2, 169, 0, 0, 5156), (123, 2, 310, 0, 0, 8108), (124, 2, 170, 0, 0, 5160), (127, 2, 311, 0, 0, 8112), (128, 2, 172, 0, 0, 5168), (131, 2, 312, 0, 0, 8116), (132, 2, 174, 0, 0, 5181), (135, 2, 267, 0, 0, 7181), (136, 2, 176, 0, 0, 5189), (139, 2, 268, 0, 0, 7185), (140, 2, 178, 0, 0, 5197), (143, 2, 313, 0, 0, 8120), (144, 2, 186, 0, 0, 5230), (148, 2, 316, 0, 0, 8131), (149, 2, 190, 0, 0, 6008), (152, 2, 318, 0, 0, 8139), (153, 2, 192, 0, 0, 6018), (156, 2, 319, 0, 0, 8143), (157, 2, 197, 0, 0, 6045), (160, 2, 323, 0, 0, 8158), (161, 2, 199, 0, 0, 6053), (164, 2, 324, 0, 0, 8162), (165, 2, 201, 0, 0, 6061), (168, 2, 325, 0, 0, 8166), (169, 2, 203, 0, 0, 6070), (172, 2, 326, 0, 0, 8170), (173, 2, 205, 0, 0, 6079), (176, 2, 327, 0, 0, 8174), (177, 2, 212, 0, 0, 6113), (180, 2, 328, 0, 0, 8178), (181, 2, 213, 0, 0, 6117), (184, 2, 329, 0, 0, 8182)]
  | 14 => [(264, 6, 0, 0, 65536, 3053), (265, 6, 0, 0, 1431655765, 3229), (266, 6, 0, 0, 858993459, 3230), (267, 6, 0, 0, 252645135, 3231)]
  | 15 => [(38, 10, 2, 0, 0, 5035), (335, 2, 140, 0, 0, 5031), (492, 2, 142, 0, 0, 5041), (495, 2, 143, 0, 0, 5045), (498, 2, 146, 0, 0, 5056), (1053, 10, 3, 0, 0, 5051), (1059, 2, 145, 0, 0, 5053)]
  | 16 => [(9, 2, 144, 0, 0, 5048)]
  | 17 => []
  | 18 => [(44, 10, 4, 0, 0, 5069), (48, 2, 148, 0, 0, 5062), (59, 10, 5, 0, 0, 5071), (63, 10, 6, 0, 0, 5073), (67, 2, 147, 0, 0, 5059), (71, 2, 149, 0, 0, 5066), (414, 2, 144, 0, 0, 5065)]
  | 19 => [(314, 7, 0, 0, 6148914691236517205, 6042), (316, 7, 0, 0, 3689348814741910323, 6043), (318, 7, 0, 0, 1085102592571150095, 6044)]
  | _ => []
def mm_tab (t : Nat) : List Cond := match t with
  | 0 => k2_sels lw_privs
  | 1 => tables_1_1
  | 2 => tables_1_2
  | 3 => tables_1_3
  | 4 => tables_1_4
  | 5 => tables_1_5
  | 6 => tables_1_6
  | 7 => tables_1_7
  | 8 => tables_1_8
  | _ => []
def mm_sts : List (String × String × String) := [("RaftTown", "KIND_ABOVE", "[I"), ("RaftTown", "AREA", "[I"), ("java/lang/String", "COMPACT_STRINGS", "Z"), ("jdk/internal/util/Preconditions", "SIOOBE_FORMATTER", "Ljava/util/function/BiFunction;"), ("java/lang/StringUTF16", "$assertionsDisabled", "Z"), ("java/lang/StringUTF16", "HI_BYTE_SHIFT", "I"), ("java/lang/StringUTF16", "LO_BYTE_SHIFT", "I"), ("RaftTown", "BESIDE_X", "[I"), ("RaftTown", "BESIDE_Y", "[I")]
end
section
/-! ===== printed by wip/gen_pure.py: steps that touch no cell ===== -/
def mm_lget (lv : List (Nat × Value)) (i : Nat) : Option Value := (lv.find? (fun q => q.1 == i)).map (fun q => q.2)
def mm_l1 (lv : List (Nat × Value)) (i : Nat) (v : Value) : List (Nat × Value) := (i, v) :: lv.filter (fun q => !(q.1 == i) && !(q.1 + 1 == i && q.2.category == 2))
def mm_l2 (lv : List (Nat × Value)) (i : Nat) (v : Value) : List (Nat × Value) := (i, v) :: lv.filter (fun q => !(q.1 == i) && (!(q.1 == i + 1) && !(q.1 + 1 == i && q.2.category == 2)))
abbrev mm_F : Type := Nat × List (Nat × Value) × List Value
def mm_tgt (pc : Nat) (off : Int) : Option Nat := if 0 ≤ (pc : Int) + off then some ((pc : Int) + off).toNat else none
theorem mm_tgt_ok {pc tgt : Nat} {off : Int} (h : mm_tgt pc off = some tgt) : (pc : Int) + off = (tgt : Int) := by
  unfold mm_tgt at h
  split at h
  · next h0 => cases h; exact (Int.toNat_of_nonneg h0).symm
  · cases h
theorem mm_lget_has {φ : Nat → Nat} {ls : Array Slot} {nL : Nat} {lv : List (Nat × Value)} (h : lv_has ls nL (mm_sl φ lv)) {i : Nat} {v : Value} (hv : mm_lget lv i = some v) : ls[i]? = some (.val (mm_sh φ v)) := by
  unfold mm_lget at hv
  cases hf : lv.find? (fun q => q.1 == i) with
  | none => rw [hf] at hv; cases hv
  | some q =>
    rw [hf] at hv
    cases hv
    have h1 := List.mem_of_find?_eq_some hf
    have h2 := List.find?_some hf
    simp at h2
    have := h.2.2 (q.1, mm_sh φ q.2) (List.mem_map.mpr ⟨q, h1, rfl⟩)
    rw [← h2]
    exact this
theorem mm_lget_at {φ : Nat → Nat} {lv : List (Nat × Value)} {i : Nat} {v : Value} (hv : mm_lget lv i = some v) : ∃ k : Nat, (mm_sl φ lv)[k]? = some (i, mm_sh φ v) := by
  unfold mm_lget at hv
  cases hf : lv.find? (fun q => q.1 == i) with
  | none => rw [hf] at hv; cases hv
  | some q =>
    rw [hf] at hv
    cases hv
    have h1 := List.mem_of_find?_eq_some hf
    have h2 := List.find?_some hf
    simp at h2
    obtain ⟨k, hk⟩ := List.getElem?_of_mem (List.mem_map.mpr ⟨q, h1, rfl⟩ : (q.1, mm_sh φ q.2) ∈ mm_sl φ lv)
    exact ⟨k, by rw [← h2]; exact hk⟩
theorem mm_l1_sl (φ : Nat → Nat) (lv : List (Nat × Value)) (i : Nat) (v : Value) : (i, mm_sh φ v) :: (mm_sl φ lv).filter (fun q => !(q.1 == i) && !(q.1 + 1 == i && q.2.category == 2)) = mm_sl φ (mm_l1 lv i v) := by
  simp only [mm_sl, mm_l1, List.map_cons, List.filter_map]
  congr 2
  apply List.filter_congr
  intro q _
  simp [Function.comp, mm_sh_cat]
theorem mm_l2_sl (φ : Nat → Nat) (lv : List (Nat × Value)) (i : Nat) (v : Value) : (i, mm_sh φ v) :: (mm_sl φ lv).filter (fun q => !(q.1 == i) && (!(q.1 == i + 1) && !(q.1 + 1 == i && q.2.category == 2))) = mm_sl φ (mm_l2 lv i v) := by
  simp only [mm_sl, mm_l2, List.map_cons, List.filter_map]
  congr 2
  apply List.filter_congr
  intro q _
  simp [Function.comp, mm_sh_cat]
def mm_push (k len : Nat) (pc : Nat) (lv : List (Nat × Value)) (st : List Value) (v : Value) : Option mm_F := if len = k then some (pc + k, lv, v :: st) else none
theorem mm_push_inv {k len pc : Nat} {lv : List (Nat × Value)} {st : List Value} {v : Value} {f : mm_F} (h : mm_push k len pc lv st v = some f) : len = k ∧ f = (pc + k, lv, v :: st) := by
  unfold mm_push at h
  split at h
  · next e => cases h; exact ⟨e, rfl⟩
  · cases h
def mm_bii (g : Int32 → Int32 → Int32) (len pc : Nat) (lv : List (Nat × Value)) (st : List Value) : Option mm_F := match len, st with
  | 1, .int y :: .int x :: r => some (pc + 1, lv, .int (g x y) :: r)
  | _, _ => none
theorem mm_bii_inv {g : Int32 → Int32 → Int32} {len pc : Nat} {lv : List (Nat × Value)} {st : List Value} {f : mm_F} (h : mm_bii g len pc lv st = some f) : len = 1 ∧ ∃ x y r, st = .int y :: .int x :: r ∧ f = (pc + 1, lv, .int (g x y) :: r) := by
  unfold mm_bii at h
  split at h
  · cases h; exact ⟨rfl, _, _, _, rfl, rfl⟩
  · cases h
def mm_bll (g : Int64 → Int64 → Int64) (len pc : Nat) (lv : List (Nat × Value)) (st : List Value) : Option mm_F := match len, st with
  | 1, .long y :: .long x :: r => some (pc + 1, lv, .long (g x y) :: r)
  | _, _ => none
theorem mm_bll_inv {g : Int64 → Int64 → Int64} {len pc : Nat} {lv : List (Nat × Value)} {st : List Value} {f : mm_F} (h : mm_bll g len pc lv st = some f) : len = 1 ∧ ∃ x y r, st = .long y :: .long x :: r ∧ f = (pc + 1, lv, .long (g x y) :: r) := by
  unfold mm_bll at h
  split at h
  · cases h; exact ⟨rfl, _, _, _, rfl, rfl⟩
  · cases h
def mm_bli (g : Int64 → Int32 → Int64) (len pc : Nat) (lv : List (Nat × Value)) (st : List Value) : Option mm_F := match len, st with
  | 1, .int y :: .long x :: r => some (pc + 1, lv, .long (g x y) :: r)
  | _, _ => none
theorem mm_bli_inv {g : Int64 → Int32 → Int64} {len pc : Nat} {lv : List (Nat × Value)} {st : List Value} {f : mm_F} (h : mm_bli g len pc lv st = some f) : len = 1 ∧ ∃ x y r, st = .int y :: .long x :: r ∧ f = (pc + 1, lv, .long (g x y) :: r) := by
  unfold mm_bli at h
  split at h
  · cases h; exact ⟨rfl, _, _, _, rfl, rfl⟩
  · cases h
def mm_ui_i (g : Int32 → Int32) (len pc : Nat) (lv : List (Nat × Value)) (st : List Value) : Option mm_F := match len, st with
  | 1, .int x :: r => some (pc + 1, lv, .int (g x) :: r)
  | _, _ => none
theorem mm_ui_i_inv {g : Int32 → Int32} {len pc : Nat} {lv : List (Nat × Value)} {st : List Value} {f : mm_F} (h : mm_ui_i g len pc lv st = some f) : len = 1 ∧ ∃ x r, st = .int x :: r ∧ f = (pc + 1, lv, .int (g x) :: r) := by
  unfold mm_ui_i at h
  split at h
  · cases h; exact ⟨rfl, _, _, rfl, rfl⟩
  · cases h
def mm_ui_l (g : Int32 → Int64) (len pc : Nat) (lv : List (Nat × Value)) (st : List Value) : Option mm_F := match len, st with
  | 1, .int x :: r => some (pc + 1, lv, .long (g x) :: r)
  | _, _ => none
theorem mm_ui_l_inv {g : Int32 → Int64} {len pc : Nat} {lv : List (Nat × Value)} {st : List Value} {f : mm_F} (h : mm_ui_l g len pc lv st = some f) : len = 1 ∧ ∃ x r, st = .int x :: r ∧ f = (pc + 1, lv, .long (g x) :: r) := by
  unfold mm_ui_l at h
  split at h
  · cases h; exact ⟨rfl, _, _, rfl, rfl⟩
  · cases h
def mm_ul_i (g : Int64 → Int32) (len pc : Nat) (lv : List (Nat × Value)) (st : List Value) : Option mm_F := match len, st with
  | 1, .long x :: r => some (pc + 1, lv, .int (g x) :: r)
  | _, _ => none
theorem mm_ul_i_inv {g : Int64 → Int32} {len pc : Nat} {lv : List (Nat × Value)} {st : List Value} {f : mm_F} (h : mm_ul_i g len pc lv st = some f) : len = 1 ∧ ∃ x r, st = .long x :: r ∧ f = (pc + 1, lv, .int (g x) :: r) := by
  unfold mm_ul_i at h
  split at h
  · cases h; exact ⟨rfl, _, _, rfl, rfl⟩
  · cases h
def mm_bd (g : Int32 → Int32 → Int32) (len pc : Nat) (lv : List (Nat × Value)) (st : List Value) : Option mm_F := match len, st with
  | 1, .int y :: .int x :: r => if y = 0 then none else some (pc + 1, lv, .int (g x y) :: r)
  | _, _ => none
theorem mm_bd_inv {g : Int32 → Int32 → Int32} {len pc : Nat} {lv : List (Nat × Value)} {st : List Value} {f : mm_F} (h : mm_bd g len pc lv st = some f) : len = 1 ∧ ∃ x y r, st = .int y :: .int x :: r ∧ ¬ y = 0 ∧ f = (pc + 1, lv, .int (g x y) :: r) := by
  unfold mm_bd at h
  split at h
  · split at h
    · cases h
    · next e => cases h; exact ⟨rfl, _, _, _, rfl, e, rfl⟩
  · cases h
def mm_lcmp (len pc : Nat) (lv : List (Nat × Value)) (st : List Value) : Option mm_F := match len, st with
  | 1, .long y :: .long x :: r => some (pc + 1, lv, .int (lg_cmp x y) :: r)
  | _, _ => none
theorem mm_lcmp_inv {len pc : Nat} {lv : List (Nat × Value)} {st : List Value} {f : mm_F} (h : mm_lcmp len pc lv st = some f) : len = 1 ∧ ∃ x y r, st = .long y :: .long x :: r ∧ f = (pc + 1, lv, .int (lg_cmp x y) :: r) := by
  unfold mm_lcmp at h
  split at h
  · cases h; exact ⟨rfl, _, _, _, rfl, rfl⟩
  · cases h
def mm_ldi (k i len pc : Nat) (lv : List (Nat × Value)) (st : List Value) : Option mm_F := match mm_lget lv i with
  | some (.int x) => if len = k then some (pc + k, lv, .int x :: st) else none
  | _ => none
theorem mm_ldi_inv {k i len pc : Nat} {lv : List (Nat × Value)} {st : List Value} {f : mm_F} (h : mm_ldi k i len pc lv st = some f) : len = k ∧ ∃ x, mm_lget lv i = some (.int x) ∧ f = (pc + k, lv, .int x :: st) := by
  unfold mm_ldi at h
  split at h
  · next e =>
    split at h
    · next e2 => cases h; exact ⟨e2, _, e, rfl⟩
    · cases h
  · cases h
def mm_ldl (k i len pc : Nat) (lv : List (Nat × Value)) (st : List Value) : Option mm_F := match mm_lget lv i with
  | some (.long x) => if len = k then some (pc + k, lv, .long x :: st) else none
  | _ => none
theorem mm_ldl_inv {k i len pc : Nat} {lv : List (Nat × Value)} {st : List Value} {f : mm_F} (h : mm_ldl k i len pc lv st = some f) : len = k ∧ ∃ x, mm_lget lv i = some (.long x) ∧ f = (pc + k, lv, .long x :: st) := by
  unfold mm_ldl at h
  split at h
  · next e =>
    split at h
    · next e2 => cases h; exact ⟨e2, _, e, rfl⟩
    · cases h
  · cases h
def mm_lda (k i len pc : Nat) (lv : List (Nat × Value)) (st : List Value) : Option mm_F := match mm_lget lv i with
  | some (.ref x) => if len = k then some (pc + k, lv, .ref x :: st) else none
  | _ => none
theorem mm_lda_inv {k i len pc : Nat} {lv : List (Nat × Value)} {st : List Value} {f : mm_F} (h : mm_lda k i len pc lv st = some f) : len = k ∧ ∃ x, mm_lget lv i = some (.ref x) ∧ f = (pc + k, lv, .ref x :: st) := by
  unfold mm_lda at h
  split at h
  · next e =>
    split at h
    · next e2 => cases h; exact ⟨e2, _, e, rfl⟩
    · cases h
  · cases h
def mm_sti (k i nL len pc : Nat) (lv : List (Nat × Value)) (st : List Value) : Option mm_F := match st with
  | .int x :: r => if len = k ∧ i < nL then some (pc + k, mm_l1 lv i (.int x), r) else none
  | _ => none
theorem mm_sti_inv {k i nL len pc : Nat} {lv : List (Nat × Value)} {st : List Value} {f : mm_F} (h : mm_sti k i nL len pc lv st = some f) : len = k ∧ i < nL ∧ ∃ x r, st = .int x :: r ∧ f = (pc + k, mm_l1 lv i (.int x), r) := by
  unfold mm_sti at h
  split at h
  · split at h
    · next e2 => cases h; exact ⟨e2.1, e2.2, _, _, rfl, rfl⟩
    · cases h
  · cases h
def mm_stl (k i nL len pc : Nat) (lv : List (Nat × Value)) (st : List Value) : Option mm_F := match st with
  | .long x :: r => if len = k ∧ i + 1 < nL then some (pc + k, mm_l2 lv i (.long x), r) else none
  | _ => none
theorem mm_stl_inv {k i nL len pc : Nat} {lv : List (Nat × Value)} {st : List Value} {f : mm_F} (h : mm_stl k i nL len pc lv st = some f) : len = k ∧ i + 1 < nL ∧ ∃ x r, st = .long x :: r ∧ f = (pc + k, mm_l2 lv i (.long x), r) := by
  unfold mm_stl at h
  split at h
  · split at h
    · next e2 => cases h; exact ⟨e2.1, e2.2, _, _, rfl, rfl⟩
    · cases h
  · cases h
def mm_sta (k i nL len pc : Nat) (lv : List (Nat × Value)) (st : List Value) : Option mm_F := match st with
  | .ref x :: r => if len = k ∧ i < nL then some (pc + k, mm_l1 lv i (.ref x), r) else none
  | _ => none
theorem mm_sta_inv {k i nL len pc : Nat} {lv : List (Nat × Value)} {st : List Value} {f : mm_F} (h : mm_sta k i nL len pc lv st = some f) : len = k ∧ i < nL ∧ ∃ x r, st = .ref x :: r ∧ f = (pc + k, mm_l1 lv i (.ref x), r) := by
  unfold mm_sta at h
  split at h
  · split at h
    · next e2 => cases h; exact ⟨e2.1, e2.2, _, _, rfl, rfl⟩
    · cases h
  · cases h
def mm_inc (i nL : Nat) (n : Int) (len pc : Nat) (lv : List (Nat × Value)) (st : List Value) : Option mm_F := match mm_lget lv i with
  | some (.int x) => if len = 3 ∧ i < nL then some (pc + 3, mm_l1 lv i (.int (x + Int32.ofInt n)), st) else none
  | _ => none
theorem mm_inc_inv {i nL : Nat} {n : Int} {len pc : Nat} {lv : List (Nat × Value)} {st : List Value} {f : mm_F} (h : mm_inc i nL n len pc lv st = some f) : len = 3 ∧ i < nL ∧ ∃ x, mm_lget lv i = some (.int x) ∧ f = (pc + 3, mm_l1 lv i (.int (x + Int32.ofInt n)), st) := by
  unfold mm_inc at h
  split at h
  · next e =>
    split at h
    · next e2 => cases h; exact ⟨e2.1, e2.2, _, e, rfl⟩
    · cases h
  · cases h
def mm_if1 (P : Int32 → Bool) (off : Int) (len pc : Nat) (lv : List (Nat × Value)) (st : List Value) : Option mm_F := match mm_tgt pc off, st with
  | some tgt, .int x :: r => if len = 3 then some (if P x then tgt else pc + 3, lv, r) else none
  | _, _ => none
theorem mm_if1_inv {P : Int32 → Bool} {off : Int} {len pc : Nat} {lv : List (Nat × Value)} {st : List Value} {f : mm_F} (h : mm_if1 P off len pc lv st = some f) : len = 3 ∧ ∃ tgt x r, mm_tgt pc off = some tgt ∧ st = .int x :: r ∧ f = (if P x then tgt else pc + 3, lv, r) := by
  unfold mm_if1 at h
  split at h
  · next e =>
    split at h
    · next e2 => cases h; exact ⟨e2, _, _, _, e, rfl, rfl⟩
    · cases h
  · cases h
def mm_if2 (P : Int32 → Int32 → Bool) (off : Int) (len pc : Nat) (lv : List (Nat × Value)) (st : List Value) : Option mm_F := match mm_tgt pc off, st with
  | some tgt, .int y :: .int x :: r => if len = 3 then some (if P x y then tgt else pc + 3, lv, r) else none
  | _, _ => none
theorem mm_if2_inv {P : Int32 → Int32 → Bool} {off : Int} {len pc : Nat} {lv : List (Nat × Value)} {st : List Value} {f : mm_F} (h : mm_if2 P off len pc lv st = some f) : len = 3 ∧ ∃ tgt x y r, mm_tgt pc off = some tgt ∧ st = .int y :: .int x :: r ∧ f = (if P x y then tgt else pc + 3, lv, r) := by
  unfold mm_if2 at h
  split at h
  · next e =>
    split at h
    · next e2 => cases h; exact ⟨e2, _, _, _, _, e, rfl, rfl⟩
    · cases h
  · cases h
def mm_go (off : Int) (len pc : Nat) (lv : List (Nat × Value)) (st : List Value) : Option mm_F := match mm_tgt pc off with
  | some tgt => if len = 3 then some (tgt, lv, st) else none
  | none => none
theorem mm_go_inv {off : Int} {len pc : Nat} {lv : List (Nat × Value)} {st : List Value} {f : mm_F} (h : mm_go off len pc lv st = some f) : len = 3 ∧ ∃ tgt, mm_tgt pc off = some tgt ∧ f = (tgt, lv, st) := by
  unfold mm_go at h
  split at h
  · next e =>
    split at h
    · next e2 => cases h; exact ⟨e2, _, e, rfl⟩
    · cases h
  · cases h
def mm_sw (dflt lo hi : Int) (offs : Array Int) (pc : Nat) (lv : List (Nat × Value)) (st : List Value) : Option mm_F := match st with
  | .int x :: r => if x.toInt < lo ∨ hi < x.toInt then (mm_tgt pc dflt).map (fun t => (t, lv, r)) else match offs[(x.toInt - lo).toNat]? with
    | some off => (mm_tgt pc off).map (fun t => (t, lv, r))
    | none => none
  | _ => none
def mm_lsw (dflt : Int) (ps : Array (Int × Int)) (pc : Nat) (lv : List (Nat × Value)) (st : List Value) : Option mm_F := match st with
  | .int x :: r => if (ps.toList.zip (ps.toList.drop 1)).all (fun (a, next) => a.1 < next.1) = true then (mm_tgt pc (Op.lookupswitch.offset ps.toList dflt x.toInt)).map (fun t => (t, lv, r)) else none
  | _ => none
def mm_dup (len pc : Nat) (lv : List (Nat × Value)) (st : List Value) : Option mm_F := match st with
  | a :: r => if len = 1 ∧ a.category = 1 then some (pc + 1, lv, a :: a :: r) else none
  | _ => none
def mm_pop (len pc : Nat) (lv : List (Nat × Value)) (st : List Value) : Option mm_F := match st with
  | a :: r => if len = 1 ∧ a.category = 1 then some (pc + 1, lv, r) else none
  | _ => none
def mm_dup2 (len pc : Nat) (lv : List (Nat × Value)) (st : List Value) : Option mm_F := match st with
  | a :: b :: r => if len = 1 ∧ a.category = 1 ∧ b.category = 1 then some (pc + 1, lv, a :: b :: a :: b :: r) else none
  | _ => none
def mm_P1 : Jvm.ClassFile.Cond → Int32 → Bool := fun c x => match c with
  | .eq => decide (x = 0)
  | .ne => !decide (x = 0)
  | .lt => decide (x < 0)
  | .ge => decide (0 ≤ x)
  | .gt => decide (0 < x)
  | .le => decide (x ≤ 0)
def mm_P2 : Jvm.ClassFile.Cond → Int32 → Int32 → Bool := fun c x y => match c with
  | .eq => decide (x = y)
  | .ne => !decide (x = y)
  | .lt => decide (x < y)
  | .ge => decide (y ≤ x)
  | .gt => decide (y < x)
  | .le => decide (x ≤ y)
def mm_pure (nL : Nat) (ins : Instr) (len pc : Nat) (lv : List (Nat × Value)) (st : List Value) : Option mm_F := match ins with
  | .iconst n => mm_push 1 len pc lv st (.int (Int32.ofInt n))
  | .bipush n => mm_push 2 len pc lv st (.int (Int8.ofInt n).toInt32)
  | .sipush n => mm_push 3 len pc lv st (.int (Int16.ofInt n).toInt32)
  | .lconst n => mm_push 1 len pc lv st (.long (Int64.ofNat n))
  | .iload_n n => mm_ldi 1 n.val len pc lv st
  | .iload i => mm_ldi 2 i len pc lv st
  | .istore_n n => mm_sti 1 n.val nL len pc lv st
  | .istore i => mm_sti 2 i nL len pc lv st
  | .lload_n n => mm_ldl 1 n.val len pc lv st
  | .lload i => mm_ldl 2 i len pc lv st
  | .lstore_n n => mm_stl 1 n.val nL len pc lv st
  | .lstore i => mm_stl 2 i nL len pc lv st
  | .aload_n n => mm_lda 1 n.val len pc lv st
  | .aload i => mm_lda 2 i len pc lv st
  | .astore_n n => mm_sta 1 n.val nL len pc lv st
  | .astore i => mm_sta 2 i nL len pc lv st
  | .iinc i n => mm_inc i nL n len pc lv st
  | .iadd => mm_bii (fun x y => x + y) len pc lv st
  | .isub => mm_bii (fun x y => x - y) len pc lv st
  | .imul => mm_bii (fun x y => x * y) len pc lv st
  | .iand => mm_bii (fun x y => x &&& y) len pc lv st
  | .ior => mm_bii (fun x y => x ||| y) len pc lv st
  | .ixor => mm_bii (fun x y => x ^^^ y) len pc lv st
  | .ishl => mm_bii (fun x y => x <<< (y &&& 31)) len pc lv st
  | .ishr => mm_bii (fun x y => x >>> (y &&& 31)) len pc lv st
  | .iushr => mm_bii (fun x y => (x.toUInt32 >>> (y.toUInt32 &&& Int32.toUInt32 31)).toInt32) len pc lv st
  | .ladd => mm_bll (fun x y => x + y) len pc lv st
  | .lsub => mm_bll (fun x y => x - y) len pc lv st
  | .land => mm_bll (fun x y => x &&& y) len pc lv st
  | .lor => mm_bll (fun x y => x ||| y) len pc lv st
  | .lshl => mm_bli (fun x y => x <<< (y.toInt64 &&& 63)) len pc lv st
  | .lshr => mm_bli (fun x y => x >>> (y.toInt64 &&& 63)) len pc lv st
  | .lushr => mm_bli (fun x y => (x.toUInt64 >>> (y.toInt64.toUInt64 &&& Int64.toUInt64 63)).toInt64) len pc lv st
  | .idiv => mm_bd (fun x y => x / y) len pc lv st
  | .irem => mm_bd (fun x y => x - x / y * y) len pc lv st
  | .lcmp => mm_lcmp len pc lv st
  | .ineg => mm_ui_i (fun x => -x) len pc lv st
  | .i2l => mm_ui_l (fun x => x.toInt64) len pc lv st
  | .l2i => mm_ul_i (fun x => x.toInt32) len pc lv st
  | .i2b => mm_ui_i (fun x => x.toInt8.toInt32) len pc lv st
  | .i2s => mm_ui_i (fun x => x.toInt16.toInt32) len pc lv st
  | .i2c => mm_ui_i (fun x => (x.toUInt32 % 65536).toInt32) len pc lv st
  | .goto off => mm_go off len pc lv st
  | .ifCond c off => mm_if1 (mm_P1 c) off len pc lv st
  | .if_icmp c off => mm_if2 (mm_P2 c) off len pc lv st
  | .tableswitch dflt lo hi offs => mm_sw dflt lo hi offs pc lv st
  | .lookupswitch dflt ps => mm_lsw dflt ps pc lv st
  | .dup => mm_dup len pc lv st
  | .pop => mm_pop len pc lv st
  | .dup2 => mm_dup2 len pc lv st
  | _ => none
set_option maxHeartbeats 4000000 in
set_option maxRecDepth 100000 in
theorem mm_pure_ok {p : Program} {l : Launch} {e : Env} {R : Room} {s : State} {m : MethodId} {args : Array Value} {below : List Frame} {meth : Method} {c : Code} {H : Heap} {locs : List Loc} {cells slots : Nat} {Q : State → Prop} {cc : ByteArray} {pc : Nat} {ls : Array Slot} (φ : Nat → Nat) (hx : p.tables.exec = Jvm.exec) (hb : c.code = cc) {nL len : Nat} {ins : Instr} {lv : List (Nat × Value)} {st : List Value} {f : mm_F} (hd : decode cc pc = .ok (ins, len)) (h : mm_pure nL ins len pc lv st = some f) (hl : lv_has ls nL (mm_sl φ lv))
    (kk : ∀ ls' : Array Slot, lv_has ls' nL (mm_sl φ f.2.1) → W p l e R s m args below meth c H locs cells slots Q (F0 m f.1 ls' (f.2.2.map (mm_sh φ)))) : W p l e R s m args below meth c H locs cells slots Q (F0 m pc ls (st.map (mm_sh φ))) := by
  cases ins with
  | iconst n =>
    replace h : mm_push 1 len pc lv st (.int (Int32.ofInt n)) = some f := h
    obtain ⟨rfl, rfl⟩ := mm_push_inv h; exact lv_iconst hx hb hd rfl (kk _ hl)
  | bipush n =>
    replace h : mm_push 2 len pc lv st (.int (Int8.ofInt n).toInt32) = some f := h
    obtain ⟨rfl, rfl⟩ := mm_push_inv h; exact lv_bipush hx hb hd rfl (kk _ hl)
  | sipush n =>
    replace h : mm_push 3 len pc lv st (.int (Int16.ofInt n).toInt32) = some f := h
    obtain ⟨rfl, rfl⟩ := mm_push_inv h; exact lv_sipush hx hb hd rfl (kk _ hl)
  | lconst n =>
    replace h : mm_push 1 len pc lv st (.long (Int64.ofNat n)) = some f := h
    obtain ⟨rfl, rfl⟩ := mm_push_inv h; exact lv_lconst hx hb hd rfl (kk _ hl)
  | iload_n n =>
    replace h : mm_ldi 1 n.val len pc lv st = some f := h
    obtain ⟨rfl, x, h1, rfl⟩ := mm_ldi_inv h; exact lv_iload_n hx hb hd rfl (mm_lget_has hl h1) (kk _ hl)
  | iload i =>
    replace h : mm_ldi 2 i len pc lv st = some f := h
    obtain ⟨rfl, x, h1, rfl⟩ := mm_ldi_inv h; exact lv_iload hx hb hd (mm_lget_has hl h1) (kk _ hl)
  | istore_n n =>
    replace h : mm_sti 1 n.val nL len pc lv st = some f := h
    obtain ⟨rfl, hn, x, r, rfl, rfl⟩ := mm_sti_inv h; exact lv_istore_n hx hb hd rfl hl hn (mm_l1_sl φ lv n.val (.int x)) kk
  | istore i =>
    replace h : mm_sti 2 i nL len pc lv st = some f := h
    obtain ⟨rfl, hn, x, r, rfl, rfl⟩ := mm_sti_inv h; exact lv_istore hx hb hd hl hn (mm_l1_sl φ lv i (.int x)) kk
  | lload_n n =>
    replace h : mm_ldl 1 n.val len pc lv st = some f := h
    obtain ⟨rfl, x, h1, rfl⟩ := mm_ldl_inv h; exact lv_lload_n hx hb hd rfl (mm_lget_has hl h1) (kk _ hl)
  | lload i =>
    replace h : mm_ldl 2 i len pc lv st = some f := h
    obtain ⟨rfl, x, h1, rfl⟩ := mm_ldl_inv h; exact lv_lload hx hb hd (mm_lget_has hl h1) (kk _ hl)
  | lstore_n n =>
    replace h : mm_stl 1 n.val nL len pc lv st = some f := h
    obtain ⟨rfl, hn, x, r, rfl, rfl⟩ := mm_stl_inv h; exact lv_lstore_n hx hb hd rfl hl hn (mm_l2_sl φ lv n.val (.long x)) kk
  | lstore i =>
    replace h : mm_stl 2 i nL len pc lv st = some f := h
    obtain ⟨rfl, hn, x, r, rfl, rfl⟩ := mm_stl_inv h; exact lv_lstore hx hb hd hl hn (mm_l2_sl φ lv i (.long x)) kk
  | aload_n n =>
    replace h : mm_lda 1 n.val len pc lv st = some f := h
    obtain ⟨rfl, x, h1, rfl⟩ := mm_lda_inv h; exact lv_aload_n hx hb hd rfl (mm_lget_has hl h1) (kk _ hl)
  | aload i =>
    replace h : mm_lda 2 i len pc lv st = some f := h
    obtain ⟨rfl, x, h1, rfl⟩ := mm_lda_inv h; exact lv_aload hx hb hd (mm_lget_has hl h1) (kk _ hl)
  | astore_n n =>
    replace h : mm_sta 1 n.val nL len pc lv st = some f := h
    obtain ⟨rfl, hn, x, r, rfl, rfl⟩ := mm_sta_inv h; exact lv_astore_n hx hb hd rfl hl hn (mm_l1_sl φ lv n.val (.ref x)) kk
  | astore i =>
    replace h : mm_sta 2 i nL len pc lv st = some f := h
    obtain ⟨rfl, hn, x, r, rfl, rfl⟩ := mm_sta_inv h; exact lv_astore hx hb hd hl hn (mm_l1_sl φ lv i (.ref x)) kk
  | iinc i n =>
    replace h : mm_inc i nL n len pc lv st = some f := h
    obtain ⟨rfl, hn, x, h1, rfl⟩ := mm_inc_inv h; obtain ⟨k, hk⟩ := mm_lget_at (φ := φ) h1; exact lv_iinc hx hb hd hl hk rfl hn (mm_l1_sl φ lv i (.int (x + Int32.ofInt n))) kk
  | iadd =>
    replace h : mm_bii (fun x y => x + y) len pc lv st = some f := h
    obtain ⟨rfl, x, y, r, rfl, rfl⟩ := mm_bii_inv h; exact lv_iadd hx hb hd (kk _ hl)
  | isub =>
    replace h : mm_bii (fun x y => x - y) len pc lv st = some f := h
    obtain ⟨rfl, x, y, r, rfl, rfl⟩ := mm_bii_inv h; exact lv_isub hx hb hd (kk _ hl)
  | imul =>
    replace h : mm_bii (fun x y => x * y) len pc lv st = some f := h
    obtain ⟨rfl, x, y, r, rfl, rfl⟩ := mm_bii_inv h; exact lv_imul hx hb hd (kk _ hl)
  | iand =>
    replace h : mm_bii (fun x y => x &&& y) len pc lv st = some f := h
    obtain ⟨rfl, x, y, r, rfl, rfl⟩ := mm_bii_inv h; exact lv_iand hx hb hd (kk _ hl)
  | ior =>
    replace h : mm_bii (fun x y => x ||| y) len pc lv st = some f := h
    obtain ⟨rfl, x, y, r, rfl, rfl⟩ := mm_bii_inv h; exact lv_ior hx hb hd (kk _ hl)
  | ixor =>
    replace h : mm_bii (fun x y => x ^^^ y) len pc lv st = some f := h
    obtain ⟨rfl, x, y, r, rfl, rfl⟩ := mm_bii_inv h; exact lv_ixor hx hb hd (kk _ hl)
  | ishl =>
    replace h : mm_bii (fun x y => x <<< (y &&& 31)) len pc lv st = some f := h
    obtain ⟨rfl, x, y, r, rfl, rfl⟩ := mm_bii_inv h; exact lv_ishl hx hb hd (kk _ hl)
  | ishr =>
    replace h : mm_bii (fun x y => x >>> (y &&& 31)) len pc lv st = some f := h
    obtain ⟨rfl, x, y, r, rfl, rfl⟩ := mm_bii_inv h; exact lv_ishr hx hb hd (kk _ hl)
  | iushr =>
    replace h : mm_bii (fun x y => (x.toUInt32 >>> (y.toUInt32 &&& Int32.toUInt32 31)).toInt32) len pc lv st = some f := h
    obtain ⟨rfl, x, y, r, rfl, rfl⟩ := mm_bii_inv h; exact lv_iushr hx hb hd rfl (kk _ hl)
  | ladd =>
    replace h : mm_bll (fun x y => x + y) len pc lv st = some f := h
    obtain ⟨rfl, x, y, r, rfl, rfl⟩ := mm_bll_inv h; exact lv_ladd hx hb hd (kk _ hl)
  | lsub =>
    replace h : mm_bll (fun x y => x - y) len pc lv st = some f := h
    obtain ⟨rfl, x, y, r, rfl, rfl⟩ := mm_bll_inv h; exact lv_lsub hx hb hd (kk _ hl)
  | land =>
    replace h : mm_bll (fun x y => x &&& y) len pc lv st = some f := h
    obtain ⟨rfl, x, y, r, rfl, rfl⟩ := mm_bll_inv h; exact lv_land hx hb hd (kk _ hl)
  | lor =>
    replace h : mm_bll (fun x y => x ||| y) len pc lv st = some f := h
    obtain ⟨rfl, x, y, r, rfl, rfl⟩ := mm_bll_inv h; exact lv_lor hx hb hd (kk _ hl)
  | lshl =>
    replace h : mm_bli (fun x y => x <<< (y.toInt64 &&& 63)) len pc lv st = some f := h
    obtain ⟨rfl, x, y, r, rfl, rfl⟩ := mm_bli_inv h; exact lv_lshl hx hb hd rfl (kk _ hl)
  | lshr =>
    replace h : mm_bli (fun x y => x >>> (y.toInt64 &&& 63)) len pc lv st = some f := h
    obtain ⟨rfl, x, y, r, rfl, rfl⟩ := mm_bli_inv h; exact lv_lshr hx hb hd rfl (kk _ hl)
  | lushr =>
    replace h : mm_bli (fun x y => (x.toUInt64 >>> (y.toInt64.toUInt64 &&& Int64.toUInt64 63)).toInt64) len pc lv st = some f := h
    obtain ⟨rfl, x, y, r, rfl, rfl⟩ := mm_bli_inv h; exact lv_lushr hx hb hd rfl (kk _ hl)
  | idiv =>
    replace h : mm_bd (fun x y => x / y) len pc lv st = some f := h
    obtain ⟨rfl, x, y, r, rfl, h0, rfl⟩ := mm_bd_inv h; exact lv_idiv hx hb hd h0 (kk _ hl)
  | irem =>
    replace h : mm_bd (fun x y => x - x / y * y) len pc lv st = some f := h
    obtain ⟨rfl, x, y, r, rfl, h0, rfl⟩ := mm_bd_inv h; exact lv_irem hx hb hd h0 (kk _ hl)
  | lcmp =>
    replace h : mm_lcmp len pc lv st = some f := h
    obtain ⟨rfl, x, y, r, rfl, rfl⟩ := mm_lcmp_inv h; exact W.lcmp hx hb hd (kk _ hl)
  | ineg =>
    replace h : mm_ui_i (fun x => -x) len pc lv st = some f := h
    obtain ⟨rfl, x, r, rfl, rfl⟩ := mm_ui_i_inv h; exact lv_ineg hx hb hd (kk _ hl)
  | i2l =>
    replace h : mm_ui_l (fun x => x.toInt64) len pc lv st = some f := h
    obtain ⟨rfl, x, r, rfl, rfl⟩ := mm_ui_l_inv h; exact lv_i2l hx hb hd rfl (kk _ hl)
  | l2i =>
    replace h : mm_ul_i (fun x => x.toInt32) len pc lv st = some f := h
    obtain ⟨rfl, x, r, rfl, rfl⟩ := mm_ul_i_inv h; exact lv_l2i hx hb hd rfl (kk _ hl)
  | i2b =>
    replace h : mm_ui_i (fun x => x.toInt8.toInt32) len pc lv st = some f := h
    obtain ⟨rfl, x, r, rfl, rfl⟩ := mm_ui_i_inv h; exact lv_i2b hx hb hd rfl (kk _ hl)
  | i2s =>
    replace h : mm_ui_i (fun x => x.toInt16.toInt32) len pc lv st = some f := h
    obtain ⟨rfl, x, r, rfl, rfl⟩ := mm_ui_i_inv h; exact lv_i2s hx hb hd rfl (kk _ hl)
  | i2c =>
    replace h : mm_ui_i (fun x => (x.toUInt32 % 65536).toInt32) len pc lv st = some f := h
    obtain ⟨rfl, x, r, rfl, rfl⟩ := mm_ui_i_inv h; exact lv_i2c hx hb hd rfl (kk _ hl)
  | goto off =>
    replace h : mm_go off len pc lv st = some f := h
    obtain ⟨rfl, tgt, ht, rfl⟩ := mm_go_inv h; exact lv_goto hx hb hd (mm_tgt_ok ht) (kk _ hl)
  | ifCond cd off =>
    replace h : mm_if1 (mm_P1 cd) off len pc lv st = some f := h
    obtain ⟨rfl, tgt, x, r, ht, rfl, rfl⟩ := mm_if1_inv h
    have ht := mm_tgt_ok ht
    cases cd with
    | eq => exact lv_if_eq hx hb hd ht (fun q => by simpa [mm_P1, q] using kk _ hl) (fun q => by simpa [mm_P1, q] using kk _ hl)
    | ne => exact lv_if_ne hx hb hd ht (fun q => by simpa [mm_P1, q] using kk _ hl) (fun q => by simpa [mm_P1, q] using kk _ hl)
    | lt => exact lv_if_lt hx hb hd ht (fun q => by simpa [mm_P1, q] using kk _ hl) (fun q => by simpa [mm_P1, q] using kk _ hl)
    | ge => exact lv_if_ge hx hb hd ht (fun q => by simpa [mm_P1, q] using kk _ hl) (fun q => by simpa [mm_P1, q] using kk _ hl)
    | gt => exact lv_if_gt hx hb hd ht (fun q => by simpa [mm_P1, q] using kk _ hl) (fun q => by simpa [mm_P1, q] using kk _ hl)
    | le => exact lv_if_le hx hb hd ht (fun q => by simpa [mm_P1, q] using kk _ hl) (fun q => by simpa [mm_P1, q] using kk _ hl)
  | if_icmp cd off =>
    replace h : mm_if2 (mm_P2 cd) off len pc lv st = some f := h
    obtain ⟨rfl, tgt, x, y, r, ht, rfl, rfl⟩ := mm_if2_inv h
    have ht := mm_tgt_ok ht
    cases cd with
    | eq => exact lv_icmp_eq hx hb hd ht (fun q => by simpa [mm_P2, q] using kk _ hl) (fun q => by simpa [mm_P2, q] using kk _ hl)
    | ne => exact lv_icmp_ne hx hb hd ht (fun q => by simpa [mm_P2, q] using kk _ hl) (fun q => by simpa [mm_P2, q] using kk _ hl)
    | lt => exact lv_icmp_lt hx hb hd ht (fun q => by simpa [mm_P2, q] using kk _ hl) (fun q => by simpa [mm_P2, q] using kk _ hl)
    | ge => exact lv_icmp_ge hx hb hd ht (fun q => by simpa [mm_P2, q] using kk _ hl) (fun q => by simpa [mm_P2, q] using kk _ hl)
    | gt => exact lv_icmp_gt hx hb hd ht (fun q => by simpa [mm_P2, q] using kk _ hl) (fun q => by simpa [mm_P2, q] using kk _ hl)
    | le => exact lv_icmp_le hx hb hd ht (fun q => by simpa [mm_P2, q] using kk _ hl) (fun q => by simpa [mm_P2, q] using kk _ hl)
  | tableswitch dflt lo hi offs =>
    replace h : mm_sw dflt lo hi offs pc lv st = some f := h
    unfold mm_sw at h
    split at h
    · split at h
      · next e1 =>
        obtain ⟨t, h1, rfl⟩ := Option.map_eq_some_iff.mp h
        exact lv_tableOut hx hb hd e1 (mm_tgt_ok h1) (kk _ hl)
      · next e1 =>
        split at h
        · next off e2 =>
          obtain ⟨t, h1, rfl⟩ := Option.map_eq_some_iff.mp h
          exact lv_tableIn hx hb hd (fun q => e1 (Or.inl q)) (fun q => e1 (Or.inr q)) e2 (mm_tgt_ok h1) (kk _ hl)
        · cases h
    · cases h
  | lookupswitch dflt ps =>
    replace h : mm_lsw dflt ps pc lv st = some f := h
    unfold mm_lsw at h
    split at h
    · split at h
      · next e1 =>
        obtain ⟨t, h1, rfl⟩ := Option.map_eq_some_iff.mp h
        exact lv_lookup hx hb hd e1 rfl (mm_tgt_ok h1) (kk _ hl)
      · cases h
    · cases h
  | dup =>
    replace h : mm_dup len pc lv st = some f := h
    unfold mm_dup at h
    split at h
    · split at h
      · next e1 =>
        obtain ⟨rfl, e2⟩ := e1
        cases h
        exact lv_dup hx hb hd (by rw [mm_sh_cat]; exact e2) (kk _ hl)
      · cases h
    · cases h
  | pop =>
    replace h : mm_pop len pc lv st = some f := h
    unfold mm_pop at h
    split at h
    · split at h
      · next e1 =>
        obtain ⟨rfl, e2⟩ := e1
        cases h
        exact lv_pop hx hb hd (by rw [mm_sh_cat]; exact e2) (kk _ hl)
      · cases h
    · cases h
  | dup2 =>
    replace h : mm_dup2 len pc lv st = some f := h
    unfold mm_dup2 at h
    split at h
    · split at h
      · next e1 =>
        obtain ⟨rfl, e2, e3⟩ := e1
        cases h
        exact lv_dup2_11 hx hb hd (by rw [mm_sh_cat]; exact e2) (by rw [mm_sh_cat]; exact e3) (kk _ hl)
      · cases h
    · cases h
  | _ => cases h
end
section
/-! ===== what pools and methods say, checked against the tables' words ===== -/
def mm_gw : List Cond := lw_tbl.filter goodWord
def mm_wd (pl : Nat) (w : Cond) : Bool := decide ((mm_tab (pl / 1000))[pl % 1000]? = some w)
def mm_wg (pl : Nat) (w : Cond) : Bool := mm_wd pl w && goodWord w
theorem mm_tab_in {t : Nat} {w : Cond} (h : w ∈ mm_tab t) : w ∈ lw_tbl := by
  unfold mm_tab at h
  unfold lw_tbl tables_1
  simp only [List.mem_append]
  split at h <;> first | (simp [h]; done) | exact absurd h List.not_mem_nil
theorem mm_wd_in {pl : Nat} {w : Cond} (h : mm_wd pl w = true) : w ∈ lw_tbl := mm_tab_in (List.mem_of_getElem? (of_decide_eq_true h))
theorem mm_wg_in {pl : Nat} {w : Cond} (h : mm_wg pl w = true) : w ∈ mm_gw := by
  unfold mm_wg at h
  simp only [Bool.and_eq_true] at h
  exact List.mem_filter.mpr ⟨mm_wd_in h.1, h.2⟩
def mm_pchk (o : Nat) (e : mm_Pe) : Bool := match mm_cns[o]? with
  | none => false
  | some own => match e.2.1 with
    | 0 => match vwCl[e.2.2.1]? with
      | some r => decide (e.2.2.2.1 < r.2.2) && mm_wg e.2.2.2.2.2 (.fieldLink own e.1 (r.2.1 e.2.2.2.1).1 (r.2.1 e.2.2.2.1).2.1 (r.2.1 e.2.2.2.1).2.2.1)
      | none => false
    | 1 => match vwCl[e.2.2.1]? with
      | some r => decide (e.2.2.2.1 < r.2.2) && mm_wd e.2.2.2.2.2 (.fieldLinkNest own e.1 (r.2.1 e.2.2.2.1).1 (r.2.1 e.2.2.2.1).2.1 (r.2.1 e.2.2.2.1).2.2.1 "RaftTown")
      | none => false
    | 2 => match mm_mths[e.2.2.1]? with
      | some t => mm_wg e.2.2.2.2.2 (.methodLink own e.1 t.2.1)
      | none => false
    | 3 => match mm_mths[e.2.2.1]? with
      | some t => mm_wd e.2.2.2.2.2 (.methodLinkNest own e.1 t.2.1 "RaftTown")
      | none => false
    | 4 => match vwCl[e.2.2.1]? with
      | some r => mm_wg e.2.2.2.2.2 (.classLink own e.1 r.1) && mm_wg e.2.2.2.1 (.instantiable r.1 r.2.2) && mm_wg e.2.2.2.2.1.toNat (.initialized r.1)
      | none => false
    | 6 => mm_wg e.2.2.2.2.2 (.constant own e.1 (Int32.ofInt e.2.2.2.2.1))
    | 7 => mm_wg e.2.2.2.2.2 (.constantLong own e.1 (Int64.ofInt e.2.2.2.2.1))
    | 8 => mm_wg e.2.2.2.2.2 (.methodLink own e.1 Lib.objectInit)
    | 9 => mm_wg e.2.2.2.2.2 (.methodLink own e.1 arraycopyName)
    | 13 => mm_wg e.2.2.2.2.2 (.methodLink own e.1 Lib.Math.max.name)
    | 14 => mm_wg e.2.2.2.2.2 (.methodLink own e.1 Lib.Math.min.name)
    | 10 => match mm_sts[e.2.2.1]? with
      | some z => mm_wg e.2.2.2.2.2 (.fieldLink own e.1 z.1 z.2.1 z.2.2)
      | none => false
    | 11 => match mm_sts[e.2.2.1]? with
      | some z => mm_wd e.2.2.2.2.2 (.fieldLinkNest own e.1 z.1 z.2.1 z.2.2 "RaftTown")
      | none => false
    | _ => false
def mm_mchk (t : mm_Mt) : Bool := plainName t.2.1.cls && decide (mm_cns[t.1]? = some t.2.1.cls)
  && mm_wg (t.2.2.2.2.2.2.2.getD 3 0) (.initialized t.2.1.cls) && decide (t.2.1.cls ≠ "java/lang/invoke/MethodHandle") && decide (t.2.1.cls ≠ "java/lang/invoke/VarHandle") && decide ((parseMethodDescriptor t.2.1.desc).map (fun d => d.parameters.length) = some t.2.2.2.2.2.1) && decide (t.2.2.2.1 ≤ 45)
  && match t.2.2.2.2.2.2.1 with
    | 0 => mm_wg (t.2.2.2.2.2.2.2.getD 1 0) (.static t.2.1)
    | 1 => mm_wg (t.2.2.2.2.2.2.2.getD 1 0) (.instanceMethod t.2.1) && mm_wg (t.2.2.2.2.2.2.2.getD 2 0) (.selects t.2.1.cls t.2.1 t.2.1)
    | _ => mm_wg (t.2.2.2.2.2.2.2.getD 1 0) (.instanceMethod t.2.1) && decide (t.2.1.name = "<init>")
end
section
/-! ===== printed by wip/gen_names.py: pools, methods, their words ===== -/
set_option maxRecDepth 100000 in
theorem mm_pool_0 : (mm_pool 0).all (mm_pchk 0) = true := by decide +kernel
set_option maxRecDepth 100000 in
theorem mm_pool_1 : (mm_pool 1).all (mm_pchk 1) = true := by decide +kernel
set_option maxRecDepth 100000 in
theorem mm_pool_2 : (mm_pool 2).all (mm_pchk 2) = true := by decide +kernel
set_option maxRecDepth 100000 in
theorem mm_pool_3 : (mm_pool 3).all (mm_pchk 3) = true := by decide +kernel
set_option maxRecDepth 100000 in
theorem mm_pool_4 : (mm_pool 4).all (mm_pchk 4) = true := by decide +kernel
set_option maxRecDepth 100000 in
theorem mm_pool_5 : (mm_pool 5).all (mm_pchk 5) = true := by decide +kernel
set_option maxRecDepth 100000 in
theorem mm_pool_6 : (mm_pool 6).all (mm_pchk 6) = true := by decide +kernel
set_option maxRecDepth 100000 in
theorem mm_pool_7 : (mm_pool 7).all (mm_pchk 7) = true := by decide +kernel
set_option maxRecDepth 100000 in
theorem mm_pool_8 : (mm_pool 8).all (mm_pchk 8) = true := by decide +kernel
set_option maxRecDepth 100000 in
theorem mm_pool_9 : (mm_pool 9).all (mm_pchk 9) = true := by decide +kernel
set_option maxRecDepth 100000 in
theorem mm_pool_10 : (mm_pool 10).all (mm_pchk 10) = true := by decide +kernel
set_option maxRecDepth 100000 in
theorem mm_pool_11 : (mm_pool 11).all (mm_pchk 11) = true := by decide +kernel
set_option maxRecDepth 100000 in
theorem mm_pool_12 : (mm_pool 12).all (mm_pchk 12) = true := by decide +kernel
set_option maxRecDepth 100000 in
theorem mm_pool_13 : (mm_pool 13).all (mm_pchk 13) = true := by decide +kernel
set_option maxRecDepth 100000 in
theorem mm_pool_14 : (mm_pool 14).all (mm_pchk 14) = true := by decide +kernel
set_option maxRecDepth 100000 in
theorem mm_pool_15 : (mm_pool 15).all (mm_pchk 15) = true := by decide +kernel
set_option maxRecDepth 100000 in
theorem mm_pool_16 : (mm_pool 16).all (mm_pchk 16) = true := by decide +kernel
set_option maxRecDepth 100000 in
theorem mm_pool_17 : (mm_pool 17).all (mm_pchk 17) = true := by decide +kernel
set_option maxRecDepth 100000 in
theorem mm_pool_18 : (mm_pool 18).all (mm_pchk 18) = true := by decide +kernel
set_option maxRecDepth 100000 in
theorem mm_pool_19 : (mm_pool 19).all (mm_pchk 19) = true := by decide +kernel
theorem mm_pool_ok : ∀ o e, e ∈ mm_pool o → mm_pchk o e = true := by
  intro o e h
  match o, h with
  | 0, h => exact List.all_eq_true.mp mm_pool_0 e h
  | 1, h => exact List.all_eq_true.mp mm_pool_1 e h
  | 2, h => exact List.all_eq_true.mp mm_pool_2 e h
  | 3, h => exact List.all_eq_true.mp mm_pool_3 e h
  | 4, h => exact List.all_eq_true.mp mm_pool_4 e h
  | 5, h => exact List.all_eq_true.mp mm_pool_5 e h
  | 6, h => exact List.all_eq_true.mp mm_pool_6 e h
  | 7, h => exact List.all_eq_true.mp mm_pool_7 e h
  | 8, h => exact List.all_eq_true.mp mm_pool_8 e h
  | 9, h => exact List.all_eq_true.mp mm_pool_9 e h
  | 10, h => exact List.all_eq_true.mp mm_pool_10 e h
  | 11, h => exact List.all_eq_true.mp mm_pool_11 e h
  | 12, h => exact List.all_eq_true.mp mm_pool_12 e h
  | 13, h => exact List.all_eq_true.mp mm_pool_13 e h
  | 14, h => exact List.all_eq_true.mp mm_pool_14 e h
  | 15, h => exact List.all_eq_true.mp mm_pool_15 e h
  | 16, h => exact List.all_eq_true.mp mm_pool_16 e h
  | 17, h => exact List.all_eq_true.mp mm_pool_17 e h
  | 18, h => exact List.all_eq_true.mp mm_pool_18 e h
  | 19, h => exact List.all_eq_true.mp mm_pool_19 e h
  | o + 20, h => exact absurd h List.not_mem_nil
/-- the word of a method's code is there -/
def mm_cwd (t : mm_Mt) : Prop := (mm_tab (t.2.2.2.2.2.2.2.getD 0 0 / 1000))[t.2.2.2.2.2.2.2.getD 0 0 % 1000]? = some (.code t.2.1 t.2.2.1 t.2.2.2.1 t.2.2.2.2.1)
set_option maxRecDepth 100000 in
theorem mm_mths_0_ok : mm_mths_0.all mm_mchk = true := by decide +kernel
theorem mm_cw_0 : mm_cwd (11, ⟨"RaftTown", "<init>", "()V"⟩, prog_1_method_1_code, 2, (none), 0, 2, [1026, 1025, 0, 1001]) := rfl
theorem mm_cw_1 : mm_cwd (10, ⟨"RaftTown$Town", "<init>", "()V"⟩, prog_12_method_1_code, 2, (none), 0, 2, [1034, 1033, 0, 1002]) := rfl
theorem mm_cw_2 : mm_cwd (6, ⟨"RaftTown$Sea", "<init>", "()V"⟩, prog_8_method_1_code, 1, (none), 0, 2, [1040, 1039, 0, 1003]) := rfl
theorem mm_cw_3 : mm_cwd (1, ⟨"RaftTown$Log", "<init>", "()V"⟩, prog_3_method_1_code, 1, (none), 0, 2, [1064, 1063, 0, 1004]) := rfl
theorem mm_cw_4 : mm_cwd (4, ⟨"RaftTown$Raft", "<init>", "()V"⟩, prog_6_method_1_code, 1, (none), 0, 2, [1101, 1100, 0, 1005]) := rfl
theorem mm_cw_5 : mm_cwd (3, ⟨"RaftTown$Person", "<init>", "()V"⟩, prog_5_method_1_code, 1, (none), 0, 2, [1142, 1141, 0, 1006]) := rfl
theorem mm_cw_6 : mm_cwd (5, ⟨"RaftTown$Rope", "<init>", "()V"⟩, prog_7_method_1_code, 1, (none), 0, 2, [1183, 1182, 0, 1007]) := rfl
theorem mm_cw_7 : mm_cwd (9, ⟨"RaftTown$Text", "<init>", "()V"⟩, prog_11_method_1_code, 1, (none), 0, 2, [1229, 1228, 0, 1008]) := rfl
theorem mm_cw_8 : mm_cwd (7, ⟨"RaftTown$Sheet", "<init>", "()V"⟩, prog_9_method_1_code, 1, (none), 0, 2, [2056, 2055, 0, 1009]) := rfl
theorem mm_cw_9 : mm_cwd (8, ⟨"RaftTown$Tape", "<init>", "()V"⟩, prog_10_method_1_code, 1, (none), 0, 2, [2075, 2074, 0, 1010]) := rfl
theorem mm_cw_10 : mm_cwd (2, ⟨"RaftTown$Net", "<init>", "()V"⟩, prog_4_method_1_code, 1, (none), 0, 2, [2106, 2105, 0, 1011]) := rfl
theorem mm_cw_11 : mm_cwd (0, ⟨"RaftTown$Judge", "<init>", "()V"⟩, prog_2_method_1_code, 1, (none), 0, 2, [2134, 2133, 0, 1012]) := rfl
theorem mm_cw_12 : mm_cwd (11, ⟨"RaftTown", "stream", "(III)I"⟩, prog_1_method_2_code, 4, (some .int), 3, 1, [2174, 2172, 2173, 1001]) := rfl
theorem mm_cw_13 : mm_cwd (11, ⟨"RaftTown", "isCell", "(I)Z"⟩, prog_1_method_49_code, 1, (some .boolean), 1, 0, [2177, 2176, 0, 1001]) := rfl
theorem mm_cw_14 : mm_cwd (11, ⟨"RaftTown", "within", "(III)Z"⟩, prog_1_method_48_code, 3, (some .boolean), 3, 0, [2180, 2179, 0, 1001]) := rfl
theorem mm_cw_15 : mm_cwd (11, ⟨"RaftTown", "noted", "(I)I"⟩, prog_1_method_42_code, 2, (some .int), 1, 1, [2185, 2184, 0, 1001]) := rfl
theorem mm_cw_16 : mm_cwd (6, ⟨"RaftTown$Sea", "lead", "(III)V"⟩, prog_8_method_3_code, 4, (none), 3, 1, [2190, 2188, 2189, 1003]) := rfl
theorem mm_cw_17 : mm_cwd (11, ⟨"RaftTown", "raft", "(IIII)I"⟩, prog_1_method_3_code, 5, (some .int), 4, 1, [2195, 2193, 2194, 1001]) := rfl
theorem mm_cw_18 : mm_cwd (11, ⟨"RaftTown", "isKind", "(I)Z"⟩, prog_1_method_50_code, 1, (some .boolean), 1, 0, [2198, 2197, 0, 1001]) := rfl
theorem mm_cw_19 : mm_cwd (10, ⟨"RaftTown$Town", "addRaft", "(IIII)I"⟩, prog_12_method_11_code, 6, (some .int), 4, 1, [2203, 2201, 2202, 1002]) := rfl
theorem mm_cw_20 : mm_cwd (10, ⟨"RaftTown$Town", "raftAt", "(I)LRaftTown$Raft;"⟩, prog_12_method_6_code, 2, (some (.object "RaftTown$Raft")), 1, 1, [2207, 2205, 2206, 1002]) := rfl
theorem mm_cw_21 : mm_cwd (4, ⟨"RaftTown$Raft", "launch", "(IIII)V"⟩, prog_6_method_3_code, 5, (none), 4, 1, [2212, 2210, 2211, 1005]) := rfl
theorem mm_cw_22 : mm_cwd (11, ⟨"RaftTown", "as", "(II)I"⟩, prog_1_method_4_code, 3, (some .int), 2, 1, [2216, 2214, 2215, 1001]) := rfl
theorem mm_cw_23 : mm_cwd (10, ⟨"RaftTown$Town", "hasRaft", "(I)Z"⟩, prog_12_method_3_code, 2, (some .boolean), 1, 1, [2220, 2218, 2219, 1002]) := rfl
theorem mm_cw_24 : mm_cwd (4, ⟨"RaftTown$Raft", "isOf", "(I)Z"⟩, prog_6_method_4_code, 4, (some .boolean), 1, 1, [2225, 2223, 2224, 1005]) := rfl
theorem mm_cw_25 : mm_cwd (11, ⟨"RaftTown", "raftIs", "(II)I"⟩, prog_1_method_5_code, 4, (some .int), 2, 1, [2233, 2231, 2232, 1001]) := rfl
theorem mm_cw_26 : mm_cwd (11, ⟨"RaftTown", "surveyed", "()LRaftTown$Net;"⟩, prog_1_method_43_code, 1, (some (.object "RaftTown$Net")), 0, 1, [2237, 2236, 1, 1001]) := rfl
theorem mm_cw_27 : mm_cwd (2, ⟨"RaftTown$Net", "survey", "(LRaftTown$Town;)V"⟩, prog_4_method_2_code, 4, (none), 1, 1, [3001, 2239, 3000, 1011]) := rfl
theorem mm_cw_28 : mm_cwd (4, ⟨"RaftTown$Raft", "ownWeight", "()I"⟩, prog_6_method_6_code, 1, (some .int), 0, 1, [3006, 3004, 3005, 1005]) := rfl
theorem mm_cw_29 : mm_cwd (4, ⟨"RaftTown$Raft", "area", "()I"⟩, prog_6_method_5_code, 1, (some .int), 0, 1, [3010, 3008, 3009, 1005]) := rfl
theorem mm_cw_30 : mm_cwd (10, ⟨"RaftTown$Town", "personAt", "(I)LRaftTown$Person;"⟩, prog_12_method_7_code, 2, (some (.object "RaftTown$Person")), 1, 1, [3017, 3015, 3016, 1002]) := rfl
theorem mm_cw_31 : mm_cwd (10, ⟨"RaftTown$Town", "ropeAt", "(I)LRaftTown$Rope;"⟩, prog_12_method_8_code, 2, (some (.object "RaftTown$Rope")), 1, 1, [3022, 3020, 3021, 1002]) := rfl
theorem mm_cw_32 : mm_cwd (5, ⟨"RaftTown$Rope", "strength", "()I"⟩, prog_7_method_4_code, 1, (some .int), 0, 1, [3026, 3024, 3025, 1007]) := rfl
theorem mm_cw_33 : mm_cwd (2, ⟨"RaftTown$Net", "weightAt", "(I)I"⟩, prog_4_method_3_code, 2, (some .int), 1, 1, [3033, 3031, 3032, 1011]) := rfl
theorem mm_cw_34 : mm_cwd (2, ⟨"RaftTown$Net", "partOf", "(I)I"⟩, prog_4_method_6_code, 2, (some .int), 1, 1, [3042, 3040, 3041, 1011]) := rfl
theorem mm_cw_35 : mm_cwd (2, ⟨"RaftTown$Net", "reach", "(II)I"⟩, prog_4_method_5_code, 7, (some .int), 2, 1, [3046, 3045, 2, 1011]) := rfl
theorem mm_cw_36 : mm_cwd (11, ⟨"RaftTown", "leastOf", "(I)I"⟩, prog_1_method_57_code, 1, (some .int), 1, 0, [3049, 3048, 0, 1001]) := rfl
theorem mm_cw_37 : mm_cwd (14, ⟨"java/lang/Integer", "numberOfTrailingZeros", "(I)I"⟩, prog_15_method_48_code, 2, (some .int), 1, 0, [3052, 3051, 0, 1015]) := rfl
theorem mm_cw_38 : mm_cwd (11, ⟨"RaftTown", "load", "(IIZ)I"⟩, prog_1_method_6_code, 5, (some .int), 3, 1, [3057, 3055, 3056, 1001]) := rfl
theorem mm_cw_39 : mm_cwd (4, ⟨"RaftTown$Raft", "room", "()I"⟩, prog_6_method_7_code, 1, (some .int), 0, 1, [3062, 3060, 3061, 1005]) := rfl
theorem mm_cws_0 : ∀ t ∈ mm_mths_0, mm_cwd t := List.forall_mem_cons.mpr ⟨mm_cw_0, List.forall_mem_cons.mpr ⟨mm_cw_1, List.forall_mem_cons.mpr ⟨mm_cw_2, List.forall_mem_cons.mpr ⟨mm_cw_3, List.forall_mem_cons.mpr ⟨mm_cw_4, List.forall_mem_cons.mpr ⟨mm_cw_5, List.forall_mem_cons.mpr ⟨mm_cw_6, List.forall_mem_cons.mpr ⟨mm_cw_7, List.forall_mem_cons.mpr ⟨mm_cw_8, List.forall_mem_cons.mpr ⟨mm_cw_9, List.forall_mem_cons.mpr ⟨mm_cw_10, List.forall_mem_cons.mpr ⟨mm_cw_11, List.forall_mem_cons.mpr ⟨mm_cw_12, List.forall_mem_cons.mpr ⟨mm_cw_13, List.forall_mem_cons.mpr ⟨mm_cw_14, List.forall_mem_cons.mpr ⟨mm_cw_15, List.forall_mem_cons.mpr ⟨mm_cw_16, List.forall_mem_cons.mpr ⟨mm_cw_17, List.forall_mem_cons.mpr ⟨mm_cw_18, List.forall_mem_cons.mpr ⟨mm_cw_19, List.forall_mem_cons.mpr ⟨mm_cw_20, List.forall_mem_cons.mpr ⟨mm_cw_21, List.forall_mem_cons.mpr ⟨mm_cw_22, List.forall_mem_cons.mpr ⟨mm_cw_23, List.forall_mem_cons.mpr ⟨mm_cw_24, List.forall_mem_cons.mpr ⟨mm_cw_25, List.forall_mem_cons.mpr ⟨mm_cw_26, List.forall_mem_cons.mpr ⟨mm_cw_27, List.forall_mem_cons.mpr ⟨mm_cw_28, List.forall_mem_cons.mpr ⟨mm_cw_29, List.forall_mem_cons.mpr ⟨mm_cw_30, List.forall_mem_cons.mpr ⟨mm_cw_31, List.forall_mem_cons.mpr ⟨mm_cw_32, List.forall_mem_cons.mpr ⟨mm_cw_33, List.forall_mem_cons.mpr ⟨mm_cw_34, List.forall_mem_cons.mpr ⟨mm_cw_35, List.forall_mem_cons.mpr ⟨mm_cw_36, List.forall_mem_cons.mpr ⟨mm_cw_37, List.forall_mem_cons.mpr ⟨mm_cw_38, List.forall_mem_cons.mpr ⟨mm_cw_39, fun _ h => absurd h List.not_mem_nil⟩⟩⟩⟩⟩⟩⟩⟩⟩⟩⟩⟩⟩⟩⟩⟩⟩⟩⟩⟩⟩⟩⟩⟩⟩⟩⟩⟩⟩⟩⟩⟩⟩⟩⟩⟩⟩⟩⟩⟩
set_option maxRecDepth 100000 in
theorem mm_mths_1_ok : mm_mths_1.all mm_mchk = true := by decide +kernel
theorem mm_cw_40 : mm_cwd (4, ⟨"RaftTown$Raft", "stow", "(IZ)I"⟩, prog_6_method_9_code, 3, (some .int), 2, 1, [3066, 3064, 3065, 1005]) := rfl
theorem mm_cw_41 : mm_cwd (4, ⟨"RaftTown$Raft", "casks", "(Z)I"⟩, prog_6_method_8_code, 2, (some .int), 1, 1, [3070, 3068, 3069, 1005]) := rfl
theorem mm_cw_42 : mm_cwd (11, ⟨"RaftTown", "trade", "(IIIZ)I"⟩, prog_1_method_7_code, 7, (some .int), 4, 1, [3074, 3072, 3073, 1001]) := rfl
theorem mm_cw_43 : mm_cwd (2, ⟨"RaftTown$Net", "inOnePart", "(II)Z"⟩, prog_4_method_7_code, 3, (some .boolean), 2, 1, [3079, 3077, 3078, 1011]) := rfl
theorem mm_cw_44 : mm_cwd (11, ⟨"RaftTown", "has", "(II)Z"⟩, prog_1_method_56_code, 2, (some .boolean), 2, 0, [3083, 3082, 0, 1001]) := rfl
theorem mm_cw_45 : mm_cwd (11, ⟨"RaftTown", "person", "(IIII)I"⟩, prog_1_method_8_code, 5, (some .int), 4, 1, [3090, 3088, 3089, 1001]) := rfl
theorem mm_cw_46 : mm_cwd (11, ⟨"RaftTown", "areParents", "(II)Z"⟩, prog_1_method_47_code, 3, (some .boolean), 2, 1, [3094, 3093, 3, 1001]) := rfl
theorem mm_cw_47 : mm_cwd (10, ⟨"RaftTown$Town", "addPerson", "(IIII)I"⟩, prog_12_method_12_code, 6, (some .int), 4, 1, [3098, 3096, 3097, 1002]) := rfl
theorem mm_cw_48 : mm_cwd (3, ⟨"RaftTown$Person", "arrive", "(IIII)V"⟩, prog_5_method_3_code, 5, (none), 4, 1, [3103, 3101, 3102, 1006]) := rfl
theorem mm_cw_49 : mm_cwd (11, ⟨"RaftTown", "wed", "(II)I"⟩, prog_1_method_9_code, 5, (some .int), 2, 1, [3107, 3105, 3106, 1001]) := rfl
theorem mm_cw_50 : mm_cwd (10, ⟨"RaftTown$Town", "hasPerson", "(I)Z"⟩, prog_12_method_4_code, 2, (some .boolean), 1, 1, [3111, 3109, 3110, 1002]) := rfl
theorem mm_cw_51 : mm_cwd (11, ⟨"RaftTown", "move", "(II)I"⟩, prog_1_method_10_code, 5, (some .int), 2, 1, [3117, 3115, 3116, 1001]) := rfl
theorem mm_cw_52 : mm_cwd (11, ⟨"RaftTown", "personIs", "(II)I"⟩, prog_1_method_11_code, 4, (some .int), 2, 1, [3121, 3119, 3120, 1001]) := rfl
theorem mm_cw_53 : mm_cwd (10, ⟨"RaftTown$Town", "kinOf", "(I)I"⟩, prog_12_method_16_code, 4, (some .int), 1, 1, [3125, 3123, 3124, 1002]) := rfl
theorem mm_cw_54 : mm_cwd (10, ⟨"RaftTown$Town", "areKin", "(II)Z"⟩, prog_12_method_15_code, 5, (some .boolean), 2, 1, [3129, 3128, 4, 1002]) := rfl
theorem mm_cw_55 : mm_cwd (3, ⟨"RaftTown$Person", "hasParent", "(I)Z"⟩, prog_5_method_4_code, 2, (some .boolean), 1, 1, [3133, 3131, 3132, 1006]) := rfl
theorem mm_cw_56 : mm_cwd (11, ⟨"RaftTown", "tie", "(IIIII)I"⟩, prog_1_method_12_code, 10, (some .int), 5, 1, [3137, 3135, 3136, 1001]) := rfl
theorem mm_cw_57 : mm_cwd (11, ⟨"RaftTown", "isSide", "(I)Z"⟩, prog_1_method_51_code, 1, (some .boolean), 1, 0, [3140, 3139, 0, 1001]) := rfl
theorem mm_cw_58 : mm_cwd (10, ⟨"RaftTown$Town", "hasRoomAt", "(II)Z"⟩, prog_12_method_13_code, 5, (some .boolean), 2, 1, [3144, 3142, 3143, 1002]) := rfl
theorem mm_cw_59 : mm_cwd (5, ⟨"RaftTown$Rope", "isAtSide", "(II)Z"⟩, prog_7_method_6_code, 3, (some .boolean), 2, 1, [3148, 3146, 3147, 1007]) := rfl
theorem mm_cw_60 : mm_cwd (10, ⟨"RaftTown$Town", "freeRope", "()I"⟩, prog_12_method_14_code, 2, (some .int), 0, 1, [3152, 3150, 3151, 1002]) := rfl
theorem mm_cw_61 : mm_cwd (5, ⟨"RaftTown$Rope", "lay", "(IIIII)V"⟩, prog_7_method_3_code, 6, (none), 5, 1, [3158, 3156, 3157, 1007]) := rfl
theorem mm_cw_62 : mm_cwd (1, ⟨"RaftTown$Log", "add", "(IIII)V"⟩, prog_3_method_5_code, 6, (none), 4, 1, [3162, 3160, 3161, 1004]) := rfl
theorem mm_cw_63 : mm_cwd (1, ⟨"RaftTown$Log", "placeOf", "(I)I"⟩, prog_3_method_3_code, 3, (some .int), 1, 1, [3166, 3165, 5, 1004]) := rfl
theorem mm_cw_64 : mm_cwd (1, ⟨"RaftTown$Log", "tellOn", "(I)V"⟩, prog_3_method_7_code, 3, (none), 1, 1, [3170, 3168, 3169, 1004]) := rfl
theorem mm_cw_65 : mm_cwd (11, ⟨"RaftTown", "cut", "(I)I"⟩, prog_1_method_13_code, 4, (some .int), 1, 1, [3174, 3172, 3173, 1001]) := rfl
theorem mm_cw_66 : mm_cwd (10, ⟨"RaftTown$Town", "hasRope", "(I)Z"⟩, prog_12_method_5_code, 2, (some .boolean), 1, 1, [3178, 3176, 3177, 1002]) := rfl
theorem mm_cw_67 : mm_cwd (1, ⟨"RaftTown$Log", "lawOf", "(I)I"⟩, prog_3_method_9_code, 4, (some .int), 1, 1, [3182, 3180, 3181, 1004]) := rfl
theorem mm_cw_68 : mm_cwd (11, ⟨"RaftTown", "ropeRuling", "(III)I"⟩, prog_1_method_45_code, 4, (some .int), 3, 1, [3186, 3185, 6, 1001]) := rfl
theorem mm_cw_69 : mm_cwd (0, ⟨"RaftTown$Judge", "nameRope", "(LRaftTown$Town;LRaftTown$Net;II)V"⟩, prog_2_method_3_code, 6, (none), 4, 1, [3190, 3188, 3189, 1012]) := rfl
theorem mm_cw_70 : mm_cwd (0, ⟨"RaftTown$Judge", "nameNothing", "()V"⟩, prog_2_method_2_code, 2, (none), 0, 1, [3195, 3194, 7, 1012]) := rfl
theorem mm_cw_71 : mm_cwd (2, ⟨"RaftTown$Net", "loadOf", "(III)I"⟩, prog_4_method_11_code, 4, (some .int), 3, 1, [3199, 3197, 3198, 1011]) := rfl
theorem mm_cw_72 : mm_cwd (2, ⟨"RaftTown$Net", "hang", "(II)I"⟩, prog_4_method_10_code, 7, (some .int), 2, 1, [3203, 3201, 3202, 1011]) := rfl
theorem mm_cw_73 : mm_cwd (2, ⟨"RaftTown$Net", "weigh", "(I)I"⟩, prog_4_method_9_code, 4, (some .int), 1, 1, [3207, 3206, 8, 1011]) := rfl
theorem mm_cw_74 : mm_cwd (10, ⟨"RaftTown$Town", "kinBetween", "(II)I"⟩, prog_12_method_19_code, 6, (some .int), 2, 1, [3212, 3210, 3211, 1002]) := rfl
theorem mm_cw_75 : mm_cwd (10, ⟨"RaftTown$Town", "personsOf", "(I)I"⟩, prog_12_method_17_code, 4, (some .int), 1, 1, [3216, 3214, 3215, 1002]) := rfl
theorem mm_cw_76 : mm_cwd (3, ⟨"RaftTown$Person", "isAmong", "(I)Z"⟩, prog_5_method_6_code, 2, (some .boolean), 1, 1, [3220, 3218, 3219, 1006]) := rfl
theorem mm_cw_77 : mm_cwd (3, ⟨"RaftTown$Person", "isOn", "(I)Z"⟩, prog_5_method_5_code, 2, (some .boolean), 1, 1, [3224, 3222, 3223, 1006]) := rfl
theorem mm_cw_78 : mm_cwd (14, ⟨"java/lang/Integer", "bitCount", "(I)I"⟩, prog_15_method_49_code, 1, (some .int), 1, 0, [3228, 3227, 0, 1015]) := rfl
theorem mm_cw_79 : mm_cwd (0, ⟨"RaftTown$Judge", "namePart", "(LRaftTown$Town;I)V"⟩, prog_2_method_6_code, 3, (none), 2, 1, [3236, 3235, 9, 1012]) := rfl
theorem mm_cws_1 : ∀ t ∈ mm_mths_1, mm_cwd t := List.forall_mem_cons.mpr ⟨mm_cw_40, List.forall_mem_cons.mpr ⟨mm_cw_41, List.forall_mem_cons.mpr ⟨mm_cw_42, List.forall_mem_cons.mpr ⟨mm_cw_43, List.forall_mem_cons.mpr ⟨mm_cw_44, List.forall_mem_cons.mpr ⟨mm_cw_45, List.forall_mem_cons.mpr ⟨mm_cw_46, List.forall_mem_cons.mpr ⟨mm_cw_47, List.forall_mem_cons.mpr ⟨mm_cw_48, List.forall_mem_cons.mpr ⟨mm_cw_49, List.forall_mem_cons.mpr ⟨mm_cw_50, List.forall_mem_cons.mpr ⟨mm_cw_51, List.forall_mem_cons.mpr ⟨mm_cw_52, List.forall_mem_cons.mpr ⟨mm_cw_53, List.forall_mem_cons.mpr ⟨mm_cw_54, List.forall_mem_cons.mpr ⟨mm_cw_55, List.forall_mem_cons.mpr ⟨mm_cw_56, List.forall_mem_cons.mpr ⟨mm_cw_57, List.forall_mem_cons.mpr ⟨mm_cw_58, List.forall_mem_cons.mpr ⟨mm_cw_59, List.forall_mem_cons.mpr ⟨mm_cw_60, List.forall_mem_cons.mpr ⟨mm_cw_61, List.forall_mem_cons.mpr ⟨mm_cw_62, List.forall_mem_cons.mpr ⟨mm_cw_63, List.forall_mem_cons.mpr ⟨mm_cw_64, List.forall_mem_cons.mpr ⟨mm_cw_65, List.forall_mem_cons.mpr ⟨mm_cw_66, List.forall_mem_cons.mpr ⟨mm_cw_67, List.forall_mem_cons.mpr ⟨mm_cw_68, List.forall_mem_cons.mpr ⟨mm_cw_69, List.forall_mem_cons.mpr ⟨mm_cw_70, List.forall_mem_cons.mpr ⟨mm_cw_71, List.forall_mem_cons.mpr ⟨mm_cw_72, List.forall_mem_cons.mpr ⟨mm_cw_73, List.forall_mem_cons.mpr ⟨mm_cw_74, List.forall_mem_cons.mpr ⟨mm_cw_75, List.forall_mem_cons.mpr ⟨mm_cw_76, List.forall_mem_cons.mpr ⟨mm_cw_77, List.forall_mem_cons.mpr ⟨mm_cw_78, List.forall_mem_cons.mpr ⟨mm_cw_79, fun _ h => absurd h List.not_mem_nil⟩⟩⟩⟩⟩⟩⟩⟩⟩⟩⟩⟩⟩⟩⟩⟩⟩⟩⟩⟩⟩⟩⟩⟩⟩⟩⟩⟩⟩⟩⟩⟩⟩⟩⟩⟩⟩⟩⟩⟩
set_option maxRecDepth 100000 in
theorem mm_mths_2_ok : mm_mths_2.all mm_mchk = true := by decide +kernel
theorem mm_cw_80 : mm_cwd (10, ⟨"RaftTown$Town", "headsOf", "(I)I"⟩, prog_12_method_18_code, 2, (some .int), 1, 1, [4000, 3238, 3239, 1002]) := rfl
theorem mm_cw_81 : mm_cwd (10, ⟨"RaftTown$Town", "waterOf", "(I)I"⟩, prog_12_method_20_code, 4, (some .int), 1, 1, [4004, 4002, 4003, 1002]) := rfl
theorem mm_cw_82 : mm_cwd (10, ⟨"RaftTown$Town", "textOfLaw", "(I)LRaftTown$Text;"⟩, prog_12_method_10_code, 2, (some (.object "RaftTown$Text")), 1, 1, [4009, 4007, 4008, 1002]) := rfl
theorem mm_cw_83 : mm_cwd (1, ⟨"RaftTown$Log", "textOf", "(I)I"⟩, prog_3_method_10_code, 2, (some .int), 1, 1, [4013, 4011, 4012, 1004]) := rfl
theorem mm_cw_84 : mm_cwd (10, ⟨"RaftTown$Town", "textAt", "(I)LRaftTown$Text;"⟩, prog_12_method_9_code, 2, (some (.object "RaftTown$Text")), 1, 1, [4018, 4016, 4017, 1002]) := rfl
theorem mm_cw_85 : mm_cwd (11, ⟨"RaftTown", "isText", "(I)Z"⟩, prog_1_method_52_code, 1, (some .boolean), 1, 0, [4021, 4020, 0, 1001]) := rfl
theorem mm_cw_86 : mm_cwd (0, ⟨"RaftTown$Judge", "comesTo", "(LRaftTown$Text;I)I"⟩, prog_2_method_7_code, 8, (some .int), 2, 1, [4025, 4023, 4024, 1012]) := rfl
theorem mm_cw_87 : mm_cwd (9, ⟨"RaftTown$Text", "endOf", "(I)I"⟩, prog_11_method_8_code, 2, (some .int), 1, 1, [4029, 4027, 4028, 1008]) := rfl
theorem mm_cw_88 : mm_cwd (9, ⟨"RaftTown$Text", "startOf", "(I)I"⟩, prog_11_method_7_code, 2, (some .int), 1, 1, [4035, 4033, 4034, 1008]) := rfl
theorem mm_cw_89 : mm_cwd (0, ⟨"RaftTown$Judge", "push", "(I)V"⟩, prog_2_method_8_code, 2, (none), 1, 1, [4039, 4038, 10, 1012]) := rfl
theorem mm_cw_90 : mm_cwd (0, ⟨"RaftTown$Judge", "pop", "()I"⟩, prog_2_method_9_code, 1, (some .int), 0, 1, [4043, 4042, 11, 1012]) := rfl
theorem mm_cw_91 : mm_cwd (0, ⟨"RaftTown$Judge", "joined", "(III)I"⟩, prog_2_method_10_code, 3, (some .int), 3, 0, [4046, 4045, 0, 1012]) := rfl
theorem mm_cw_92 : mm_cwd (2, ⟨"RaftTown$Net", "countParts", "()I"⟩, prog_4_method_8_code, 4, (some .int), 0, 1, [4051, 4049, 4050, 1011]) := rfl
theorem mm_cw_93 : mm_cwd (11, ⟨"RaftTown", "rope", "(II)I"⟩, prog_1_method_14_code, 4, (some .int), 2, 1, [4055, 4053, 4054, 1001]) := rfl
theorem mm_cw_94 : mm_cwd (11, ⟨"RaftTown", "bears", "(II)I"⟩, prog_1_method_15_code, 3, (some .int), 2, 1, [4061, 4059, 4060, 1001]) := rfl
theorem mm_cw_95 : mm_cwd (11, ⟨"RaftTown", "areWaves", "(I)Z"⟩, prog_1_method_54_code, 1, (some .boolean), 1, 0, [4064, 4063, 0, 1001]) := rfl
theorem mm_cw_96 : mm_cwd (11, ⟨"RaftTown", "parts", "()I"⟩, prog_1_method_16_code, 1, (some .int), 0, 1, [4069, 4067, 4068, 1001]) := rfl
theorem mm_cw_97 : mm_cwd (11, ⟨"RaftTown", "part", "(I)I"⟩, prog_1_method_17_code, 2, (some .int), 1, 1, [4073, 4071, 4072, 1001]) := rfl
theorem mm_cw_98 : mm_cwd (11, ⟨"RaftTown", "worst", "(II)I"⟩, prog_1_method_18_code, 4, (some .int), 2, 1, [4077, 4075, 4076, 1001]) := rfl
theorem mm_cw_99 : mm_cwd (2, ⟨"RaftTown$Net", "countParting", "(III)I"⟩, prog_4_method_13_code, 8, (some .int), 3, 1, [4081, 4079, 4080, 1011]) := rfl
theorem mm_cw_100 : mm_cwd (2, ⟨"RaftTown$Net", "worstOf", "(II)I"⟩, prog_4_method_12_code, 7, (some .int), 2, 1, [4085, 4083, 4084, 1011]) := rfl
theorem mm_cw_101 : mm_cwd (2, ⟨"RaftTown$Net", "partingAt", "(II)I"⟩, prog_4_method_14_code, 6, (some .int), 2, 1, [4090, 4088, 4089, 1011]) := rfl
theorem mm_cw_102 : mm_cwd (11, ⟨"RaftTown", "day", "(II)I"⟩, prog_1_method_19_code, 3, (some .int), 2, 1, [4094, 4092, 4093, 1001]) := rfl
theorem mm_cw_103 : mm_cwd (11, ⟨"RaftTown", "isRain", "(I)Z"⟩, prog_1_method_55_code, 1, (some .boolean), 1, 0, [4097, 4096, 0, 1001]) := rfl
theorem mm_cw_104 : mm_cwd (10, ⟨"RaftTown$Town", "passDay", "(IILRaftTown$Net;)I"⟩, prog_12_method_26_code, 5, (some .int), 3, 1, [4101, 4099, 4100, 1002]) := rfl
theorem mm_cw_105 : mm_cwd (10, ⟨"RaftTown$Town", "partUnder", "(ILRaftTown$Net;)I"⟩, prog_12_method_27_code, 6, (some .int), 2, 1, [4106, 4105, 12, 1002]) := rfl
theorem mm_cw_106 : mm_cwd (2, ⟨"RaftTown$Net", "drop", "(I)V"⟩, prog_4_method_4_code, 2, (none), 1, 1, [4114, 4112, 4113, 1011]) := rfl
theorem mm_cw_107 : mm_cwd (10, ⟨"RaftTown$Town", "catchRain", "(I)V"⟩, prog_12_method_28_code, 4, (none), 1, 1, [4118, 4117, 13, 1002]) := rfl
theorem mm_cw_108 : mm_cwd (10, ⟨"RaftTown$Town", "waterGardens", "()V"⟩, prog_12_method_29_code, 3, (none), 0, 1, [4126, 4125, 14, 1002]) := rfl
theorem mm_cw_109 : mm_cwd (10, ⟨"RaftTown$Town", "drinkAll", "(LRaftTown$Net;)V"⟩, prog_12_method_30_code, 4, (none), 1, 1, [4130, 4129, 15, 1002]) := rfl
theorem mm_cw_110 : mm_cwd (10, ⟨"RaftTown$Town", "drink", "(II)V"⟩, prog_12_method_31_code, 5, (none), 2, 1, [4134, 4133, 16, 1002]) := rfl
theorem mm_cw_111 : mm_cwd (10, ⟨"RaftTown$Town", "fullestOf", "(I)LRaftTown$Raft;"⟩, prog_12_method_32_code, 4, (some (.object "RaftTown$Raft")), 1, 1, [4138, 4137, 17, 1002]) := rfl
theorem mm_cw_112 : mm_cwd (10, ⟨"RaftTown$Town", "lose", "(II)V"⟩, prog_12_method_33_code, 3, (none), 2, 1, [4143, 4142, 18, 1002]) := rfl
theorem mm_cw_113 : mm_cwd (10, ⟨"RaftTown$Town", "ageRopes", "(Z)V"⟩, prog_12_method_34_code, 3, (none), 1, 1, [4147, 4146, 19, 1002]) := rfl
theorem mm_cw_114 : mm_cwd (10, ⟨"RaftTown$Town", "rot", "(LRaftTown$Net;)V"⟩, prog_12_method_35_code, 5, (none), 1, 1, [4151, 4150, 20, 1002]) := rfl
theorem mm_cw_115 : mm_cwd (10, ⟨"RaftTown$Town", "sink", "(ILRaftTown$Net;)V"⟩, prog_12_method_36_code, 7, (none), 2, 1, [4155, 4154, 21, 1002]) := rfl
theorem mm_cw_116 : mm_cwd (5, ⟨"RaftTown$Rope", "isAt", "(I)Z"⟩, prog_7_method_5_code, 2, (some .boolean), 1, 1, [4159, 4157, 4158, 1007]) := rfl
theorem mm_cw_117 : mm_cwd (10, ⟨"RaftTown$Town", "drift", "()V"⟩, prog_12_method_37_code, 3, (none), 0, 1, [4163, 4162, 22, 1002]) := rfl
theorem mm_cw_118 : mm_cwd (6, ⟨"RaftTown$Sea", "drifted", "(I)I"⟩, prog_8_method_6_code, 2, (some .int), 1, 1, [4167, 4165, 4166, 1003]) := rfl
theorem mm_cw_119 : mm_cwd (6, ⟨"RaftTown$Sea", "ledBy", "(II)I"⟩, prog_8_method_5_code, 3, (some .int), 2, 1, [4171, 4170, 23, 1003]) := rfl
theorem mm_cws_2 : ∀ t ∈ mm_mths_2, mm_cwd t := List.forall_mem_cons.mpr ⟨mm_cw_80, List.forall_mem_cons.mpr ⟨mm_cw_81, List.forall_mem_cons.mpr ⟨mm_cw_82, List.forall_mem_cons.mpr ⟨mm_cw_83, List.forall_mem_cons.mpr ⟨mm_cw_84, List.forall_mem_cons.mpr ⟨mm_cw_85, List.forall_mem_cons.mpr ⟨mm_cw_86, List.forall_mem_cons.mpr ⟨mm_cw_87, List.forall_mem_cons.mpr ⟨mm_cw_88, List.forall_mem_cons.mpr ⟨mm_cw_89, List.forall_mem_cons.mpr ⟨mm_cw_90, List.forall_mem_cons.mpr ⟨mm_cw_91, List.forall_mem_cons.mpr ⟨mm_cw_92, List.forall_mem_cons.mpr ⟨mm_cw_93, List.forall_mem_cons.mpr ⟨mm_cw_94, List.forall_mem_cons.mpr ⟨mm_cw_95, List.forall_mem_cons.mpr ⟨mm_cw_96, List.forall_mem_cons.mpr ⟨mm_cw_97, List.forall_mem_cons.mpr ⟨mm_cw_98, List.forall_mem_cons.mpr ⟨mm_cw_99, List.forall_mem_cons.mpr ⟨mm_cw_100, List.forall_mem_cons.mpr ⟨mm_cw_101, List.forall_mem_cons.mpr ⟨mm_cw_102, List.forall_mem_cons.mpr ⟨mm_cw_103, List.forall_mem_cons.mpr ⟨mm_cw_104, List.forall_mem_cons.mpr ⟨mm_cw_105, List.forall_mem_cons.mpr ⟨mm_cw_106, List.forall_mem_cons.mpr ⟨mm_cw_107, List.forall_mem_cons.mpr ⟨mm_cw_108, List.forall_mem_cons.mpr ⟨mm_cw_109, List.forall_mem_cons.mpr ⟨mm_cw_110, List.forall_mem_cons.mpr ⟨mm_cw_111, List.forall_mem_cons.mpr ⟨mm_cw_112, List.forall_mem_cons.mpr ⟨mm_cw_113, List.forall_mem_cons.mpr ⟨mm_cw_114, List.forall_mem_cons.mpr ⟨mm_cw_115, List.forall_mem_cons.mpr ⟨mm_cw_116, List.forall_mem_cons.mpr ⟨mm_cw_117, List.forall_mem_cons.mpr ⟨mm_cw_118, List.forall_mem_cons.mpr ⟨mm_cw_119, fun _ h => absurd h List.not_mem_nil⟩⟩⟩⟩⟩⟩⟩⟩⟩⟩⟩⟩⟩⟩⟩⟩⟩⟩⟩⟩⟩⟩⟩⟩⟩⟩⟩⟩⟩⟩⟩⟩⟩⟩⟩⟩⟩⟩⟩⟩
set_option maxRecDepth 100000 in
theorem mm_mths_3_ok : mm_mths_3.all mm_mchk = true := by decide +kernel
theorem mm_cw_120 : mm_cwd (6, ⟨"RaftTown$Sea", "stepped", "(III)I"⟩, prog_8_method_4_code, 6, (some .int), 3, 0, [4174, 4173, 0, 1003]) := rfl
theorem mm_cw_121 : mm_cwd (11, ⟨"RaftTown", "days", "(II)I"⟩, prog_1_method_20_code, 10, (some .int), 2, 1, [4179, 4177, 4178, 1001]) := rfl
theorem mm_cw_122 : mm_cwd (11, ⟨"RaftTown", "isSheet", "(I)Z"⟩, prog_1_method_53_code, 1, (some .boolean), 1, 0, [4182, 4181, 0, 1001]) := rfl
theorem mm_cw_123 : mm_cwd (7, ⟨"RaftTown$Sheet", "isMissing", "()Z"⟩, prog_9_method_2_code, 1, (some .boolean), 0, 1, [4186, 4184, 4185, 1009]) := rfl
theorem mm_cw_124 : mm_cwd (7, ⟨"RaftTown$Sheet", "numberOr", "(II)I"⟩, prog_9_method_5_code, 3, (some .int), 2, 1, [4190, 4188, 4189, 1009]) := rfl
theorem mm_cw_125 : mm_cwd (11, ⟨"RaftTown", "lasts", "(I)I"⟩, prog_1_method_21_code, 4, (some .int), 1, 1, [4195, 4193, 4194, 1001]) := rfl
theorem mm_cw_126 : mm_cwd (10, ⟨"RaftTown$Town", "countKind", "(II)I"⟩, prog_12_method_21_code, 5, (some .int), 2, 1, [4200, 4198, 4199, 1002]) := rfl
theorem mm_cw_127 : mm_cwd (11, ⟨"RaftTown", "feed", "(IJ)I"⟩, prog_1_method_22_code, 4, (some .int), 2, 1, [4205, 4203, 4204, 1001]) := rfl
theorem mm_cw_128 : mm_cwd (8, ⟨"RaftTown$Tape", "hasRoom", "(I)Z"⟩, prog_10_method_2_code, 2, (some .boolean), 1, 1, [4209, 4207, 4208, 1010]) := rfl
theorem mm_cw_129 : mm_cwd (8, ⟨"RaftTown$Tape", "append", "(IJ)I"⟩, prog_10_method_3_code, 5, (some .int), 2, 1, [4213, 4211, 4212, 1010]) := rfl
theorem mm_cw_130 : mm_cwd (11, ⟨"RaftTown", "text", "(I)I"⟩, prog_1_method_23_code, 3, (some .int), 1, 1, [4218, 4216, 4217, 1001]) := rfl
theorem mm_cw_131 : mm_cwd (8, ⟨"RaftTown$Tape", "read", "()I"⟩, prog_10_method_4_code, 2, (some .int), 0, 1, [4223, 4221, 4222, 1010]) := rfl
theorem mm_cw_132 : mm_cwd (9, ⟨"RaftTown$Text", "clear", "()V"⟩, prog_11_method_3_code, 1, (none), 0, 1, [4227, 4225, 4226, 1008]) := rfl
theorem mm_cw_133 : mm_cwd (8, ⟨"RaftTown$Tape", "next", "()V"⟩, prog_10_method_13_code, 2, (none), 0, 1, [4231, 4230, 24, 1010]) := rfl
theorem mm_cw_134 : mm_cwd (8, ⟨"RaftTown$Tape", "byteAt", "(I)I"⟩, prog_10_method_14_code, 2, (some .int), 1, 1, [4235, 4234, 25, 1010]) := rfl
theorem mm_cw_135 : mm_cwd (8, ⟨"RaftTown$Tape", "isLetter", "(I)Z"⟩, prog_10_method_18_code, 1, (some .boolean), 1, 0, [4238, 4237, 0, 1010]) := rfl
theorem mm_cw_136 : mm_cwd (8, ⟨"RaftTown$Tape", "nextWord", "()V"⟩, prog_10_method_15_code, 2, (none), 0, 1, [5003, 5002, 26, 1010]) := rfl
theorem mm_cw_137 : mm_cwd (8, ⟨"RaftTown$Tape", "word", "(I)Ljava/lang/String;"⟩, prog_10_method_21_code, 1, (some (.object "java/lang/String")), 1, 0, [5006, 5005, 0, 1010]) := rfl
theorem mm_cw_138 : mm_cwd (8, ⟨"RaftTown$Tape", "standsHere", "(Ljava/lang/String;)Z"⟩, prog_10_method_16_code, 3, (some .boolean), 1, 1, [5026, 5025, 27, 1010]) := rfl
theorem mm_cw_139 : mm_cwd (15, ⟨"java/lang/String", "length", "()I"⟩, prog_18_method_54_code, 1, (some .int), 0, 1, [5030, 5028, 5029, 1016]) := rfl
theorem mm_cw_140 : mm_cwd (15, ⟨"java/lang/String", "coder", "()B"⟩, prog_18_method_152_code, 1, (some .byte), 0, 1, [5034, 5032, 5033, 1016]) := rfl
theorem mm_cw_141 : mm_cwd (15, ⟨"java/lang/String", "charAt", "(I)C"⟩, prog_18_method_56_code, 2, (some .char), 1, 1, [5040, 5038, 5039, 1016]) := rfl
theorem mm_cw_142 : mm_cwd (15, ⟨"java/lang/String", "isLatin1", "()Z"⟩, prog_18_method_154_code, 1, (some .boolean), 0, 1, [5044, 5042, 5043, 1016]) := rfl
theorem mm_cw_143 : mm_cwd (16, ⟨"java/lang/StringLatin1", "charAt", "([BI)C"⟩, prog_19_method_2_code, 2, (some .char), 2, 0, [5047, 5046, 0, 1017]) := rfl
theorem mm_cw_144 : mm_cwd (15, ⟨"java/lang/String", "checkIndex", "(II)V"⟩, prog_18_method_155_code, 2, (none), 2, 0, [5050, 5049, 0, 1016]) := rfl
theorem mm_cw_145 : mm_cwd (17, ⟨"jdk/internal/util/Preconditions", "checkIndex", "(IILjava/util/function/BiFunction;)I"⟩, prog_22_method_11_code, 3, (some .int), 3, 0, [5055, 5054, 0, 1018]) := rfl
theorem mm_cw_146 : mm_cwd (18, ⟨"java/lang/StringUTF16", "charAt", "([BI)C"⟩, prog_20_method_83_code, 2, (some .char), 2, 0, [5058, 5057, 0, 1019]) := rfl
theorem mm_cw_147 : mm_cwd (18, ⟨"java/lang/StringUTF16", "checkIndex", "(I[B)V"⟩, prog_20_method_91_code, 2, (none), 2, 0, [5061, 5060, 0, 1019]) := rfl
theorem mm_cw_148 : mm_cwd (18, ⟨"java/lang/StringUTF16", "length", "([B)I"⟩, prog_20_method_6_code, 1, (some .int), 1, 0, [5064, 5063, 0, 1019]) := rfl
theorem mm_cw_149 : mm_cwd (18, ⟨"java/lang/StringUTF16", "getChar", "([BI)C"⟩, prog_20_method_5_code, 2, (some .char), 2, 0, [5068, 5067, 0, 1019]) := rfl
theorem mm_cw_150 : mm_cwd (8, ⟨"RaftTown$Tape", "isDigit", "(I)Z"⟩, prog_10_method_19_code, 1, (some .boolean), 1, 0, [5077, 5076, 0, 1010]) := rfl
theorem mm_cw_151 : mm_cwd (8, ⟨"RaftTown$Tape", "nextNumber", "()V"⟩, prog_10_method_17_code, 1, (none), 0, 1, [5081, 5080, 28, 1010]) := rfl
theorem mm_cw_152 : mm_cwd (8, ⟨"RaftTown$Tape", "signOf", "(I)I"⟩, prog_10_method_20_code, 1, (some .int), 1, 0, [5084, 5083, 0, 1010]) := rfl
theorem mm_cw_153 : mm_cwd (8, ⟨"RaftTown$Tape", "readClause", "(II)Z"⟩, prog_10_method_5_code, 4, (some .boolean), 2, 1, [5088, 5087, 29, 1010]) := rfl
theorem mm_cw_154 : mm_cwd (8, ⟨"RaftTown$Tape", "pass", "(I)Z"⟩, prog_10_method_6_code, 2, (some .boolean), 1, 1, [5092, 5091, 30, 1010]) := rfl
theorem mm_cw_155 : mm_cwd (8, ⟨"RaftTown$Tape", "readOr", "(I)Z"⟩, prog_10_method_7_code, 4, (some .boolean), 1, 1, [5096, 5095, 31, 1010]) := rfl
theorem mm_cw_156 : mm_cwd (8, ⟨"RaftTown$Tape", "readAnd", "(I)Z"⟩, prog_10_method_8_code, 4, (some .boolean), 1, 1, [5100, 5099, 32, 1010]) := rfl
theorem mm_cw_157 : mm_cwd (8, ⟨"RaftTown$Tape", "readNot", "(I)Z"⟩, prog_10_method_9_code, 3, (some .boolean), 1, 1, [5104, 5103, 33, 1010]) := rfl
theorem mm_cw_158 : mm_cwd (8, ⟨"RaftTown$Tape", "readComparison", "(I)Z"⟩, prog_10_method_10_code, 4, (some .boolean), 1, 1, [5108, 5107, 34, 1010]) := rfl
theorem mm_cw_159 : mm_cwd (8, ⟨"RaftTown$Tape", "readSum", "(I)Z"⟩, prog_10_method_11_code, 5, (some .boolean), 1, 1, [5112, 5111, 35, 1010]) := rfl
theorem mm_cws_3 : ∀ t ∈ mm_mths_3, mm_cwd t := List.forall_mem_cons.mpr ⟨mm_cw_120, List.forall_mem_cons.mpr ⟨mm_cw_121, List.forall_mem_cons.mpr ⟨mm_cw_122, List.forall_mem_cons.mpr ⟨mm_cw_123, List.forall_mem_cons.mpr ⟨mm_cw_124, List.forall_mem_cons.mpr ⟨mm_cw_125, List.forall_mem_cons.mpr ⟨mm_cw_126, List.forall_mem_cons.mpr ⟨mm_cw_127, List.forall_mem_cons.mpr ⟨mm_cw_128, List.forall_mem_cons.mpr ⟨mm_cw_129, List.forall_mem_cons.mpr ⟨mm_cw_130, List.forall_mem_cons.mpr ⟨mm_cw_131, List.forall_mem_cons.mpr ⟨mm_cw_132, List.forall_mem_cons.mpr ⟨mm_cw_133, List.forall_mem_cons.mpr ⟨mm_cw_134, List.forall_mem_cons.mpr ⟨mm_cw_135, List.forall_mem_cons.mpr ⟨mm_cw_136, List.forall_mem_cons.mpr ⟨mm_cw_137, List.forall_mem_cons.mpr ⟨mm_cw_138, List.forall_mem_cons.mpr ⟨mm_cw_139, List.forall_mem_cons.mpr ⟨mm_cw_140, List.forall_mem_cons.mpr ⟨mm_cw_141, List.forall_mem_cons.mpr ⟨mm_cw_142, List.forall_mem_cons.mpr ⟨mm_cw_143, List.forall_mem_cons.mpr ⟨mm_cw_144, List.forall_mem_cons.mpr ⟨mm_cw_145, List.forall_mem_cons.mpr ⟨mm_cw_146, List.forall_mem_cons.mpr ⟨mm_cw_147, List.forall_mem_cons.mpr ⟨mm_cw_148, List.forall_mem_cons.mpr ⟨mm_cw_149, List.forall_mem_cons.mpr ⟨mm_cw_150, List.forall_mem_cons.mpr ⟨mm_cw_151, List.forall_mem_cons.mpr ⟨mm_cw_152, List.forall_mem_cons.mpr ⟨mm_cw_153, List.forall_mem_cons.mpr ⟨mm_cw_154, List.forall_mem_cons.mpr ⟨mm_cw_155, List.forall_mem_cons.mpr ⟨mm_cw_156, List.forall_mem_cons.mpr ⟨mm_cw_157, List.forall_mem_cons.mpr ⟨mm_cw_158, List.forall_mem_cons.mpr ⟨mm_cw_159, fun _ h => absurd h List.not_mem_nil⟩⟩⟩⟩⟩⟩⟩⟩⟩⟩⟩⟩⟩⟩⟩⟩⟩⟩⟩⟩⟩⟩⟩⟩⟩⟩⟩⟩⟩⟩⟩⟩⟩⟩⟩⟩⟩⟩⟩⟩
set_option maxRecDepth 100000 in
theorem mm_mths_4_ok : mm_mths_4.all mm_mchk = true := by decide +kernel
theorem mm_cw_160 : mm_cwd (8, ⟨"RaftTown$Tape", "readOne", "(I)Z"⟩, prog_10_method_12_code, 2, (some .boolean), 1, 1, [5116, 5115, 36, 1010]) := rfl
theorem mm_cw_161 : mm_cwd (9, ⟨"RaftTown$Text", "addNumber", "(I)V"⟩, prog_11_method_4_code, 2, (none), 1, 1, [5120, 5118, 5119, 1008]) := rfl
theorem mm_cw_162 : mm_cwd (9, ⟨"RaftTown$Text", "addToken", "(I)V"⟩, prog_11_method_5_code, 2, (none), 1, 1, [5124, 5122, 5123, 1008]) := rfl
theorem mm_cw_163 : mm_cwd (9, ⟨"RaftTown$Text", "endClause", "(I)V"⟩, prog_11_method_6_code, 2, (none), 1, 1, [5129, 5127, 5128, 1008]) := rfl
theorem mm_cw_164 : mm_cwd (9, ⟨"RaftTown$Text", "take", "(LRaftTown$Text;)V"⟩, prog_11_method_2_code, 2, (none), 1, 1, [5134, 5132, 5133, 1008]) := rfl
theorem mm_cw_165 : mm_cwd (11, ⟨"RaftTown", "force", "(II)I"⟩, prog_1_method_24_code, 3, (some .int), 2, 1, [5142, 5140, 5141, 1001]) := rfl
theorem mm_cw_166 : mm_cwd (1, ⟨"RaftTown$Log", "addLaw", "(III)I"⟩, prog_3_method_6_code, 5, (some .int), 3, 1, [5146, 5144, 5145, 1004]) := rfl
theorem mm_cw_167 : mm_cwd (11, ⟨"RaftTown", "law", "(I)I"⟩, prog_1_method_25_code, 3, (some .int), 1, 1, [5151, 5149, 5150, 1001]) := rfl
theorem mm_cw_168 : mm_cwd (11, ⟨"RaftTown", "lawAt", "(I)I"⟩, prog_1_method_44_code, 3, (some .int), 1, 1, [5155, 5154, 37, 1001]) := rfl
theorem mm_cw_169 : mm_cwd (11, ⟨"RaftTown", "may", "(II)I"⟩, prog_1_method_26_code, 5, (some .int), 2, 1, [5159, 5157, 5158, 1001]) := rfl
theorem mm_cw_170 : mm_cwd (11, ⟨"RaftTown", "must", "(II)I"⟩, prog_1_method_27_code, 4, (some .int), 2, 1, [5163, 5161, 5162, 1001]) := rfl
theorem mm_cw_171 : mm_cwd (0, ⟨"RaftTown$Judge", "nameRafts", "(LRaftTown$Town;III)V"⟩, prog_2_method_4_code, 5, (none), 4, 1, [5167, 5165, 5166, 1012]) := rfl
theorem mm_cw_172 : mm_cwd (11, ⟨"RaftTown", "speaks", "(I)I"⟩, prog_1_method_28_code, 8, (some .int), 1, 1, [5171, 5169, 5170, 1001]) := rfl
theorem mm_cw_173 : mm_cwd (0, ⟨"RaftTown$Judge", "namePerson", "(LRaftTown$Town;II)V"⟩, prog_2_method_5_code, 4, (none), 3, 1, [5176, 5174, 5175, 1012]) := rfl
theorem mm_cw_174 : mm_cwd (11, ⟨"RaftTown", "events", "(I)I"⟩, prog_1_method_29_code, 2, (some .int), 1, 1, [5184, 5182, 5183, 1001]) := rfl
theorem mm_cw_175 : mm_cwd (1, ⟨"RaftTown$Log", "countKnown", "(I)I"⟩, prog_3_method_8_code, 4, (some .int), 1, 1, [5188, 5186, 5187, 1004]) := rfl
theorem mm_cw_176 : mm_cwd (11, ⟨"RaftTown", "event", "(II)I"⟩, prog_1_method_30_code, 3, (some .int), 2, 1, [5192, 5190, 5191, 1001]) := rfl
theorem mm_cw_177 : mm_cwd (1, ⟨"RaftTown$Log", "detail", "(II)I"⟩, prog_3_method_4_code, 4, (some .int), 2, 1, [5196, 5194, 5195, 1004]) := rfl
theorem mm_cw_178 : mm_cwd (11, ⟨"RaftTown", "lash", "(II)I"⟩, prog_1_method_31_code, 4, (some .int), 2, 1, [5200, 5198, 5199, 1001]) := rfl
theorem mm_cw_179 : mm_cwd (2, ⟨"RaftTown$Net", "fewestLashings", "(II)I"⟩, prog_4_method_21_code, 11, (some .int), 2, 1, [5204, 5202, 5203, 1011]) := rfl
theorem mm_cw_180 : mm_cwd (2, ⟨"RaftTown$Net", "ropesOf", "(I)I"⟩, prog_4_method_20_code, 4, (some .int), 1, 1, [5208, 5207, 38, 1011]) := rfl
theorem mm_cw_181 : mm_cwd (2, ⟨"RaftTown$Net", "doomed", "(I)I"⟩, prog_4_method_18_code, 5, (some .int), 1, 1, [5212, 5211, 39, 1011]) := rfl
theorem mm_cw_182 : mm_cwd (2, ⟨"RaftTown$Net", "doomedOf", "(II)I"⟩, prog_4_method_19_code, 6, (some .int), 2, 1, [5216, 5215, 40, 1011]) := rfl
theorem mm_cw_183 : mm_cwd (2, ⟨"RaftTown$Net", "isBridge", "(II)Z"⟩, prog_4_method_16_code, 4, (some .boolean), 2, 1, [5220, 5219, 41, 1011]) := rfl
theorem mm_cw_184 : mm_cwd (2, ⟨"RaftTown$Net", "bridgesOf", "(I)I"⟩, prog_4_method_17_code, 4, (some .int), 1, 1, [5224, 5223, 42, 1011]) := rfl
theorem mm_cw_185 : mm_cwd (2, ⟨"RaftTown$Net", "holds", "(II)Z"⟩, prog_4_method_15_code, 4, (some .boolean), 2, 1, [5229, 5228, 43, 1011]) := rfl
theorem mm_cw_186 : mm_cwd (11, ⟨"RaftTown", "storm", "(IZ)I"⟩, prog_1_method_32_code, 4, (some .int), 2, 1, [5233, 5231, 5232, 1001]) := rfl
theorem mm_cw_187 : mm_cwd (2, ⟨"RaftTown$Net", "bestCuts", "(I)I"⟩, prog_4_method_24_code, 5, (some .int), 1, 1, [5237, 5235, 5236, 1011]) := rfl
theorem mm_cw_188 : mm_cwd (2, ⟨"RaftTown$Net", "mostKept", "(II)I"⟩, prog_4_method_22_code, 6, (some .int), 2, 1, [6001, 6000, 44, 1011]) := rfl
theorem mm_cw_189 : mm_cwd (2, ⟨"RaftTown$Net", "lostBy", "(III)I"⟩, prog_4_method_23_code, 5, (some .int), 3, 1, [6005, 6003, 6004, 1011]) := rfl
theorem mm_cw_190 : mm_cwd (11, ⟨"RaftTown", "proves", "(III)I"⟩, prog_1_method_33_code, 6, (some .int), 3, 1, [6011, 6009, 6010, 1001]) := rfl
theorem mm_cw_191 : mm_cwd (2, ⟨"RaftTown$Net", "firstUnproved", "(IILRaftTown$Sheet;)I"⟩, prog_4_method_25_code, 7, (some .int), 3, 1, [6016, 6014, 6015, 1011]) := rfl
theorem mm_cw_192 : mm_cwd (11, ⟨"RaftTown", "patch", "(II)I"⟩, prog_1_method_34_code, 4, (some .int), 2, 1, [6021, 6019, 6020, 1001]) := rfl
theorem mm_cw_193 : mm_cwd (11, ⟨"RaftTown", "hasSail", "(I)Z"⟩, prog_1_method_46_code, 2, (some .boolean), 1, 1, [6025, 6024, 45, 1001]) := rfl
theorem mm_cw_194 : mm_cwd (6, ⟨"RaftTown$Sea", "patchSize", "(IIZ)I"⟩, prog_8_method_7_code, 8, (some .int), 3, 1, [6029, 6027, 6028, 1003]) := rfl
theorem mm_cw_195 : mm_cwd (6, ⟨"RaftTown$Sea", "aDayOn", "(J)J"⟩, prog_8_method_9_code, 6, (some .long), 1, 1, [6038, 6037, 46, 1003]) := rfl
theorem mm_cw_196 : mm_cwd (19, ⟨"java/lang/Long", "bitCount", "(J)I"⟩, prog_16_method_50_code, 2, (some .int), 1, 0, [6041, 6040, 0, 1021]) := rfl
theorem mm_cw_197 : mm_cwd (11, ⟨"RaftTown", "tow", "(II)I"⟩, prog_1_method_35_code, 6, (some .int), 2, 1, [6048, 6046, 6047, 1001]) := rfl
theorem mm_cw_198 : mm_cwd (6, ⟨"RaftTown$Sea", "soonest", "(IIZ)I"⟩, prog_8_method_8_code, 9, (some .int), 3, 1, [6052, 6050, 6051, 1003]) := rfl
theorem mm_cw_199 : mm_cwd (11, ⟨"RaftTown", "sheet", "(III)I"⟩, prog_1_method_36_code, 4, (some .int), 3, 1, [6056, 6054, 6055, 1001]) := rfl
theorem mm_cws_4 : ∀ t ∈ mm_mths_4, mm_cwd t := List.forall_mem_cons.mpr ⟨mm_cw_160, List.forall_mem_cons.mpr ⟨mm_cw_161, List.forall_mem_cons.mpr ⟨mm_cw_162, List.forall_mem_cons.mpr ⟨mm_cw_163, List.forall_mem_cons.mpr ⟨mm_cw_164, List.forall_mem_cons.mpr ⟨mm_cw_165, List.forall_mem_cons.mpr ⟨mm_cw_166, List.forall_mem_cons.mpr ⟨mm_cw_167, List.forall_mem_cons.mpr ⟨mm_cw_168, List.forall_mem_cons.mpr ⟨mm_cw_169, List.forall_mem_cons.mpr ⟨mm_cw_170, List.forall_mem_cons.mpr ⟨mm_cw_171, List.forall_mem_cons.mpr ⟨mm_cw_172, List.forall_mem_cons.mpr ⟨mm_cw_173, List.forall_mem_cons.mpr ⟨mm_cw_174, List.forall_mem_cons.mpr ⟨mm_cw_175, List.forall_mem_cons.mpr ⟨mm_cw_176, List.forall_mem_cons.mpr ⟨mm_cw_177, List.forall_mem_cons.mpr ⟨mm_cw_178, List.forall_mem_cons.mpr ⟨mm_cw_179, List.forall_mem_cons.mpr ⟨mm_cw_180, List.forall_mem_cons.mpr ⟨mm_cw_181, List.forall_mem_cons.mpr ⟨mm_cw_182, List.forall_mem_cons.mpr ⟨mm_cw_183, List.forall_mem_cons.mpr ⟨mm_cw_184, List.forall_mem_cons.mpr ⟨mm_cw_185, List.forall_mem_cons.mpr ⟨mm_cw_186, List.forall_mem_cons.mpr ⟨mm_cw_187, List.forall_mem_cons.mpr ⟨mm_cw_188, List.forall_mem_cons.mpr ⟨mm_cw_189, List.forall_mem_cons.mpr ⟨mm_cw_190, List.forall_mem_cons.mpr ⟨mm_cw_191, List.forall_mem_cons.mpr ⟨mm_cw_192, List.forall_mem_cons.mpr ⟨mm_cw_193, List.forall_mem_cons.mpr ⟨mm_cw_194, List.forall_mem_cons.mpr ⟨mm_cw_195, List.forall_mem_cons.mpr ⟨mm_cw_196, List.forall_mem_cons.mpr ⟨mm_cw_197, List.forall_mem_cons.mpr ⟨mm_cw_198, List.forall_mem_cons.mpr ⟨mm_cw_199, fun _ h => absurd h List.not_mem_nil⟩⟩⟩⟩⟩⟩⟩⟩⟩⟩⟩⟩⟩⟩⟩⟩⟩⟩⟩⟩⟩⟩⟩⟩⟩⟩⟩⟩⟩⟩⟩⟩⟩⟩⟩⟩⟩⟩⟩⟩
set_option maxRecDepth 100000 in
theorem mm_mths_5_ok : mm_mths_5.all mm_mchk = true := by decide +kernel
theorem mm_cw_200 : mm_cwd (7, ⟨"RaftTown$Sheet", "rule", "(II)I"⟩, prog_9_method_3_code, 4, (some .int), 2, 1, [6060, 6058, 6059, 1009]) := rfl
theorem mm_cw_201 : mm_cwd (11, ⟨"RaftTown", "put", "(III)I"⟩, prog_1_method_37_code, 5, (some .int), 3, 1, [6064, 6062, 6063, 1001]) := rfl
theorem mm_cw_202 : mm_cwd (7, ⟨"RaftTown$Sheet", "write", "(II)V"⟩, prog_9_method_4_code, 3, (none), 2, 1, [6068, 6066, 6067, 1009]) := rfl
theorem mm_cw_203 : mm_cwd (11, ⟨"RaftTown", "copy", "(IIIII)I"⟩, prog_1_method_38_code, 8, (some .int), 5, 1, [6073, 6071, 6072, 1001]) := rfl
theorem mm_cw_204 : mm_cwd (7, ⟨"RaftTown$Sheet", "hasRun", "(II)Z"⟩, prog_9_method_6_code, 3, (some .boolean), 2, 1, [6077, 6075, 6076, 1009]) := rfl
theorem mm_cw_205 : mm_cwd (11, ⟨"RaftTown", "image", "()I"⟩, prog_1_method_39_code, 1, (some .int), 0, 1, [6082, 6080, 6081, 1001]) := rfl
theorem mm_cw_206 : mm_cwd (10, ⟨"RaftTown$Town", "take", "(LRaftTown$Town;)V"⟩, prog_12_method_2_code, 3, (none), 1, 1, [6086, 6084, 6085, 1002]) := rfl
theorem mm_cw_207 : mm_cwd (6, ⟨"RaftTown$Sea", "take", "(LRaftTown$Sea;)V"⟩, prog_8_method_2_code, 2, (none), 1, 1, [6090, 6088, 6089, 1003]) := rfl
theorem mm_cw_208 : mm_cwd (4, ⟨"RaftTown$Raft", "take", "(LRaftTown$Raft;)V"⟩, prog_6_method_2_code, 2, (none), 1, 1, [6095, 6093, 6094, 1005]) := rfl
theorem mm_cw_209 : mm_cwd (3, ⟨"RaftTown$Person", "take", "(LRaftTown$Person;)V"⟩, prog_5_method_2_code, 2, (none), 1, 1, [6100, 6098, 6099, 1006]) := rfl
theorem mm_cw_210 : mm_cwd (5, ⟨"RaftTown$Rope", "take", "(LRaftTown$Rope;)V"⟩, prog_7_method_2_code, 2, (none), 1, 1, [6105, 6103, 6104, 1007]) := rfl
theorem mm_cw_211 : mm_cwd (1, ⟨"RaftTown$Log", "take", "(LRaftTown$Log;)V"⟩, prog_3_method_2_code, 2, (none), 1, 1, [6110, 6108, 6109, 1004]) := rfl
theorem mm_cw_212 : mm_cwd (11, ⟨"RaftTown", "restore", "()I"⟩, prog_1_method_40_code, 1, (some .int), 0, 1, [6116, 6114, 6115, 1001]) := rfl
theorem mm_cw_213 : mm_cwd (11, ⟨"RaftTown", "count", "(I)I"⟩, prog_1_method_41_code, 2, (some .int), 1, 1, [6120, 6118, 6119, 1001]) := rfl
theorem mm_cw_214 : mm_cwd (10, ⟨"RaftTown$Town", "countAfloat", "()I"⟩, prog_12_method_22_code, 3, (some .int), 0, 1, [6124, 6122, 6123, 1002]) := rfl
theorem mm_cw_215 : mm_cwd (10, ⟨"RaftTown$Town", "countAlive", "()I"⟩, prog_12_method_23_code, 3, (some .int), 0, 1, [6128, 6126, 6127, 1002]) := rfl
theorem mm_cw_216 : mm_cwd (10, ⟨"RaftTown$Town", "countRopes", "()I"⟩, prog_12_method_24_code, 3, (some .int), 0, 1, [6132, 6130, 6131, 1002]) := rfl
theorem mm_cw_217 : mm_cwd (10, ⟨"RaftTown$Town", "countCasks", "()I"⟩, prog_12_method_25_code, 3, (some .int), 0, 1, [6136, 6134, 6135, 1002]) := rfl
theorem mm_cw_218 : mm_cwd (12, ⟨"RaftTownModel", "<init>", "()V"⟩, prog_14_method_1_code, 1, (none), 0, 2, [6141, 6140, 0, 1013]) := rfl
theorem mm_cw_219 : mm_cwd (12, ⟨"RaftTownModel", "stream", "(III)I"⟩, prog_14_method_12_code, 4, (some .int), 3, 1, [6227, 6225, 6226, 1013]) := rfl
theorem mm_cw_220 : mm_cwd (12, ⟨"RaftTownModel", "in", "(III)Z"⟩, prog_14_method_3_code, 3, (some .boolean), 3, 0, [6230, 6229, 0, 1013]) := rfl
theorem mm_cw_221 : mm_cwd (12, ⟨"RaftTownModel", "finds", "(I)I"⟩, prog_14_method_4_code, 2, (some .int), 1, 1, [6235, 6234, 47, 1013]) := rfl
theorem mm_cw_222 : mm_cwd (12, ⟨"RaftTownModel", "raft", "(IIII)I"⟩, prog_14_method_13_code, 6, (some .int), 4, 1, [6239, 6237, 6238, 1013]) := rfl
theorem mm_cw_223 : mm_cwd (12, ⟨"RaftTownModel", "makes", "(III)V"⟩, prog_14_method_10_code, 4, (none), 3, 1, [7004, 7003, 48, 1013]) := rfl
theorem mm_cw_224 : mm_cwd (12, ⟨"RaftTownModel", "as", "(II)I"⟩, prog_14_method_14_code, 4, (some .int), 2, 1, [7008, 7006, 7007, 1013]) := rfl
theorem mm_cw_225 : mm_cwd (12, ⟨"RaftTownModel", "isFloat", "(I)Z"⟩, prog_14_method_5_code, 2, (some .boolean), 1, 1, [7012, 7011, 49, 1013]) := rfl
theorem mm_cw_226 : mm_cwd (12, ⟨"RaftTownModel", "own", "(II)I"⟩, prog_14_method_9_code, 3, (some .int), 2, 1, [7016, 7015, 50, 1013]) := rfl
theorem mm_cw_227 : mm_cwd (12, ⟨"RaftTownModel", "raftIs", "(II)I"⟩, prog_14_method_17_code, 3, (some .int), 2, 1, [7021, 7019, 7020, 1013]) := rfl
theorem mm_cw_228 : mm_cwd (12, ⟨"RaftTownModel", "weightOf", "(I)I"⟩, prog_14_method_16_code, 4, (some .int), 1, 1, [7025, 7024, 51, 1013]) := rfl
theorem mm_cw_229 : mm_cwd (12, ⟨"RaftTownModel", "isOn", "(II)Z"⟩, prog_14_method_23_code, 3, (some .boolean), 2, 1, [7029, 7028, 52, 1013]) := rfl
theorem mm_cw_230 : mm_cwd (12, ⟨"RaftTownModel", "isLost", "(I)Z"⟩, prog_14_method_22_code, 2, (some .boolean), 1, 1, [7033, 7032, 53, 1013]) := rfl
theorem mm_cw_231 : mm_cwd (12, ⟨"RaftTownModel", "ofPerson", "(II)I"⟩, prog_14_method_21_code, 3, (some .int), 2, 1, [7037, 7036, 54, 1013]) := rfl
theorem mm_cw_232 : mm_cwd (12, ⟨"RaftTownModel", "areaOf", "(I)I"⟩, prog_14_method_15_code, 3, (some .int), 1, 1, [7041, 7040, 55, 1013]) := rfl
theorem mm_cw_233 : mm_cwd (12, ⟨"RaftTownModel", "allRopes", "()I"⟩, prog_14_method_32_code, 3, (some .int), 0, 1, [7045, 7044, 56, 1013]) := rfl
theorem mm_cw_234 : mm_cwd (12, ⟨"RaftTownModel", "isLaid", "(I)Z"⟩, prog_14_method_31_code, 2, (some .boolean), 1, 1, [7049, 7048, 57, 1013]) := rfl
theorem mm_cw_235 : mm_cwd (12, ⟨"RaftTownModel", "ofRope", "(II)I"⟩, prog_14_method_30_code, 3, (some .int), 2, 1, [7053, 7052, 58, 1013]) := rfl
theorem mm_cw_236 : mm_cwd (12, ⟨"RaftTownModel", "partOf", "(II)I"⟩, prog_14_method_33_code, 8, (some .int), 2, 1, [7057, 7056, 59, 1013]) := rfl
theorem mm_cw_237 : mm_cwd (12, ⟨"RaftTownModel", "leastOf", "(I)I"⟩, prog_14_method_34_code, 2, (some .int), 1, 0, [7060, 7059, 0, 1013]) := rfl
theorem mm_cw_238 : mm_cwd (12, ⟨"RaftTownModel", "load", "(IIZ)I"⟩, prog_14_method_19_code, 5, (some .int), 3, 1, [7064, 7062, 7063, 1013]) := rfl
theorem mm_cw_239 : mm_cwd (12, ⟨"RaftTownModel", "isSunk", "(I)Z"⟩, prog_14_method_11_code, 2, (some .boolean), 1, 1, [7068, 7067, 60, 1013]) := rfl
theorem mm_cws_5 : ∀ t ∈ mm_mths_5, mm_cwd t := List.forall_mem_cons.mpr ⟨mm_cw_200, List.forall_mem_cons.mpr ⟨mm_cw_201, List.forall_mem_cons.mpr ⟨mm_cw_202, List.forall_mem_cons.mpr ⟨mm_cw_203, List.forall_mem_cons.mpr ⟨mm_cw_204, List.forall_mem_cons.mpr ⟨mm_cw_205, List.forall_mem_cons.mpr ⟨mm_cw_206, List.forall_mem_cons.mpr ⟨mm_cw_207, List.forall_mem_cons.mpr ⟨mm_cw_208, List.forall_mem_cons.mpr ⟨mm_cw_209, List.forall_mem_cons.mpr ⟨mm_cw_210, List.forall_mem_cons.mpr ⟨mm_cw_211, List.forall_mem_cons.mpr ⟨mm_cw_212, List.forall_mem_cons.mpr ⟨mm_cw_213, List.forall_mem_cons.mpr ⟨mm_cw_214, List.forall_mem_cons.mpr ⟨mm_cw_215, List.forall_mem_cons.mpr ⟨mm_cw_216, List.forall_mem_cons.mpr ⟨mm_cw_217, List.forall_mem_cons.mpr ⟨mm_cw_218, List.forall_mem_cons.mpr ⟨mm_cw_219, List.forall_mem_cons.mpr ⟨mm_cw_220, List.forall_mem_cons.mpr ⟨mm_cw_221, List.forall_mem_cons.mpr ⟨mm_cw_222, List.forall_mem_cons.mpr ⟨mm_cw_223, List.forall_mem_cons.mpr ⟨mm_cw_224, List.forall_mem_cons.mpr ⟨mm_cw_225, List.forall_mem_cons.mpr ⟨mm_cw_226, List.forall_mem_cons.mpr ⟨mm_cw_227, List.forall_mem_cons.mpr ⟨mm_cw_228, List.forall_mem_cons.mpr ⟨mm_cw_229, List.forall_mem_cons.mpr ⟨mm_cw_230, List.forall_mem_cons.mpr ⟨mm_cw_231, List.forall_mem_cons.mpr ⟨mm_cw_232, List.forall_mem_cons.mpr ⟨mm_cw_233, List.forall_mem_cons.mpr ⟨mm_cw_234, List.forall_mem_cons.mpr ⟨mm_cw_235, List.forall_mem_cons.mpr ⟨mm_cw_236, List.forall_mem_cons.mpr ⟨mm_cw_237, List.forall_mem_cons.mpr ⟨mm_cw_238, List.forall_mem_cons.mpr ⟨mm_cw_239, fun _ h => absurd h List.not_mem_nil⟩⟩⟩⟩⟩⟩⟩⟩⟩⟩⟩⟩⟩⟩⟩⟩⟩⟩⟩⟩⟩⟩⟩⟩⟩⟩⟩⟩⟩⟩⟩⟩⟩⟩⟩⟩⟩⟩⟩⟩
set_option maxRecDepth 100000 in
theorem mm_mths_6_ok : mm_mths_6.all mm_mchk = true := by decide +kernel
theorem mm_cw_240 : mm_cwd (12, ⟨"RaftTownModel", "roomOf", "(I)I"⟩, prog_14_method_18_code, 2, (some .int), 1, 1, [7073, 7072, 61, 1013]) := rfl
theorem mm_cw_241 : mm_cwd (12, ⟨"RaftTownModel", "trade", "(IIIZ)I"⟩, prog_14_method_20_code, 6, (some .int), 4, 1, [7077, 7075, 7076, 1013]) := rfl
theorem mm_cw_242 : mm_cwd (12, ⟨"RaftTownModel", "person", "(IIII)I"⟩, prog_14_method_24_code, 7, (some .int), 4, 1, [7084, 7082, 7083, 1013]) := rfl
theorem mm_cw_243 : mm_cwd (12, ⟨"RaftTownModel", "wed", "(II)I"⟩, prog_14_method_25_code, 3, (some .int), 2, 1, [7088, 7086, 7087, 1013]) := rfl
theorem mm_cw_244 : mm_cwd (12, ⟨"RaftTownModel", "isPerson", "(I)Z"⟩, prog_14_method_6_code, 2, (some .boolean), 1, 1, [7092, 7091, 62, 1013]) := rfl
theorem mm_cw_245 : mm_cwd (12, ⟨"RaftTownModel", "move", "(II)I"⟩, prog_14_method_26_code, 4, (some .int), 2, 1, [7097, 7095, 7096, 1013]) := rfl
theorem mm_cw_246 : mm_cwd (12, ⟨"RaftTownModel", "personIs", "(II)I"⟩, prog_14_method_29_code, 5, (some .int), 2, 1, [7101, 7099, 7100, 1013]) := rfl
theorem mm_cw_247 : mm_cwd (12, ⟨"RaftTownModel", "areKin", "(II)Z"⟩, prog_14_method_28_code, 3, (some .boolean), 2, 1, [7105, 7104, 63, 1013]) := rfl
theorem mm_cw_248 : mm_cwd (12, ⟨"RaftTownModel", "isParent", "(II)Z"⟩, prog_14_method_27_code, 3, (some .boolean), 2, 1, [7109, 7108, 64, 1013]) := rfl
theorem mm_cw_249 : mm_cwd (12, ⟨"RaftTownModel", "parts", "()I"⟩, prog_14_method_37_code, 1, (some .int), 0, 1, [7113, 7111, 7112, 1013]) := rfl
theorem mm_cw_250 : mm_cwd (12, ⟨"RaftTownModel", "partMany", "()I"⟩, prog_14_method_36_code, 4, (some .int), 0, 1, [7117, 7116, 65, 1013]) := rfl
theorem mm_cw_251 : mm_cwd (12, ⟨"RaftTownModel", "part", "(I)I"⟩, prog_14_method_38_code, 2, (some .int), 1, 1, [7121, 7119, 7120, 1013]) := rfl
theorem mm_cw_252 : mm_cwd (12, ⟨"RaftTownModel", "tie", "(IIIII)I"⟩, prog_14_method_40_code, 9, (some .int), 5, 1, [7125, 7123, 7124, 1013]) := rfl
theorem mm_cw_253 : mm_cwd (12, ⟨"RaftTownModel", "hasRoom", "(II)Z"⟩, prog_14_method_39_code, 5, (some .boolean), 2, 1, [7129, 7128, 66, 1013]) := rfl
theorem mm_cw_254 : mm_cwd (12, ⟨"RaftTownModel", "tellsOn", "(I)V"⟩, prog_14_method_51_code, 3, (none), 1, 1, [7133, 7132, 67, 1013]) := rfl
theorem mm_cw_255 : mm_cwd (12, ⟨"RaftTownModel", "happens", "(III)V"⟩, prog_14_method_50_code, 5, (none), 3, 1, [7137, 7136, 68, 1013]) := rfl
theorem mm_cw_256 : mm_cwd (12, ⟨"RaftTownModel", "rope", "(II)I"⟩, prog_14_method_47_code, 3, (some .int), 2, 1, [7141, 7139, 7140, 1013]) := rfl
theorem mm_cw_257 : mm_cwd (12, ⟨"RaftTownModel", "isRope", "(I)Z"⟩, prog_14_method_7_code, 2, (some .boolean), 1, 1, [7145, 7144, 69, 1013]) := rfl
theorem mm_cw_258 : mm_cwd (12, ⟨"RaftTownModel", "strengthOf", "(I)I"⟩, prog_14_method_41_code, 3, (some .int), 1, 1, [7149, 7148, 70, 1013]) := rfl
theorem mm_cw_259 : mm_cwd (12, ⟨"RaftTownModel", "weighs", "()V"⟩, prog_14_method_43_code, 2, (none), 0, 1, [7153, 7152, 71, 1013]) := rfl
theorem mm_cw_260 : mm_cwd (12, ⟨"RaftTownModel", "hangOf", "(II)I"⟩, prog_14_method_44_code, 8, (some .int), 2, 1, [7157, 7156, 72, 1013]) := rfl
theorem mm_cw_261 : mm_cwd (12, ⟨"RaftTownModel", "weightOfAll", "(I)I"⟩, prog_14_method_42_code, 4, (some .int), 1, 1, [7161, 7160, 73, 1013]) := rfl
theorem mm_cw_262 : mm_cwd (12, ⟨"RaftTownModel", "bears", "(II)I"⟩, prog_14_method_48_code, 3, (some .int), 2, 1, [7165, 7163, 7164, 1013]) := rfl
theorem mm_cw_263 : mm_cwd (12, ⟨"RaftTownModel", "isWaves", "(I)Z"⟩, prog_14_method_8_code, 1, (some .boolean), 1, 0, [7168, 7167, 0, 1013]) := rfl
theorem mm_cw_264 : mm_cwd (12, ⟨"RaftTownModel", "loadOf", "(III)I"⟩, prog_14_method_45_code, 4, (some .int), 3, 1, [7172, 7171, 74, 1013]) := rfl
theorem mm_cw_265 : mm_cwd (12, ⟨"RaftTownModel", "worst", "(II)I"⟩, prog_14_method_49_code, 6, (some .int), 2, 1, [7176, 7174, 7175, 1013]) := rfl
theorem mm_cw_266 : mm_cwd (12, ⟨"RaftTownModel", "partsFirst", "(II)I"⟩, prog_14_method_46_code, 7, (some .int), 2, 1, [7180, 7179, 75, 1013]) := rfl
theorem mm_cw_267 : mm_cwd (12, ⟨"RaftTownModel", "events", "(I)I"⟩, prog_14_method_52_code, 4, (some .int), 1, 1, [7184, 7182, 7183, 1013]) := rfl
theorem mm_cw_268 : mm_cwd (12, ⟨"RaftTownModel", "event", "(II)I"⟩, prog_14_method_53_code, 3, (some .int), 2, 1, [7188, 7186, 7187, 1013]) := rfl
theorem mm_cw_269 : mm_cwd (12, ⟨"RaftTownModel", "day", "(II)I"⟩, prog_14_method_65_code, 3, (some .int), 2, 1, [7192, 7190, 7191, 1013]) := rfl
theorem mm_cw_270 : mm_cwd (12, ⟨"RaftTownModel", "passes", "(II)I"⟩, prog_14_method_64_code, 4, (some .int), 2, 1, [7196, 7195, 76, 1013]) := rfl
theorem mm_cw_271 : mm_cwd (12, ⟨"RaftTownModel", "partsAll", "(I)I"⟩, prog_14_method_55_code, 5, (some .int), 1, 1, [7200, 7199, 77, 1013]) := rfl
theorem mm_cw_272 : mm_cwd (12, ⟨"RaftTownModel", "rains", "(I)V"⟩, prog_14_method_56_code, 4, (none), 1, 1, [7204, 7203, 78, 1013]) := rfl
theorem mm_cw_273 : mm_cwd (12, ⟨"RaftTownModel", "drinks", "(I)Z"⟩, prog_14_method_57_code, 2, (some .boolean), 1, 1, [7208, 7207, 79, 1013]) := rfl
theorem mm_cw_274 : mm_cwd (12, ⟨"RaftTownModel", "allDrink", "()V"⟩, prog_14_method_58_code, 6, (none), 0, 1, [7212, 7211, 80, 1013]) := rfl
theorem mm_cw_275 : mm_cwd (12, ⟨"RaftTownModel", "loses", "(II)V"⟩, prog_14_method_54_code, 3, (none), 2, 1, [7216, 7215, 81, 1013]) := rfl
theorem mm_cw_276 : mm_cwd (12, ⟨"RaftTownModel", "ropesAge", "(I)V"⟩, prog_14_method_59_code, 3, (none), 1, 1, [7220, 7219, 82, 1013]) := rfl
theorem mm_cw_277 : mm_cwd (12, ⟨"RaftTownModel", "rots", "()V"⟩, prog_14_method_61_code, 2, (none), 0, 1, [7224, 7223, 83, 1013]) := rfl
theorem mm_cw_278 : mm_cwd (12, ⟨"RaftTownModel", "sinks", "(I)V"⟩, prog_14_method_60_code, 5, (none), 1, 1, [7228, 7227, 84, 1013]) := rfl
theorem mm_cw_279 : mm_cwd (12, ⟨"RaftTownModel", "drifts", "()V"⟩, prog_14_method_63_code, 2, (none), 0, 1, [7232, 7231, 85, 1013]) := rfl
theorem mm_cws_6 : ∀ t ∈ mm_mths_6, mm_cwd t := List.forall_mem_cons.mpr ⟨mm_cw_240, List.forall_mem_cons.mpr ⟨mm_cw_241, List.forall_mem_cons.mpr ⟨mm_cw_242, List.forall_mem_cons.mpr ⟨mm_cw_243, List.forall_mem_cons.mpr ⟨mm_cw_244, List.forall_mem_cons.mpr ⟨mm_cw_245, List.forall_mem_cons.mpr ⟨mm_cw_246, List.forall_mem_cons.mpr ⟨mm_cw_247, List.forall_mem_cons.mpr ⟨mm_cw_248, List.forall_mem_cons.mpr ⟨mm_cw_249, List.forall_mem_cons.mpr ⟨mm_cw_250, List.forall_mem_cons.mpr ⟨mm_cw_251, List.forall_mem_cons.mpr ⟨mm_cw_252, List.forall_mem_cons.mpr ⟨mm_cw_253, List.forall_mem_cons.mpr ⟨mm_cw_254, List.forall_mem_cons.mpr ⟨mm_cw_255, List.forall_mem_cons.mpr ⟨mm_cw_256, List.forall_mem_cons.mpr ⟨mm_cw_257, List.forall_mem_cons.mpr ⟨mm_cw_258, List.forall_mem_cons.mpr ⟨mm_cw_259, List.forall_mem_cons.mpr ⟨mm_cw_260, List.forall_mem_cons.mpr ⟨mm_cw_261, List.forall_mem_cons.mpr ⟨mm_cw_262, List.forall_mem_cons.mpr ⟨mm_cw_263, List.forall_mem_cons.mpr ⟨mm_cw_264, List.forall_mem_cons.mpr ⟨mm_cw_265, List.forall_mem_cons.mpr ⟨mm_cw_266, List.forall_mem_cons.mpr ⟨mm_cw_267, List.forall_mem_cons.mpr ⟨mm_cw_268, List.forall_mem_cons.mpr ⟨mm_cw_269, List.forall_mem_cons.mpr ⟨mm_cw_270, List.forall_mem_cons.mpr ⟨mm_cw_271, List.forall_mem_cons.mpr ⟨mm_cw_272, List.forall_mem_cons.mpr ⟨mm_cw_273, List.forall_mem_cons.mpr ⟨mm_cw_274, List.forall_mem_cons.mpr ⟨mm_cw_275, List.forall_mem_cons.mpr ⟨mm_cw_276, List.forall_mem_cons.mpr ⟨mm_cw_277, List.forall_mem_cons.mpr ⟨mm_cw_278, List.forall_mem_cons.mpr ⟨mm_cw_279, fun _ h => absurd h List.not_mem_nil⟩⟩⟩⟩⟩⟩⟩⟩⟩⟩⟩⟩⟩⟩⟩⟩⟩⟩⟩⟩⟩⟩⟩⟩⟩⟩⟩⟩⟩⟩⟩⟩⟩⟩⟩⟩⟩⟩⟩⟩
set_option maxRecDepth 100000 in
theorem mm_mths_7_ok : mm_mths_7.all mm_mchk = true := by decide +kernel
theorem mm_cw_280 : mm_cwd (12, ⟨"RaftTownModel", "leads", "(II)I"⟩, prog_14_method_62_code, 5, (some .int), 2, 1, [7236, 7235, 86, 1013]) := rfl
theorem mm_cw_281 : mm_cwd (12, ⟨"RaftTownModel", "days", "(II)I"⟩, prog_14_method_66_code, 8, (some .int), 2, 1, [8000, 7238, 7239, 1013]) := rfl
theorem mm_cw_282 : mm_cwd (12, ⟨"RaftTownModel", "isSheet", "(I)Z"⟩, prog_14_method_107_code, 1, (some .boolean), 1, 0, [8003, 8002, 0, 1013]) := rfl
theorem mm_cw_283 : mm_cwd (12, ⟨"RaftTownModel", "lasts", "(I)I"⟩, prog_14_method_69_code, 5, (some .int), 1, 1, [8007, 8005, 8006, 1013]) := rfl
theorem mm_cw_284 : mm_cwd (12, ⟨"RaftTownModel", "headsOf", "(I)I"⟩, prog_14_method_67_code, 4, (some .int), 1, 1, [8011, 8010, 87, 1013]) := rfl
theorem mm_cw_285 : mm_cwd (12, ⟨"RaftTownModel", "waterOf", "(I)I"⟩, prog_14_method_68_code, 4, (some .int), 1, 1, [8015, 8014, 88, 1013]) := rfl
theorem mm_cw_286 : mm_cwd (12, ⟨"RaftTownModel", "feed", "(IJ)I"⟩, prog_14_method_70_code, 5, (some .int), 2, 1, [8019, 8017, 8018, 1013]) := rfl
theorem mm_cw_287 : mm_cwd (12, ⟨"RaftTownModel", "text", "(I)I"⟩, prog_14_method_84_code, 4, (some .int), 1, 1, [8023, 8021, 8022, 1013]) := rfl
theorem mm_cw_288 : mm_cwd (12, ⟨"RaftTownModel", "reads", "()Z"⟩, prog_14_method_83_code, 2, (some .boolean), 0, 1, [8027, 8026, 89, 1013]) := rfl
theorem mm_cw_289 : mm_cwd (12, ⟨"RaftTownModel", "looks", "()V"⟩, prog_14_method_76_code, 2, (none), 0, 1, [8031, 8030, 90, 1013]) := rfl
theorem mm_cw_290 : mm_cwd (12, ⟨"RaftTownModel", "byteAt", "(I)I"⟩, prog_14_method_71_code, 2, (some .int), 1, 1, [8035, 8034, 91, 1013]) := rfl
theorem mm_cw_291 : mm_cwd (12, ⟨"RaftTownModel", "isLetter", "(I)Z"⟩, prog_14_method_72_code, 1, (some .boolean), 1, 0, [8038, 8037, 0, 1013]) := rfl
theorem mm_cw_292 : mm_cwd (12, ⟨"RaftTownModel", "wordOf", "()I"⟩, prog_14_method_75_code, 4, (some .int), 0, 1, [8042, 8041, 92, 1013]) := rfl
theorem mm_cw_293 : mm_cwd (12, ⟨"RaftTownModel", "isDigit", "(I)Z"⟩, prog_14_method_73_code, 1, (some .boolean), 1, 0, [8045, 8044, 0, 1013]) := rfl
theorem mm_cw_294 : mm_cwd (12, ⟨"RaftTownModel", "isSign", "(I)Z"⟩, prog_14_method_74_code, 1, (some .boolean), 1, 0, [8048, 8047, 0, 1013]) := rfl
theorem mm_cw_295 : mm_cwd (12, ⟨"RaftTownModel", "readsE", "(I)Z"⟩, prog_14_method_82_code, 5, (some .boolean), 1, 1, [8052, 8051, 93, 1013]) := rfl
theorem mm_cw_296 : mm_cwd (12, ⟨"RaftTownModel", "waitsOf", "(I)I"⟩, prog_14_method_80_code, 4, (some .int), 1, 1, [8056, 8055, 94, 1013]) := rfl
theorem mm_cw_297 : mm_cwd (12, ⟨"RaftTownModel", "lays", "(I)V"⟩, prog_14_method_78_code, 2, (none), 1, 1, [8060, 8059, 95, 1013]) := rfl
theorem mm_cw_298 : mm_cwd (12, ⟨"RaftTownModel", "settles", "(I)V"⟩, prog_14_method_79_code, 2, (none), 1, 1, [8064, 8063, 96, 1013]) := rfl
theorem mm_cw_299 : mm_cwd (12, ⟨"RaftTownModel", "rankOf", "(I)I"⟩, prog_14_method_77_code, 1, (some .int), 1, 0, [8067, 8066, 0, 1013]) := rfl
theorem mm_cw_300 : mm_cwd (12, ⟨"RaftTownModel", "isTested", "()Z"⟩, prog_14_method_81_code, 2, (some .boolean), 0, 1, [8071, 8070, 97, 1013]) := rfl
theorem mm_cw_301 : mm_cwd (12, ⟨"RaftTownModel", "force", "(II)I"⟩, prog_14_method_87_code, 5, (some .int), 2, 1, [8075, 8073, 8074, 1013]) := rfl
theorem mm_cw_302 : mm_cwd (12, ⟨"RaftTownModel", "law", "(I)I"⟩, prog_14_method_89_code, 3, (some .int), 1, 1, [8079, 8077, 8078, 1013]) := rfl
theorem mm_cw_303 : mm_cwd (12, ⟨"RaftTownModel", "lawOf", "(I)I"⟩, prog_14_method_88_code, 4, (some .int), 1, 1, [8083, 8082, 98, 1013]) := rfl
theorem mm_cw_304 : mm_cwd (12, ⟨"RaftTownModel", "cut", "(I)I"⟩, prog_14_method_93_code, 4, (some .int), 1, 1, [8087, 8085, 8086, 1013]) := rfl
theorem mm_cw_305 : mm_cwd (12, ⟨"RaftTownModel", "cutOf", "(IIII)I"⟩, prog_14_method_92_code, 5, (some .int), 4, 1, [8091, 8090, 99, 1013]) := rfl
theorem mm_cw_306 : mm_cwd (12, ⟨"RaftTownModel", "namesOf", "(I)V"⟩, prog_14_method_90_code, 3, (none), 1, 1, [8095, 8094, 100, 1013]) := rfl
theorem mm_cw_307 : mm_cwd (12, ⟨"RaftTownModel", "kinOn", "(II)I"⟩, prog_14_method_91_code, 6, (some .int), 2, 1, [8099, 8098, 101, 1013]) := rfl
theorem mm_cw_308 : mm_cwd (12, ⟨"RaftTownModel", "worth", "(II)I"⟩, prog_14_method_86_code, 7, (some .int), 2, 1, [8103, 8102, 102, 1013]) := rfl
theorem mm_cw_309 : mm_cwd (12, ⟨"RaftTownModel", "done", "(III)I"⟩, prog_14_method_85_code, 3, (some .int), 3, 0, [8106, 8105, 0, 1013]) := rfl
theorem mm_cw_310 : mm_cwd (12, ⟨"RaftTownModel", "may", "(II)I"⟩, prog_14_method_94_code, 5, (some .int), 2, 1, [8111, 8109, 8110, 1013]) := rfl
theorem mm_cw_311 : mm_cwd (12, ⟨"RaftTownModel", "must", "(II)I"⟩, prog_14_method_95_code, 4, (some .int), 2, 1, [8115, 8113, 8114, 1013]) := rfl
theorem mm_cw_312 : mm_cwd (12, ⟨"RaftTownModel", "speaks", "(I)I"⟩, prog_14_method_96_code, 8, (some .int), 1, 1, [8119, 8117, 8118, 1013]) := rfl
theorem mm_cw_313 : mm_cwd (12, ⟨"RaftTownModel", "lash", "(II)I"⟩, prog_14_method_98_code, 7, (some .int), 2, 1, [8123, 8121, 8122, 1013]) := rfl
theorem mm_cw_314 : mm_cwd (12, ⟨"RaftTownModel", "ones", "(I)I"⟩, prog_14_method_35_code, 3, (some .int), 1, 0, [8126, 8125, 0, 1013]) := rfl
theorem mm_cw_315 : mm_cwd (12, ⟨"RaftTownModel", "holds", "(II)Z"⟩, prog_14_method_97_code, 3, (some .boolean), 2, 1, [8130, 8129, 103, 1013]) := rfl
theorem mm_cw_316 : mm_cwd (12, ⟨"RaftTownModel", "storm", "(IZ)I"⟩, prog_14_method_100_code, 8, (some .int), 2, 1, [8134, 8132, 8133, 1013]) := rfl
theorem mm_cw_317 : mm_cwd (12, ⟨"RaftTownModel", "lostBy", "(II)I"⟩, prog_14_method_99_code, 6, (some .int), 2, 1, [8138, 8137, 104, 1013]) := rfl
theorem mm_cw_318 : mm_cwd (12, ⟨"RaftTownModel", "proves", "(III)I"⟩, prog_14_method_101_code, 8, (some .int), 3, 1, [8142, 8140, 8141, 1013]) := rfl
theorem mm_cw_319 : mm_cwd (12, ⟨"RaftTownModel", "patch", "(II)I"⟩, prog_14_method_105_code, 7, (some .int), 2, 1, [8146, 8144, 8145, 1013]) := rfl
theorem mm_cws_7 : ∀ t ∈ mm_mths_7, mm_cwd t := List.forall_mem_cons.mpr ⟨mm_cw_280, List.forall_mem_cons.mpr ⟨mm_cw_281, List.forall_mem_cons.mpr ⟨mm_cw_282, List.forall_mem_cons.mpr ⟨mm_cw_283, List.forall_mem_cons.mpr ⟨mm_cw_284, List.forall_mem_cons.mpr ⟨mm_cw_285, List.forall_mem_cons.mpr ⟨mm_cw_286, List.forall_mem_cons.mpr ⟨mm_cw_287, List.forall_mem_cons.mpr ⟨mm_cw_288, List.forall_mem_cons.mpr ⟨mm_cw_289, List.forall_mem_cons.mpr ⟨mm_cw_290, List.forall_mem_cons.mpr ⟨mm_cw_291, List.forall_mem_cons.mpr ⟨mm_cw_292, List.forall_mem_cons.mpr ⟨mm_cw_293, List.forall_mem_cons.mpr ⟨mm_cw_294, List.forall_mem_cons.mpr ⟨mm_cw_295, List.forall_mem_cons.mpr ⟨mm_cw_296, List.forall_mem_cons.mpr ⟨mm_cw_297, List.forall_mem_cons.mpr ⟨mm_cw_298, List.forall_mem_cons.mpr ⟨mm_cw_299, List.forall_mem_cons.mpr ⟨mm_cw_300, List.forall_mem_cons.mpr ⟨mm_cw_301, List.forall_mem_cons.mpr ⟨mm_cw_302, List.forall_mem_cons.mpr ⟨mm_cw_303, List.forall_mem_cons.mpr ⟨mm_cw_304, List.forall_mem_cons.mpr ⟨mm_cw_305, List.forall_mem_cons.mpr ⟨mm_cw_306, List.forall_mem_cons.mpr ⟨mm_cw_307, List.forall_mem_cons.mpr ⟨mm_cw_308, List.forall_mem_cons.mpr ⟨mm_cw_309, List.forall_mem_cons.mpr ⟨mm_cw_310, List.forall_mem_cons.mpr ⟨mm_cw_311, List.forall_mem_cons.mpr ⟨mm_cw_312, List.forall_mem_cons.mpr ⟨mm_cw_313, List.forall_mem_cons.mpr ⟨mm_cw_314, List.forall_mem_cons.mpr ⟨mm_cw_315, List.forall_mem_cons.mpr ⟨mm_cw_316, List.forall_mem_cons.mpr ⟨mm_cw_317, List.forall_mem_cons.mpr ⟨mm_cw_318, List.forall_mem_cons.mpr ⟨mm_cw_319, fun _ h => absurd h List.not_mem_nil⟩⟩⟩⟩⟩⟩⟩⟩⟩⟩⟩⟩⟩⟩⟩⟩⟩⟩⟩⟩⟩⟩⟩⟩⟩⟩⟩⟩⟩⟩⟩⟩⟩⟩⟩⟩⟩⟩⟩⟩
set_option maxRecDepth 100000 in
theorem mm_mths_8_ok : mm_mths_8.all mm_mchk = true := by decide +kernel
theorem mm_cw_320 : mm_cwd (12, ⟨"RaftTownModel", "hasSail", "(I)Z"⟩, prog_14_method_102_code, 3, (some .boolean), 1, 1, [8150, 8149, 105, 1013]) := rfl
theorem mm_cw_321 : mm_cwd (12, ⟨"RaftTownModel", "areNext", "(II)Z"⟩, prog_14_method_103_code, 4, (some .boolean), 2, 0, [8153, 8152, 0, 1013]) := rfl
theorem mm_cw_322 : mm_cwd (12, ⟨"RaftTownModel", "copies", "()V"⟩, prog_14_method_104_code, 2, (none), 0, 1, [8157, 8156, 106, 1013]) := rfl
theorem mm_cw_323 : mm_cwd (12, ⟨"RaftTownModel", "tow", "(II)I"⟩, prog_14_method_106_code, 8, (some .int), 2, 1, [8161, 8159, 8160, 1013]) := rfl
theorem mm_cw_324 : mm_cwd (12, ⟨"RaftTownModel", "sheet", "(III)I"⟩, prog_14_method_108_code, 5, (some .int), 3, 1, [8165, 8163, 8164, 1013]) := rfl
theorem mm_cw_325 : mm_cwd (12, ⟨"RaftTownModel", "put", "(III)I"⟩, prog_14_method_109_code, 4, (some .int), 3, 1, [8169, 8167, 8168, 1013]) := rfl
theorem mm_cw_326 : mm_cwd (12, ⟨"RaftTownModel", "copy", "(IIIII)I"⟩, prog_14_method_110_code, 7, (some .int), 5, 1, [8173, 8171, 8172, 1013]) := rfl
theorem mm_cw_327 : mm_cwd (12, ⟨"RaftTownModel", "image", "()I"⟩, prog_14_method_111_code, 2, (some .int), 0, 1, [8177, 8175, 8176, 1013]) := rfl
theorem mm_cw_328 : mm_cwd (12, ⟨"RaftTownModel", "restore", "()I"⟩, prog_14_method_112_code, 2, (some .int), 0, 1, [8181, 8179, 8180, 1013]) := rfl
theorem mm_cw_329 : mm_cwd (12, ⟨"RaftTownModel", "count", "(I)I"⟩, prog_14_method_113_code, 4, (some .int), 1, 1, [8185, 8183, 8184, 1013]) := rfl
theorem mm_cws_8 : ∀ t ∈ mm_mths_8, mm_cwd t := List.forall_mem_cons.mpr ⟨mm_cw_320, List.forall_mem_cons.mpr ⟨mm_cw_321, List.forall_mem_cons.mpr ⟨mm_cw_322, List.forall_mem_cons.mpr ⟨mm_cw_323, List.forall_mem_cons.mpr ⟨mm_cw_324, List.forall_mem_cons.mpr ⟨mm_cw_325, List.forall_mem_cons.mpr ⟨mm_cw_326, List.forall_mem_cons.mpr ⟨mm_cw_327, List.forall_mem_cons.mpr ⟨mm_cw_328, List.forall_mem_cons.mpr ⟨mm_cw_329, fun _ h => absurd h List.not_mem_nil⟩⟩⟩⟩⟩⟩⟩⟩⟩⟩
theorem mm_cws : ∀ t ∈ mm_mths, mm_cwd t := by
  unfold mm_mths
  exact List.forall_mem_append.mpr ⟨mm_cws_0, List.forall_mem_append.mpr ⟨mm_cws_1, List.forall_mem_append.mpr ⟨mm_cws_2, List.forall_mem_append.mpr ⟨mm_cws_3, List.forall_mem_append.mpr ⟨mm_cws_4, List.forall_mem_append.mpr ⟨mm_cws_5, List.forall_mem_append.mpr ⟨mm_cws_6, List.forall_mem_append.mpr ⟨mm_cws_7, mm_cws_8⟩⟩⟩⟩⟩⟩⟩⟩
theorem mm_mths_ok : ∀ t ∈ mm_mths, mm_mchk t = true := by
  unfold mm_mths
  exact List.forall_mem_append.mpr ⟨List.all_eq_true.mp mm_mths_0_ok, List.forall_mem_append.mpr ⟨List.all_eq_true.mp mm_mths_1_ok, List.forall_mem_append.mpr ⟨List.all_eq_true.mp mm_mths_2_ok, List.forall_mem_append.mpr ⟨List.all_eq_true.mp mm_mths_3_ok, List.forall_mem_append.mpr ⟨List.all_eq_true.mp mm_mths_4_ok, List.forall_mem_append.mpr ⟨List.all_eq_true.mp mm_mths_5_ok, List.forall_mem_append.mpr ⟨List.all_eq_true.mp mm_mths_6_ok, List.forall_mem_append.mpr ⟨List.all_eq_true.mp mm_mths_7_ok, List.all_eq_true.mp mm_mths_8_ok⟩⟩⟩⟩⟩⟩⟩⟩
theorem mm_obj_i : Cond.instanceMethod Lib.objectInit ∈ mm_gw := mm_wg_in (pl := 1028) (by decide +kernel)
theorem mm_obj_c : Cond.code Lib.objectInit ⟨#[0xb1]⟩ 1 none ∈ mm_gw := mm_wg_in (pl := 1029) (by decide +kernel)
theorem mm_cpy_s : Cond.static arraycopyName ∈ mm_gw := mm_wg_in (pl := 5136) (by decide +kernel)
theorem mm_cpy_n : Cond.native arraycopyName ∈ mm_gw := mm_wg_in (pl := 5137) (by decide +kernel)
theorem mm_cpy_y : Cond.initialized "java/lang/System" ∈ mm_gw := mm_wg_in (pl := 1020) (by decide +kernel)
theorem mm_ac_int : Cond.arrayClass .int ∈ mm_gw := mm_wg_in (pl := 1052) (by decide +kernel)
theorem mm_ac_long : Cond.arrayClass .long ∈ mm_gw := mm_wg_in (pl := 1053) (by decide +kernel)
theorem mm_ac_byte : Cond.arrayClass .byte ∈ mm_gw := mm_wg_in (pl := 5138) (by decide +kernel)
theorem mm_ac_char : Cond.arrayClass .char ∈ mm_gw := mm_wg_in (pl := 6222) (by decide +kernel)
theorem mm_ac_boolean : Cond.arrayClass .boolean ∈ mm_gw := mm_wg_in (pl := 6223) (by decide +kernel)
theorem mm_max_s : Cond.static Lib.Math.max.name ∈ mm_gw := mm_wg_in (pl := 3028) (by decide +kernel)
theorem mm_max_c : Cond.code Lib.Math.max.name Lib.Math.max.code 2 (some .int) ∈ mm_gw := mm_wg_in (pl := 3029) (by decide +kernel)
theorem mm_min_s : Cond.static Lib.Math.min.name ∈ mm_gw := mm_wg_in (pl := 3035) (by decide +kernel)
theorem mm_min_c : Cond.code Lib.Math.min.name Lib.Math.min.code 2 (some .int) ∈ mm_gw := mm_wg_in (pl := 3036) (by decide +kernel)
theorem mm_math_y : Cond.initialized "java/lang/Math" ∈ mm_gw := mm_wg_in (pl := 1014) (by decide +kernel)
end
section
/-! ===== printed by wip/gen_names.py: the classes' fields ===== -/
theorem mm_fw_0 : ∀ w ∈ u_ws RX0 TX0 3, w ∈ mm_gw := by
  have h : (List.range 3).all (fun k => mm_wg ([2139, 2141, 2143].getD k 0) (u_lay RX0 TX0 k)) = true := by decide +kernel
  intro w hw
  obtain ⟨k, hk, rfl⟩ := List.mem_map.mp hw
  exact mm_wg_in (List.all_eq_true.mp h k hk)
theorem mm_fw_1 : ∀ w ∈ u_ws RX1 TX1 9, w ∈ mm_gw := by
  have h : (List.range 9).all (fun k => mm_wg ([1077, 1079, 1081, 1083, 1085, 1087, 1089, 1091, 1093].getD k 0) (u_lay RX1 TX1 k)) = true := by decide +kernel
  intro w hw
  obtain ⟨k, hk, rfl⟩ := List.mem_map.mp hw
  exact mm_wg_in (List.all_eq_true.mp h k hk)
theorem mm_fw_2 : ∀ w ∈ u_ws RX2 TX2 6, w ∈ mm_gw := by
  have h : (List.range 6).all (fun k => mm_wg ([2117, 2119, 2121, 2123, 2125, 2127].getD k 0) (u_lay RX2 TX2 k)) = true := by decide +kernel
  intro w hw
  obtain ⟨k, hk, rfl⟩ := List.mem_map.mp hw
  exact mm_wg_in (List.all_eq_true.mp h k hk)
theorem mm_fw_3 : ∀ w ∈ u_ws RX3 TX3 7, w ∈ mm_gw := by
  have h : (List.range 7).all (fun k => mm_wg ([1165, 1167, 1169, 1171, 1173, 1175, 1177].getD k 0) (u_lay RX3 TX3 k)) = true := by decide +kernel
  intro w hw
  obtain ⟨k, hk, rfl⟩ := List.mem_map.mp hw
  exact mm_wg_in (List.all_eq_true.mp h k hk)
theorem mm_fw_4 : ∀ w ∈ u_ws RX4 TX4 7, w ∈ mm_gw := by
  have h : (List.range 7).all (fun k => mm_wg ([1124, 1126, 1128, 1130, 1132, 1134, 1136].getD k 0) (u_lay RX4 TX4 k)) = true := by decide +kernel
  intro w hw
  obtain ⟨k, hk, rfl⟩ := List.mem_map.mp hw
  exact mm_wg_in (List.all_eq_true.mp h k hk)
theorem mm_fw_5 : ∀ w ∈ u_ws RX5 TX5 8, w ∈ mm_gw := by
  have h : (List.range 8).all (fun k => mm_wg ([1209, 1211, 1213, 1215, 1217, 1219, 1221, 1223].getD k 0) (u_lay RX5 TX5 k)) = true := by decide +kernel
  intro w hw
  obtain ⟨k, hk, rfl⟩ := List.mem_map.mp hw
  exact mm_wg_in (List.all_eq_true.mp h k hk)
theorem mm_fw_6 : ∀ w ∈ u_ws RX6 TX6 3, w ∈ mm_gw := by
  have h : (List.range 3).all (fun k => mm_wg ([1045, 1047, 1049].getD k 0) (u_lay RX6 TX6 k)) = true := by decide +kernel
  intro w hw
  obtain ⟨k, hk, rfl⟩ := List.mem_map.mp hw
  exact mm_wg_in (List.all_eq_true.mp h k hk)
theorem mm_fw_7 : ∀ w ∈ u_ws RX7 TX7 3, w ∈ mm_gw := by
  have h : (List.range 3).all (fun k => mm_wg ([2064, 2066, 2068].getD k 0) (u_lay RX7 TX7 k)) = true := by decide +kernel
  intro w hw
  obtain ⟨k, hk, rfl⟩ := List.mem_map.mp hw
  exact mm_wg_in (List.all_eq_true.mp h k hk)
theorem mm_fw_8 : ∀ w ∈ u_ws RX8 TX8 7, w ∈ mm_gw := by
  have h : (List.range 7).all (fun k => mm_wg ([2087, 2089, 2091, 2093, 2095, 2097, 2099].getD k 0) (u_lay RX8 TX8 k)) = true := by decide +kernel
  intro w hw
  obtain ⟨k, hk, rfl⟩ := List.mem_map.mp hw
  exact mm_wg_in (List.all_eq_true.mp h k hk)
theorem mm_fw_9 : ∀ w ∈ u_ws RX9 TX9 4, w ∈ mm_gw := by
  have h : (List.range 4).all (fun k => mm_wg ([1237, 1239, 2001, 2003].getD k 0) (u_lay RX9 TX9 k)) = true := by decide +kernel
  intro w hw
  obtain ⟨k, hk, rfl⟩ := List.mem_map.mp hw
  exact mm_wg_in (List.all_eq_true.mp h k hk)
theorem mm_fw_10 : ∀ w ∈ u_ws RX10 TX10 12, w ∈ mm_gw := by
  have h : (List.range 12).all (fun k => mm_wg ([2026, 2028, 2030, 2032, 2034, 2036, 2038, 2040, 2042, 2044, 2046, 2048].getD k 0) (u_lay RX10 TX10 k)) = true := by decide +kernel
  intro w hw
  obtain ⟨k, hk, rfl⟩ := List.mem_map.mp hw
  exact mm_wg_in (List.all_eq_true.mp h k hk)
theorem mm_fw_11 : ∀ w ∈ u_ws RX11 TX11 8, w ∈ mm_gw := by
  have h : (List.range 8).all (fun k => mm_wg ([2154, 2156, 2158, 2160, 2162, 2164, 2166, 2168].getD k 0) (u_lay RX11 TX11 k)) = true := by decide +kernel
  intro w hw
  obtain ⟨k, hk, rfl⟩ := List.mem_map.mp hw
  exact mm_wg_in (List.all_eq_true.mp h k hk)
theorem mm_fw_12 : ∀ w ∈ u_ws RX12 TX12 26, w ∈ mm_gw := by
  have h : (List.range 26).all (fun k => mm_wg ([6169, 6171, 6173, 6175, 6177, 6179, 6181, 6183, 6185, 6187, 6189, 6191, 6193, 6195, 6197, 6199, 6201, 6203, 6205, 6207, 6209, 6211, 6213, 6215, 6217, 6219].getD k 0) (u_lay RX12 TX12 k)) = true := by decide +kernel
  intro w hw
  obtain ⟨k, hk, rfl⟩ := List.mem_map.mp hw
  exact mm_wg_in (List.all_eq_true.mp h k hk)
theorem mm_cls : ∀ (ci : Nat) (r : vw_C), vwCl[ci]? = some r → (∀ w ∈ u_ws r.1 r.2.1 r.2.2, w ∈ mm_gw) ∧ (∀ k, k < r.2.2 → parseFieldDescriptor (r.2.1 k).2.2.1 = some (mm_ty ci k)) ∧ (∀ a, a < r.2.2 → ∀ b, b < r.2.2 → a ≠ b → (r.2.1 a).2.1 ≠ (r.2.1 b).2.1) := by
  intro ci r h
  match ci, h with
  | 0, h => cases h; exact ⟨mm_fw_0, tyX0_ok, nmX0⟩
  | 1, h => cases h; exact ⟨mm_fw_1, tyX1_ok, nmX1⟩
  | 2, h => cases h; exact ⟨mm_fw_2, tyX2_ok, nmX2⟩
  | 3, h => cases h; exact ⟨mm_fw_3, tyX3_ok, nmX3⟩
  | 4, h => cases h; exact ⟨mm_fw_4, tyX4_ok, nmX4⟩
  | 5, h => cases h; exact ⟨mm_fw_5, tyX5_ok, nmX5⟩
  | 6, h => cases h; exact ⟨mm_fw_6, tyX6_ok, nmX6⟩
  | 7, h => cases h; exact ⟨mm_fw_7, tyX7_ok, nmX7⟩
  | 8, h => cases h; exact ⟨mm_fw_8, tyX8_ok, nmX8⟩
  | 9, h => cases h; exact ⟨mm_fw_9, tyX9_ok, nmX9⟩
  | 10, h => cases h; exact ⟨mm_fw_10, tyX10_ok, nmX10⟩
  | 11, h => cases h; exact ⟨mm_fw_11, tyX11_ok, nmX11⟩
  | 12, h => cases h; exact ⟨mm_fw_12, tyX12_ok, nmX12⟩
  | ci + 13, h => simp [vwCl] at h
/-- what a method may make: cells, slots -/
def mm_bud (y : Nat) : Nat × Nat := match y with
  | 0 => (156, 3430)
  | 1 => (66, 1444)
  | 2 => (3, 108)
  | 3 => (6, 184)
  | 7 => (2, 163)
  | 8 => (1, 20)
  | 9 => (4, 327)
  | 10 => (4, 46)
  | 11 => (2, 33)
  | 218 => (17, 11365)
  | _ => (0, 0)
end
section
/-! ===== the small machine's context, and its rows on cells ===== -/
def mm_nest : Cond → Bool
  | .fieldLinkNest _ _ _ _ _ _ => true
  | .methodLinkNest _ _ _ _ => true
  | _ => false
def mm_Ctx (D : va_G) (U : State) : Prop := va_K D vwCl [] U ∧ (∀ w ∈ lw_tbl, mm_nest w = true → va_Nw w U) ∧ ∀ C : String, Cond.arrayOver (.object C) ∈ lw_tbl → va_AO C U
theorem mm_Ctx_warm {D : va_G} {s U : State} (hW : s.WarmedH U.vm) (h : mm_Ctx D s) : mm_Ctx D U := by
  refine ⟨va_K.moved hW.alike h.1, fun w hw hn => ?_, fun C hC => (h.2.2 C hC).moved hW.alike⟩
  have h1 := h.2.1 w hw hn
  unfold mm_nest at hn
  split at hn
  · exact h1.warmF hW
  · exact h1.warmM hW
  · cases hn
def mm_Fx (p : Program) (s : State) (m : MethodId) (args : Array Value) (meth : Method) (c : Code) (φ : Nat → Nat) (kx bs : Nat) (D : va_G) (o : Nat) (own : String) (nL : Nat) (ini : Bool) (cc : ByteArray) : Prop :=
  p.tables.exec = Jvm.exec ∧ c.code = cc ∧ c.maxLocals = nL ∧ s.vm.findClass own = some m.cls ∧ mm_cns[o]? = some own ∧ (∀ w ∈ mm_gw, w.before args s = true) ∧ mm_Ctx D s ∧ mm_ph φ kx bs ∧ bs ≤ s.heap.size ∧ (ini = true → meth.name = "<init>")
abbrev mm_S : Type := Nat × List (Nat × Value) × List Value × List mm_C × Nat × Nat
def mm_Go (p : Program) (l : Launch) (e : Env) (R : Room) (s : State) (m : MethodId) (args : Array Value) (below : List Frame) (meth : Method) (c : Code) (φ : Nat → Nat) (kx bs : Nat) (D : va_G) (zs : List mm_Zt) (nL : Nat) (Q : State → Prop) (σ : mm_S) : Prop :=
  ∀ (H : Heap) (locs : List Loc) (ls : Array Slot) (cells slots : Nat), mm_R φ kx bs D vwCl zs s σ.2.2.2.1 H → va_S (mm_B bs) s.heap H locs → lv_has ls nL (mm_sl φ σ.2.1) → cells + σ.2.2.2.2.1 = R.cells → slots + σ.2.2.2.2.2 = R.slots →
    W p l e R s m args below meth c H locs cells slots Q (F0 m σ.1 ls (σ.2.2.1.map (mm_sh φ)))
def mm_look (o idx : Nat) : Option mm_Pe := (mm_pool o).find? (fun e => e.1 == idx)
theorem mm_look_ok {o idx : Nat} {e : mm_Pe} (h : mm_look o idx = some e) : e.1 = idx ∧ mm_pchk o e = true := by
  refine ⟨?_, mm_pool_ok o e (List.mem_of_find?_eq_some h)⟩
  have := List.find?_some h
  simpa using this
theorem mm_ph_ge {φ : Nat → Nat} {kx bs i : Nat} (h : mm_ph φ kx bs) (hi : kx ≤ i) : mm_B bs (φ i) := by
  show bs ≤ φ i
  rw [h.2 i hi]
  exact Nat.le_add_right _ _
theorem mm_pchk_own {o : Nat} {own : String} {e : mm_Pe} (ho : mm_cns[o]? = some own) (h : mm_pchk o e = true) : (match e.2.1 with
    | 0 => match vwCl[e.2.2.1]? with
      | some r => decide (e.2.2.2.1 < r.2.2) && mm_wg e.2.2.2.2.2 (.fieldLink own e.1 (r.2.1 e.2.2.2.1).1 (r.2.1 e.2.2.2.1).2.1 (r.2.1 e.2.2.2.1).2.2.1)
      | none => false
    | 1 => match vwCl[e.2.2.1]? with
      | some r => decide (e.2.2.2.1 < r.2.2) && mm_wd e.2.2.2.2.2 (.fieldLinkNest own e.1 (r.2.1 e.2.2.2.1).1 (r.2.1 e.2.2.2.1).2.1 (r.2.1 e.2.2.2.1).2.2.1 "RaftTown")
      | none => false
    | 2 => match mm_mths[e.2.2.1]? with
      | some t => mm_wg e.2.2.2.2.2 (.methodLink own e.1 t.2.1)
      | none => false
    | 3 => match mm_mths[e.2.2.1]? with
      | some t => mm_wd e.2.2.2.2.2 (.methodLinkNest own e.1 t.2.1 "RaftTown")
      | none => false
    | 4 => match vwCl[e.2.2.1]? with
      | some r => mm_wg e.2.2.2.2.2 (.classLink own e.1 r.1) && mm_wg e.2.2.2.1 (.instantiable r.1 r.2.2) && mm_wg e.2.2.2.2.1.toNat (.initialized r.1)
      | none => false
    | 6 => mm_wg e.2.2.2.2.2 (.constant own e.1 (Int32.ofInt e.2.2.2.2.1))
    | 7 => mm_wg e.2.2.2.2.2 (.constantLong own e.1 (Int64.ofInt e.2.2.2.2.1))
    | 8 => mm_wg e.2.2.2.2.2 (.methodLink own e.1 Lib.objectInit)
    | 9 => mm_wg e.2.2.2.2.2 (.methodLink own e.1 arraycopyName)
    | 13 => mm_wg e.2.2.2.2.2 (.methodLink own e.1 Lib.Math.max.name)
    | 14 => mm_wg e.2.2.2.2.2 (.methodLink own e.1 Lib.Math.min.name)
    | 10 => match mm_sts[e.2.2.1]? with
      | some z => mm_wg e.2.2.2.2.2 (.fieldLink own e.1 z.1 z.2.1 z.2.2)
      | none => false
    | 11 => match mm_sts[e.2.2.1]? with
      | some z => mm_wd e.2.2.2.2.2 (.fieldLinkNest own e.1 z.1 z.2.1 z.2.2 "RaftTown")
      | none => false
    | _ => false) = true := by
  unfold mm_pchk at h
  rw [ho] at h
  exact h
theorem mm_p0 {o idx a b pl : Nat} {z : Int} {own : String} (ho : mm_cns[o]? = some own) (h : mm_look o idx = some (idx, 0, a, b, z, pl)) : ∃ r, vwCl[a]? = some r ∧ b < r.2.2 ∧ Cond.fieldLink own idx (r.2.1 b).1 (r.2.1 b).2.1 (r.2.1 b).2.2.1 ∈ mm_gw := by
  have h1 : (match vwCl[a]? with
      | some r => decide (b < r.2.2) && mm_wg pl (.fieldLink own idx (r.2.1 b).1 (r.2.1 b).2.1 (r.2.1 b).2.2.1)
      | none => false) = true := mm_pchk_own ho (mm_look_ok h).2
  split at h1
  · next r hr =>
    simp only [Bool.and_eq_true, decide_eq_true_eq] at h1
    exact ⟨r, hr, h1.1, mm_wg_in h1.2⟩
  · cases h1
theorem mm_p1 {o idx a b pl : Nat} {z : Int} {own : String} (ho : mm_cns[o]? = some own) (h : mm_look o idx = some (idx, 1, a, b, z, pl)) : ∃ r, vwCl[a]? = some r ∧ b < r.2.2 ∧ Cond.fieldLinkNest own idx (r.2.1 b).1 (r.2.1 b).2.1 (r.2.1 b).2.2.1 "RaftTown" ∈ lw_tbl := by
  have h1 : (match vwCl[a]? with
      | some r => decide (b < r.2.2) && mm_wd pl (.fieldLinkNest own idx (r.2.1 b).1 (r.2.1 b).2.1 (r.2.1 b).2.2.1 "RaftTown")
      | none => false) = true := mm_pchk_own ho (mm_look_ok h).2
  split at h1
  · next r hr =>
    simp only [Bool.and_eq_true, decide_eq_true_eq] at h1
    exact ⟨r, hr, h1.1, mm_wd_in h1.2⟩
  · cases h1
theorem mm_p4 {o idx a b pl : Nat} {z : Int} {own : String} (ho : mm_cns[o]? = some own) (h : mm_look o idx = some (idx, 4, a, b, z, pl)) : ∃ r, vwCl[a]? = some r ∧ Cond.classLink own idx r.1 ∈ mm_gw ∧ Cond.instantiable r.1 r.2.2 ∈ mm_gw ∧ Cond.initialized r.1 ∈ mm_gw := by
  have h1 : (match vwCl[a]? with
      | some r => mm_wg pl (.classLink own idx r.1) && mm_wg b (.instantiable r.1 r.2.2) && mm_wg z.toNat (.initialized r.1)
      | none => false) = true := mm_pchk_own ho (mm_look_ok h).2
  split at h1
  · next r hr =>
    simp only [Bool.and_eq_true] at h1
    exact ⟨r, hr, mm_wg_in h1.1.1, mm_wg_in h1.1.2, mm_wg_in h1.2⟩
  · cases h1
theorem mm_p10 {o idx a b pl : Nat} {z : Int} {own : String} (ho : mm_cns[o]? = some own) (h : mm_look o idx = some (idx, 10, a, b, z, pl)) : ∃ r, mm_sts[a]? = some r ∧ Cond.fieldLink own idx r.1 r.2.1 r.2.2 ∈ mm_gw := by
  have h1 : (match mm_sts[a]? with
      | some z => mm_wg pl (.fieldLink own idx z.1 z.2.1 z.2.2)
      | none => false) = true := mm_pchk_own ho (mm_look_ok h).2
  split at h1
  · next r hr => exact ⟨r, hr, mm_wg_in h1⟩
  · cases h1
theorem mm_p11 {o idx a b pl : Nat} {z : Int} {own : String} (ho : mm_cns[o]? = some own) (h : mm_look o idx = some (idx, 11, a, b, z, pl)) : ∃ r, mm_sts[a]? = some r ∧ Cond.fieldLinkNest own idx r.1 r.2.1 r.2.2 "RaftTown" ∈ lw_tbl := by
  have h1 : (match mm_sts[a]? with
      | some z => mm_wd pl (.fieldLinkNest own idx z.1 z.2.1 z.2.2 "RaftTown")
      | none => false) = true := mm_pchk_own ho (mm_look_ok h).2
  split at h1
  · next r hr => exact ⟨r, hr, mm_wd_in h1⟩
  · cases h1
theorem mm_p2 {o idx a b pl : Nat} {z : Int} {own : String} (ho : mm_cns[o]? = some own) (h : mm_look o idx = some (idx, 2, a, b, z, pl)) : ∃ t, mm_mths[a]? = some t ∧ Cond.methodLink own idx t.2.1 ∈ mm_gw := by
  have h1 : (match mm_mths[a]? with
      | some t => mm_wg pl (.methodLink own idx t.2.1)
      | none => false) = true := mm_pchk_own ho (mm_look_ok h).2
  split at h1
  · next r hr => exact ⟨r, hr, mm_wg_in h1⟩
  · cases h1
theorem mm_p3 {o idx a b pl : Nat} {z : Int} {own : String} (ho : mm_cns[o]? = some own) (h : mm_look o idx = some (idx, 3, a, b, z, pl)) : ∃ t, mm_mths[a]? = some t ∧ Cond.methodLinkNest own idx t.2.1 "RaftTown" ∈ lw_tbl := by
  have h1 : (match mm_mths[a]? with
      | some t => mm_wd pl (.methodLinkNest own idx t.2.1 "RaftTown")
      | none => false) = true := mm_pchk_own ho (mm_look_ok h).2
  split at h1
  · next r hr => exact ⟨r, hr, mm_wd_in h1⟩
  · cases h1
theorem mm_p6 {o idx a b pl : Nat} {z : Int} {own : String} (ho : mm_cns[o]? = some own) (h : mm_look o idx = some (idx, 6, a, b, z, pl)) : Cond.constant own idx (Int32.ofInt z) ∈ mm_gw := mm_wg_in (mm_pchk_own ho (mm_look_ok h).2)
theorem mm_p7 {o idx a b pl : Nat} {z : Int} {own : String} (ho : mm_cns[o]? = some own) (h : mm_look o idx = some (idx, 7, a, b, z, pl)) : Cond.constantLong own idx (Int64.ofInt z) ∈ mm_gw := mm_wg_in (mm_pchk_own ho (mm_look_ok h).2)
theorem mm_p8 {o idx a b pl : Nat} {z : Int} {own : String} (ho : mm_cns[o]? = some own) (h : mm_look o idx = some (idx, 8, a, b, z, pl)) : Cond.methodLink own idx Lib.objectInit ∈ mm_gw := mm_wg_in (mm_pchk_own ho (mm_look_ok h).2)
theorem mm_p9 {o idx a b pl : Nat} {z : Int} {own : String} (ho : mm_cns[o]? = some own) (h : mm_look o idx = some (idx, 9, a, b, z, pl)) : Cond.methodLink own idx arraycopyName ∈ mm_gw := mm_wg_in (mm_pchk_own ho (mm_look_ok h).2)
theorem mm_p13 {o idx a b pl : Nat} {z : Int} {own : String} (ho : mm_cns[o]? = some own) (h : mm_look o idx = some (idx, 13, a, b, z, pl)) : Cond.methodLink own idx Lib.Math.max.name ∈ mm_gw := mm_wg_in (mm_pchk_own ho (mm_look_ok h).2)
theorem mm_p14 {o idx a b pl : Nat} {z : Int} {own : String} (ho : mm_cns[o]? = some own) (h : mm_look o idx = some (idx, 14, a, b, z, pl)) : Cond.methodLink own idx Lib.Math.min.name ∈ mm_gw := mm_wg_in (mm_pchk_own ho (mm_look_ok h).2)
end
section
/-! ===== symbolic runs: an instruction with what its pool says ===== -/
/-- pc, instruction, length; kind, two numbers and a value out of the pool -/
abbrev sx_I : Type := Nat × Instr × Nat × Nat × Nat × Nat × Int
def sx_pl (o idx : Nat) (e : sx_I) : Bool := match mm_look o idx with
  | some q => decide (q.1 = idx) && decide (q.2.1 = e.2.2.2.1) && decide (q.2.2.1 = e.2.2.2.2.1) && decide (q.2.2.2.1 = e.2.2.2.2.2.1) && decide (q.2.2.2.2.1 = e.2.2.2.2.2.2)
  | none => decide (e.2.2.2.1 = 99)
def sx_chk (o : Nat) (bytes : ByteArray) (e : sx_I) : Bool := decide (decode bytes e.1 = .ok (e.2.1, e.2.2.1)) && match e.2.1 with
  | .getfield idx => sx_pl o idx e
  | .putfield idx => sx_pl o idx e
  | .invokevirtual idx => sx_pl o idx e
  | .invokestatic idx => sx_pl o idx e
  | .invokespecial idx => sx_pl o idx e
  | .ldc idx => sx_pl o idx e
  | .ldc_w idx => sx_pl o idx e
  | .ldc2_w idx => sx_pl o idx e
  | .new idx => sx_pl o idx e
  | .anewarray idx => sx_pl o idx e
  | .getstatic idx => sx_pl o idx e
  | _ => true
theorem sx_ck {l : List sx_I} {p : sx_I → Bool} {a : Nat} (n : Nat) (h1 : ((l.drop a).take n).all p = true) (h2 : (l.drop (a + n)).all p = true) : (l.drop a).all p = true := by
  rw [← List.take_append_drop n (l.drop a), List.all_append, h1, List.drop_drop, h2]
  rfl
theorem sx_ce {l : List sx_I} {p : sx_I → Bool} {a n : Nat} (h1 : ((l.drop a).take n).all p = true) (h2 : (l.drop a).take n = l.drop a) : (l.drop a).all p = true := by rw [← h2]; exact h1
end
section
/-! ===== printed by wip/gen_code.py: the methods' instructions ===== -/
def sx_c0 : List sx_I := [(0, .aload_n 0, 1, 0, 0, 0, 0), (1, .invokespecial 1, 3, 8, 0, 0, 0), (4, .aload_n 0, 1, 0, 0, 0, 0), (5, .new 7, 3, 4, 10, 1031, 1002), (8, .dup, 1, 0, 0, 0, 0), (9, .invokespecial 9, 3, 2, 1, 0, 0), (12, .putfield 10, 3, 0, 11, 0, 0), (15, .aload_n 0, 1, 0, 0, 0, 0), (16, .new 7, 3, 4, 10, 1031, 1002), (19, .dup, 1, 0, 0, 0, 0), (20, .invokespecial 9, 3, 2, 1, 0, 0), (23, .putfield 16, 3, 0, 11, 1, 0), (26, .aload_n 0, 1, 0, 0, 0, 0), (27, .iconst 0, 1, 0, 0, 0, 0), (28, .putfield 19, 3, 0, 11, 2, 0), (31, .aload_n 0, 1, 0, 0, 0, 0), (32, .iconst 4, 1, 0, 0, 0, 0), (33, .anewarray 23, 3, 4, 7, 2053, 1009), (36, .putfield 25, 3, 0, 11, 3, 0), (39, .iconst 0, 1, 0, 0, 0, 0), (40, .istore_n 1, 1, 0, 0, 0, 0), (41, .iload_n 1, 1, 0, 0, 0, 0), (42, .iconst 4, 1, 0, 0, 0, 0), (43, .if_icmp .ge 22, 3, 0, 0, 0, 0), (46, .aload_n 0, 1, 0, 0, 0, 0), (47, .getfield 25, 3, 0, 11, 3, 0), (50, .iload_n 1, 1, 0, 0, 0, 0), (51, .new 23, 3, 4, 7, 2053, 1009), (54, .dup, 1, 0, 0, 0, 0), (55, .invokespecial 29, 3, 3, 8, 0, 0), (58, .aastore, 1, 0, 0, 0, 0), (59, .iinc 1 1, 3, 0, 0, 0, 0), (62, .goto (-21), 3, 0, 0, 0, 0), (65, .aload_n 0, 1, 0, 0, 0, 0), (66, .new 30, 3, 4, 8, 2072, 1010), (69, .dup, 1, 0, 0, 0, 0), (70, .invokespecial 32, 3, 3, 9, 0, 0), (73, .putfield 33, 3, 0, 11, 4, 0), (76, .aload_n 0, 1, 0, 0, 0, 0), (77, .new 37, 3, 4, 2, 2103, 1011), (80, .dup, 1, 0, 0, 0, 0), (81, .invokespecial 39, 3, 3, 10, 0, 0), (84, .putfield 40, 3, 0, 11, 5, 0), (87, .aload_n 0, 1, 0, 0, 0, 0), (88, .new 44, 3, 4, 0, 2131, 1012), (91, .dup, 1, 0, 0, 0, 0), (92, .invokespecial 46, 3, 3, 11, 0, 0), (95, .putfield 47, 3, 0, 11, 6, 0), (98, .aload_n 0, 1, 0, 0, 0, 0), (99, .iconst 0, 1, 0, 0, 0, 0), (100, .putfield 51, 3, 0, 11, 7, 0), (103, .return_, 1, 0, 0, 0, 0)]
set_option maxRecDepth 100000 in
theorem sx_k0 : sx_c0.all (sx_chk 11 prog_1_method_1_code) = true := by decide +kernel
def sx_c1 : List sx_I := [(0, .aload_n 0, 1, 0, 0, 0, 0), (1, .invokespecial 3, 3, 8, 0, 0, 0), (4, .aload_n 0, 1, 0, 0, 0, 0), (5, .new 9, 3, 4, 6, 1037, 1003), (8, .dup, 1, 0, 0, 0, 0), (9, .invokespecial 11, 3, 3, 2, 0, 0), (12, .putfield 12, 3, 0, 10, 0, 0), (15, .aload_n 0, 1, 0, 0, 0, 0), (16, .bipush 10, 2, 0, 0, 0, 0), (18, .anewarray 18, 3, 4, 4, 1098, 1005), (21, .putfield 20, 3, 0, 10, 1, 0), (24, .aload_n 0, 1, 0, 0, 0, 0), (25, .bipush 14, 2, 0, 0, 0, 0), (27, .anewarray 24, 3, 4, 3, 1139, 1006), (30, .putfield 26, 3, 0, 10, 3, 0), (33, .aload_n 0, 1, 0, 0, 0, 0), (34, .bipush 12, 2, 0, 0, 0, 0), (36, .anewarray 30, 3, 4, 5, 1180, 1007), (39, .putfield 32, 3, 0, 10, 5, 0), (42, .aload_n 0, 1, 0, 0, 0, 0), (43, .new 36, 3, 4, 1, 1061, 1004), (46, .dup, 1, 0, 0, 0, 0), (47, .invokespecial 38, 3, 3, 3, 0, 0), (50, .putfield 39, 3, 0, 10, 7, 0), (53, .aload_n 0, 1, 0, 0, 0, 0), (54, .iconst 5, 1, 0, 0, 0, 0), (55, .anewarray 43, 3, 4, 9, 1226, 1008), (58, .putfield 45, 3, 0, 10, 8, 0), (61, .iconst 0, 1, 0, 0, 0, 0), (62, .istore_n 1, 1, 0, 0, 0, 0), (63, .iload_n 1, 1, 0, 0, 0, 0), (64, .bipush 10, 2, 0, 0, 0, 0), (66, .if_icmp .ge 22, 3, 0, 0, 0, 0), (69, .aload_n 0, 1, 0, 0, 0, 0), (70, .getfield 20, 3, 0, 10, 1, 0), (73, .iload_n 1, 1, 0, 0, 0, 0), (74, .new 18, 3, 4, 4, 1098, 1005), (77, .dup, 1, 0, 0, 0, 0), (78, .invokespecial 49, 3, 3, 4, 0, 0), (81, .aastore, 1, 0, 0, 0, 0), (82, .iinc 1 1, 3, 0, 0, 0, 0), (85, .goto (-22), 3, 0, 0, 0, 0), (88, .iconst 0, 1, 0, 0, 0, 0), (89, .istore_n 1, 1, 0, 0, 0, 0), (90, .iload_n 1, 1, 0, 0, 0, 0), (91, .bipush 14, 2, 0, 0, 0, 0), (93, .if_icmp .ge 22, 3, 0, 0, 0, 0), (96, .aload_n 0, 1, 0, 0, 0, 0), (97, .getfield 26, 3, 0, 10, 3, 0), (100, .iload_n 1, 1, 0, 0, 0, 0), (101, .new 24, 3, 4, 3, 1139, 1006), (104, .dup, 1, 0, 0, 0, 0), (105, .invokespecial 50, 3, 3, 5, 0, 0), (108, .aastore, 1, 0, 0, 0, 0), (109, .iinc 1 1, 3, 0, 0, 0, 0), (112, .goto (-22), 3, 0, 0, 0, 0), (115, .iconst 0, 1, 0, 0, 0, 0), (116, .istore_n 1, 1, 0, 0, 0, 0), (117, .iload_n 1, 1, 0, 0, 0, 0), (118, .bipush 12, 2, 0, 0, 0, 0), (120, .if_icmp .ge 22, 3, 0, 0, 0, 0), (123, .aload_n 0, 1, 0, 0, 0, 0), (124, .getfield 32, 3, 0, 10, 5, 0), (127, .iload_n 1, 1, 0, 0, 0, 0), (128, .new 30, 3, 4, 5, 1180, 1007), (131, .dup, 1, 0, 0, 0, 0), (132, .invokespecial 51, 3, 3, 6, 0, 0), (135, .aastore, 1, 0, 0, 0, 0), (136, .iinc 1 1, 3, 0, 0, 0, 0), (139, .goto (-22), 3, 0, 0, 0, 0), (142, .iconst 0, 1, 0, 0, 0, 0), (143, .istore_n 1, 1, 0, 0, 0, 0), (144, .iload_n 1, 1, 0, 0, 0, 0), (145, .iconst 5, 1, 0, 0, 0, 0), (146, .if_icmp .ge 22, 3, 0, 0, 0, 0), (149, .aload_n 0, 1, 0, 0, 0, 0), (150, .getfield 45, 3, 0, 10, 8, 0), (153, .iload_n 1, 1, 0, 0, 0, 0), (154, .new 43, 3, 4, 9, 1226, 1008), (157, .dup, 1, 0, 0, 0, 0), (158, .invokespecial 52, 3, 3, 7, 0, 0), (161, .aastore, 1, 0, 0, 0, 0), (162, .iinc 1 1, 3, 0, 0, 0, 0), (165, .goto (-21), 3, 0, 0, 0, 0), (168, .return_, 1, 0, 0, 0, 0)]
set_option maxRecDepth 100000 in
theorem sx_k1 : sx_c1.all (sx_chk 10 prog_12_method_1_code) = true := by decide +kernel
def sx_c2 : List sx_I := [(0, .aload_n 0, 1, 0, 0, 0, 0), (1, .invokespecial 3, 3, 8, 0, 0, 0), (4, .aload_n 0, 1, 0, 0, 0, 0), (5, .bipush 36, 2, 0, 0, 0, 0), (7, .newarray .int, 2, 0, 0, 0, 0), (9, .putfield 9, 3, 0, 6, 0, 0), (12, .aload_n 0, 1, 0, 0, 0, 0), (13, .bipush 36, 2, 0, 0, 0, 0), (15, .newarray .int, 2, 0, 0, 0, 0), (17, .putfield 15, 3, 0, 6, 1, 0), (20, .aload_n 0, 1, 0, 0, 0, 0), (21, .bipush 36, 2, 0, 0, 0, 0), (23, .newarray .long, 2, 0, 0, 0, 0), (25, .putfield 18, 3, 0, 6, 2, 0), (28, .return_, 1, 0, 0, 0, 0)]
set_option maxRecDepth 100000 in
theorem sx_k2 : sx_c2.all (sx_chk 6 prog_8_method_1_code) = true := by decide +kernel
def sx_c3 : List sx_I := [(0, .aload_n 0, 1, 0, 0, 0, 0), (1, .invokespecial 3, 3, 8, 0, 0, 0), (4, .aload_n 0, 1, 0, 0, 0, 0), (5, .bipush 40, 2, 0, 0, 0, 0), (7, .newarray .int, 2, 0, 0, 0, 0), (9, .putfield 9, 3, 0, 1, 0, 0), (12, .aload_n 0, 1, 0, 0, 0, 0), (13, .bipush 40, 2, 0, 0, 0, 0), (15, .newarray .int, 2, 0, 0, 0, 0), (17, .putfield 15, 3, 0, 1, 1, 0), (20, .aload_n 0, 1, 0, 0, 0, 0), (21, .bipush 40, 2, 0, 0, 0, 0), (23, .newarray .int, 2, 0, 0, 0, 0), (25, .putfield 18, 3, 0, 1, 2, 0), (28, .aload_n 0, 1, 0, 0, 0, 0), (29, .bipush 40, 2, 0, 0, 0, 0), (31, .newarray .int, 2, 0, 0, 0, 0), (33, .putfield 21, 3, 0, 1, 3, 0), (36, .aload_n 0, 1, 0, 0, 0, 0), (37, .bipush 12, 2, 0, 0, 0, 0), (39, .newarray .int, 2, 0, 0, 0, 0), (41, .putfield 24, 3, 0, 1, 6, 0), (44, .aload_n 0, 1, 0, 0, 0, 0), (45, .bipush 12, 2, 0, 0, 0, 0), (47, .newarray .int, 2, 0, 0, 0, 0), (49, .putfield 27, 3, 0, 1, 7, 0), (52, .return_, 1, 0, 0, 0, 0)]
set_option maxRecDepth 100000 in
theorem sx_k3 : sx_c3.all (sx_chk 1 prog_3_method_1_code) = true := by decide +kernel
def sx_c4 : List sx_I := [(0, .aload_n 0, 1, 0, 0, 0, 0), (1, .invokespecial 3, 3, 8, 0, 0, 0), (4, .return_, 1, 0, 0, 0, 0)]
set_option maxRecDepth 100000 in
theorem sx_k4 : sx_c4.all (sx_chk 4 prog_6_method_1_code) = true := by decide +kernel
def sx_c5 : List sx_I := [(0, .aload_n 0, 1, 0, 0, 0, 0), (1, .invokespecial 1, 3, 8, 0, 0, 0), (4, .aload_n 0, 1, 0, 0, 0, 0), (5, .iconst 1, 1, 0, 0, 0, 0), (6, .putfield 7, 3, 0, 3, 6, 0), (9, .return_, 1, 0, 0, 0, 0)]
set_option maxRecDepth 100000 in
theorem sx_k5 : sx_c5.all (sx_chk 3 prog_5_method_1_code) = true := by decide +kernel
def sx_c6 : List sx_I := [(0, .aload_n 0, 1, 0, 0, 0, 0), (1, .invokespecial 1, 3, 8, 0, 0, 0), (4, .return_, 1, 0, 0, 0, 0)]
set_option maxRecDepth 100000 in
theorem sx_k6 : sx_c6.all (sx_chk 5 prog_7_method_1_code) = true := by decide +kernel
def sx_c7 : List sx_I := [(0, .aload_n 0, 1, 0, 0, 0, 0), (1, .invokespecial 3, 3, 8, 0, 0, 0), (4, .aload_n 0, 1, 0, 0, 0, 0), (5, .sipush 160, 3, 0, 0, 0, 0), (8, .newarray .int, 2, 0, 0, 0, 0), (10, .putfield 9, 3, 0, 9, 1, 0), (13, .aload_n 0, 1, 0, 0, 0, 0), (14, .iconst 3, 1, 0, 0, 0, 0), (15, .newarray .int, 2, 0, 0, 0, 0), (17, .putfield 15, 3, 0, 9, 2, 0), (20, .return_, 1, 0, 0, 0, 0)]
set_option maxRecDepth 100000 in
theorem sx_k7 : sx_c7.all (sx_chk 9 prog_11_method_1_code) = true := by decide +kernel
def sx_c8 : List sx_I := [(0, .aload_n 0, 1, 0, 0, 0, 0), (1, .invokespecial 3, 3, 8, 0, 0, 0), (4, .aload_n 0, 1, 0, 0, 0, 0), (5, .bipush 20, 2, 0, 0, 0, 0), (7, .newarray .int, 2, 0, 0, 0, 0), (9, .putfield 9, 3, 0, 7, 2, 0), (12, .return_, 1, 0, 0, 0, 0)]
set_option maxRecDepth 100000 in
theorem sx_k8 : sx_c8.all (sx_chk 7 prog_9_method_1_code) = true := by decide +kernel
def sx_c9 : List sx_I := [(0, .aload_n 0, 1, 0, 0, 0, 0), (1, .invokespecial 3, 3, 8, 0, 0, 0), (4, .aload_n 0, 1, 0, 0, 0, 0), (5, .sipush 160, 3, 0, 0, 0, 0), (8, .newarray .int, 2, 0, 0, 0, 0), (10, .putfield 9, 3, 0, 8, 0, 0), (13, .aload_n 0, 1, 0, 0, 0, 0), (14, .new 15, 3, 4, 9, 1226, 1008), (17, .dup, 1, 0, 0, 0, 0), (18, .invokespecial 17, 3, 3, 7, 0, 0), (21, .putfield 18, 3, 0, 8, 2, 0), (24, .return_, 1, 0, 0, 0, 0)]
set_option maxRecDepth 100000 in
theorem sx_k9 : sx_c9.all (sx_chk 8 prog_10_method_1_code) = true := by decide +kernel
def sx_c10 : List sx_I := [(0, .aload_n 0, 1, 0, 0, 0, 0), (1, .invokespecial 3, 3, 8, 0, 0, 0), (4, .aload_n 0, 1, 0, 0, 0, 0), (5, .bipush 12, 2, 0, 0, 0, 0), (7, .newarray .int, 2, 0, 0, 0, 0), (9, .putfield 9, 3, 0, 2, 0, 0), (12, .aload_n 0, 1, 0, 0, 0, 0), (13, .bipush 12, 2, 0, 0, 0, 0), (15, .newarray .int, 2, 0, 0, 0, 0), (17, .putfield 15, 3, 0, 2, 1, 0), (20, .aload_n 0, 1, 0, 0, 0, 0), (21, .bipush 12, 2, 0, 0, 0, 0), (23, .newarray .int, 2, 0, 0, 0, 0), (25, .putfield 18, 3, 0, 2, 2, 0), (28, .aload_n 0, 1, 0, 0, 0, 0), (29, .bipush 10, 2, 0, 0, 0, 0), (31, .newarray .int, 2, 0, 0, 0, 0), (33, .putfield 21, 3, 0, 2, 3, 0), (36, .return_, 1, 0, 0, 0, 0)]
set_option maxRecDepth 100000 in
theorem sx_k10 : sx_c10.all (sx_chk 2 prog_4_method_1_code) = true := by decide +kernel
def sx_c11 : List sx_I := [(0, .aload_n 0, 1, 0, 0, 0, 0), (1, .invokespecial 3, 3, 8, 0, 0, 0), (4, .aload_n 0, 1, 0, 0, 0, 0), (5, .bipush 9, 2, 0, 0, 0, 0), (7, .newarray .int, 2, 0, 0, 0, 0), (9, .putfield 9, 3, 0, 0, 0, 0), (12, .aload_n 0, 1, 0, 0, 0, 0), (13, .bipush 24, 2, 0, 0, 0, 0), (15, .newarray .int, 2, 0, 0, 0, 0), (17, .putfield 15, 3, 0, 0, 1, 0), (20, .return_, 1, 0, 0, 0, 0)]
set_option maxRecDepth 100000 in
theorem sx_k11 : sx_c11.all (sx_chk 0 prog_2_method_1_code) = true := by decide +kernel
def sx_c12 : List sx_I := [(0, .iload_n 1, 1, 0, 0, 0, 0), (1, .invokestatic 55, 3, 2, 13, 0, 0), (4, .ifCond .eq 21, 3, 0, 0, 0, 0), (7, .iload_n 2, 1, 0, 0, 0, 0), (8, .iconst (-1), 1, 0, 0, 0, 0), (9, .iconst 1, 1, 0, 0, 0, 0), (10, .invokestatic 59, 3, 2, 14, 0, 0), (13, .ifCond .eq 12, 3, 0, 0, 0, 0), (16, .iload_n 3, 1, 0, 0, 0, 0), (17, .iconst (-1), 1, 0, 0, 0, 0), (18, .iconst 1, 1, 0, 0, 0, 0), (19, .invokestatic 59, 3, 2, 14, 0, 0), (22, .ifCond .ne 10, 3, 0, 0, 0, 0), (25, .aload_n 0, 1, 0, 0, 0, 0), (26, .ldc 63, 2, 6, 0, 0, -100001), (28, .invokevirtual 64, 3, 2, 15, 0, 0), (31, .ireturn, 1, 0, 0, 0, 0), (32, .aload_n 0, 1, 0, 0, 0, 0), (33, .getfield 10, 3, 0, 11, 0, 0), (36, .getfield 68, 3, 1, 10, 0, 0), (39, .iload_n 1, 1, 0, 0, 0, 0), (40, .iload_n 2, 1, 0, 0, 0, 0), (41, .iload_n 3, 1, 0, 0, 0, 0), (42, .invokevirtual 72, 3, 2, 16, 0, 0), (45, .iconst 1, 1, 0, 0, 0, 0), (46, .ireturn, 1, 0, 0, 0, 0)]
set_option maxRecDepth 100000 in
theorem sx_k12 : sx_c12.all (sx_chk 11 prog_1_method_2_code) = true := by decide +kernel
def sx_c13 : List sx_I := [(0, .iload_n 0, 1, 0, 0, 0, 0), (1, .iconst 0, 1, 0, 0, 0, 0), (2, .bipush 35, 2, 0, 0, 0, 0), (4, .invokestatic 59, 3, 2, 14, 0, 0), (7, .ireturn, 1, 0, 0, 0, 0)]
set_option maxRecDepth 100000 in
theorem sx_k13 : sx_c13.all (sx_chk 11 prog_1_method_49_code) = true := by decide +kernel
def sx_c14 : List sx_I := [(0, .iload_n 0, 1, 0, 0, 0, 0), (1, .iload_n 1, 1, 0, 0, 0, 0), (2, .if_icmp .lt 12, 3, 0, 0, 0, 0), (5, .iload_n 0, 1, 0, 0, 0, 0), (6, .iload_n 2, 1, 0, 0, 0, 0), (7, .if_icmp .gt 7, 3, 0, 0, 0, 0), (10, .iconst 1, 1, 0, 0, 0, 0), (11, .goto 4, 3, 0, 0, 0, 0), (14, .iconst 0, 1, 0, 0, 0, 0), (15, .ireturn, 1, 0, 0, 0, 0)]
set_option maxRecDepth 100000 in
theorem sx_k14 : sx_c14.all (sx_chk 11 prog_1_method_48_code) = true := by decide +kernel
def sx_c15 : List sx_I := [(0, .iload_n 1, 1, 0, 0, 0, 0), (1, .ldc_w 453, 3, 6, 0, 0, -99999), (4, .if_icmp .ge 13, 3, 0, 0, 0, 0), (7, .aload_n 0, 1, 0, 0, 0, 0), (8, .dup, 1, 0, 0, 0, 0), (9, .getfield 51, 3, 0, 11, 7, 0), (12, .iconst 1, 1, 0, 0, 0, 0), (13, .iadd, 1, 0, 0, 0, 0), (14, .putfield 51, 3, 0, 11, 7, 0), (17, .iload_n 1, 1, 0, 0, 0, 0), (18, .ireturn, 1, 0, 0, 0, 0)]
set_option maxRecDepth 100000 in
theorem sx_k15 : sx_c15.all (sx_chk 11 prog_1_method_42_code) = true := by decide +kernel
def sx_c16 : List sx_I := [(0, .iload_n 1, 1, 0, 0, 0, 0), (1, .invokestatic 28, 3, 3, 13, 0, 0), (4, .ifCond .eq 17, 3, 0, 0, 0, 0), (7, .aload_n 0, 1, 0, 0, 0, 0), (8, .getfield 9, 3, 0, 6, 0, 0), (11, .iload_n 1, 1, 0, 0, 0, 0), (12, .iload_n 2, 1, 0, 0, 0, 0), (13, .iastore, 1, 0, 0, 0, 0), (14, .aload_n 0, 1, 0, 0, 0, 0), (15, .getfield 15, 3, 0, 6, 1, 0), (18, .iload_n 1, 1, 0, 0, 0, 0), (19, .iload_n 3, 1, 0, 0, 0, 0), (20, .iastore, 1, 0, 0, 0, 0), (21, .return_, 1, 0, 0, 0, 0)]
set_option maxRecDepth 100000 in
theorem sx_k16 : sx_c16.all (sx_chk 6 prog_8_method_3_code) = true := by decide +kernel
def sx_c17 : List sx_I := [(0, .iload_n 1, 1, 0, 0, 0, 0), (1, .invokestatic 78, 3, 2, 18, 0, 0), (4, .ifCond .eq 31, 3, 0, 0, 0, 0), (7, .iload_n 2, 1, 0, 0, 0, 0), (8, .invokestatic 55, 3, 2, 13, 0, 0), (11, .ifCond .eq 24, 3, 0, 0, 0, 0), (14, .iload_n 3, 1, 0, 0, 0, 0), (15, .iconst 1, 1, 0, 0, 0, 0), (16, .bipush 99, 2, 0, 0, 0, 0), (18, .invokestatic 59, 3, 2, 14, 0, 0), (21, .ifCond .eq 14, 3, 0, 0, 0, 0), (24, .iload 4, 2, 0, 0, 0, 0), (26, .iconst 0, 1, 0, 0, 0, 0), (27, .bipush 99, 2, 0, 0, 0, 0), (29, .invokestatic 59, 3, 2, 14, 0, 0), (32, .ifCond .ne 10, 3, 0, 0, 0, 0), (35, .aload_n 0, 1, 0, 0, 0, 0), (36, .ldc 63, 2, 6, 0, 0, -100001), (38, .invokevirtual 64, 3, 2, 15, 0, 0), (41, .ireturn, 1, 0, 0, 0, 0), (42, .aload_n 0, 1, 0, 0, 0, 0), (43, .getfield 10, 3, 0, 11, 0, 0), (46, .getfield 81, 3, 1, 10, 2, 0), (49, .bipush 10, 2, 0, 0, 0, 0), (51, .if_icmp .lt 10, 3, 0, 0, 0, 0), (54, .aload_n 0, 1, 0, 0, 0, 0), (55, .ldc 84, 2, 6, 0, 0, -100005), (57, .invokevirtual 64, 3, 2, 15, 0, 0), (60, .ireturn, 1, 0, 0, 0, 0), (61, .aload_n 0, 1, 0, 0, 0, 0), (62, .getfield 10, 3, 0, 11, 0, 0), (65, .iload_n 1, 1, 0, 0, 0, 0), (66, .iload_n 2, 1, 0, 0, 0, 0), (67, .iload_n 3, 1, 0, 0, 0, 0), (68, .iload 4, 2, 0, 0, 0, 0), (70, .invokevirtual 85, 3, 2, 19, 0, 0), (73, .ireturn, 1, 0, 0, 0, 0)]
set_option maxRecDepth 100000 in
theorem sx_k17 : sx_c17.all (sx_chk 11 prog_1_method_3_code) = true := by decide +kernel
def sx_c18 : List sx_I := [(0, .iload_n 0, 1, 0, 0, 0, 0), (1, .iconst 0, 1, 0, 0, 0, 0), (2, .iconst 5, 1, 0, 0, 0, 0), (3, .invokestatic 59, 3, 2, 14, 0, 0), (6, .ireturn, 1, 0, 0, 0, 0)]
set_option maxRecDepth 100000 in
theorem sx_k18 : sx_c18.all (sx_chk 11 prog_1_method_50_code) = true := by decide +kernel
def sx_c19 : List sx_I := [(0, .aload_n 0, 1, 0, 0, 0, 0), (1, .getfield 60, 3, 0, 10, 2, 0), (4, .istore 5, 2, 0, 0, 0, 0), (6, .aload_n 0, 1, 0, 0, 0, 0), (7, .iload 5, 2, 0, 0, 0, 0), (9, .invokevirtual 107, 3, 2, 20, 0, 0), (12, .iload_n 1, 1, 0, 0, 0, 0), (13, .iload_n 2, 1, 0, 0, 0, 0), (14, .iload_n 3, 1, 0, 0, 0, 0), (15, .iload 4, 2, 0, 0, 0, 0), (17, .invokevirtual 111, 3, 2, 21, 0, 0), (20, .aload_n 0, 1, 0, 0, 0, 0), (21, .dup, 1, 0, 0, 0, 0), (22, .getfield 60, 3, 0, 10, 2, 0), (25, .iconst 1, 1, 0, 0, 0, 0), (26, .iadd, 1, 0, 0, 0, 0), (27, .putfield 60, 3, 0, 10, 2, 0), (30, .iload 5, 2, 0, 0, 0, 0), (32, .ireturn, 1, 0, 0, 0, 0)]
set_option maxRecDepth 100000 in
theorem sx_k19 : sx_c19.all (sx_chk 10 prog_12_method_11_code) = true := by decide +kernel
def sx_c20 : List sx_I := [(0, .aload_n 0, 1, 0, 0, 0, 0), (1, .getfield 20, 3, 0, 10, 1, 0), (4, .iload_n 1, 1, 0, 0, 0, 0), (5, .iconst 0, 1, 0, 0, 0, 0), (6, .bipush 9, 2, 0, 0, 0, 0), (8, .invokestatic 91, 3, 3, 14, 0, 0), (11, .ifCond .eq 7, 3, 0, 0, 0, 0), (14, .iload_n 1, 1, 0, 0, 0, 0), (15, .goto 4, 3, 0, 0, 0, 0), (18, .iconst 0, 1, 0, 0, 0, 0), (19, .aaload, 1, 0, 0, 0, 0), (20, .areturn, 1, 0, 0, 0, 0)]
set_option maxRecDepth 100000 in
theorem sx_k20 : sx_c20.all (sx_chk 10 prog_12_method_6_code) = true := by decide +kernel
def sx_c21 : List sx_I := [(0, .aload_n 0, 1, 0, 0, 0, 0), (1, .iload_n 1, 1, 0, 0, 0, 0), (2, .putfield 9, 3, 0, 4, 0, 0), (5, .aload_n 0, 1, 0, 0, 0, 0), (6, .iload_n 2, 1, 0, 0, 0, 0), (7, .putfield 15, 3, 0, 4, 1, 0), (10, .aload_n 0, 1, 0, 0, 0, 0), (11, .iload_n 3, 1, 0, 0, 0, 0), (12, .putfield 18, 3, 0, 4, 2, 0), (15, .aload_n 0, 1, 0, 0, 0, 0), (16, .iload 4, 2, 0, 0, 0, 0), (18, .putfield 21, 3, 0, 4, 3, 0), (21, .aload_n 0, 1, 0, 0, 0, 0), (22, .iconst 0, 1, 0, 0, 0, 0), (23, .putfield 28, 3, 0, 4, 4, 0), (26, .aload_n 0, 1, 0, 0, 0, 0), (27, .iconst 0, 1, 0, 0, 0, 0), (28, .putfield 31, 3, 0, 4, 5, 0), (31, .aload_n 0, 1, 0, 0, 0, 0), (32, .iconst 0, 1, 0, 0, 0, 0), (33, .putfield 34, 3, 0, 4, 6, 0), (36, .return_, 1, 0, 0, 0, 0)]
set_option maxRecDepth 100000 in
theorem sx_k21 : sx_c21.all (sx_chk 4 prog_6_method_3_code) = true := by decide +kernel
def sx_c22 : List sx_I := [(0, .aload_n 0, 1, 0, 0, 0, 0), (1, .getfield 10, 3, 0, 11, 0, 0), (4, .iload_n 1, 1, 0, 0, 0, 0), (5, .invokevirtual 89, 3, 2, 23, 0, 0), (8, .ifCond .eq 10, 3, 0, 0, 0, 0), (11, .iload_n 2, 1, 0, 0, 0, 0), (12, .invokestatic 78, 3, 2, 18, 0, 0), (15, .ifCond .ne 10, 3, 0, 0, 0, 0), (18, .aload_n 0, 1, 0, 0, 0, 0), (19, .ldc 63, 2, 6, 0, 0, -100001), (21, .invokevirtual 64, 3, 2, 15, 0, 0), (24, .ireturn, 1, 0, 0, 0, 0), (25, .aload_n 0, 1, 0, 0, 0, 0), (26, .getfield 10, 3, 0, 11, 0, 0), (29, .iload_n 1, 1, 0, 0, 0, 0), (30, .invokevirtual 92, 3, 2, 20, 0, 0), (33, .iload_n 2, 1, 0, 0, 0, 0), (34, .invokevirtual 96, 3, 2, 24, 0, 0), (37, .ifCond .eq 7, 3, 0, 0, 0, 0), (40, .iload_n 1, 1, 0, 0, 0, 0), (41, .goto 9, 3, 0, 0, 0, 0), (44, .aload_n 0, 1, 0, 0, 0, 0), (45, .ldc 101, 2, 6, 0, 0, -100004), (47, .invokevirtual 64, 3, 2, 15, 0, 0), (50, .ireturn, 1, 0, 0, 0, 0)]
set_option maxRecDepth 100000 in
theorem sx_k22 : sx_c22.all (sx_chk 11 prog_1_method_4_code) = true := by decide +kernel
def sx_c23 : List sx_I := [(0, .iload_n 1, 1, 0, 0, 0, 0), (1, .iconst 0, 1, 0, 0, 0, 0), (2, .aload_n 0, 1, 0, 0, 0, 0), (3, .getfield 60, 3, 0, 10, 2, 0), (6, .iconst 1, 1, 0, 0, 0, 0), (7, .isub, 1, 0, 0, 0, 0), (8, .invokestatic 91, 3, 3, 14, 0, 0), (11, .ireturn, 1, 0, 0, 0, 0)]
set_option maxRecDepth 100000 in
theorem sx_k23 : sx_c23.all (sx_chk 10 prog_12_method_3_code) = true := by decide +kernel
def sx_c24 : List sx_I := [(0, .aload_n 0, 1, 0, 0, 0, 0), (1, .getfield 9, 3, 0, 4, 0, 0), (4, .istore_n 2, 1, 0, 0, 0, 0), (5, .iconst 0, 1, 0, 0, 0, 0), (6, .istore_n 3, 1, 0, 0, 0, 0), (7, .iload_n 3, 1, 0, 0, 0, 0), (8, .bipush 6, 2, 0, 0, 0, 0), (10, .if_icmp .ge 29, 3, 0, 0, 0, 0), (13, .iload_n 2, 1, 0, 0, 0, 0), (14, .invokestatic 38, 3, 3, 18, 0, 0), (17, .ifCond .eq 22, 3, 0, 0, 0, 0), (20, .iload_n 2, 1, 0, 0, 0, 0), (21, .iload_n 1, 1, 0, 0, 0, 0), (22, .if_icmp .ne 5, 3, 0, 0, 0, 0), (25, .iconst 1, 1, 0, 0, 0, 0), (26, .ireturn, 1, 0, 0, 0, 0), (27, .getstatic 42, 3, 11, 0, 0, 0), (30, .iload_n 2, 1, 0, 0, 0, 0), (31, .iaload, 1, 0, 0, 0, 0), (32, .istore_n 2, 1, 0, 0, 0, 0), (33, .iinc 3 1, 3, 0, 0, 0, 0), (36, .goto (-29), 3, 0, 0, 0, 0), (39, .iconst 0, 1, 0, 0, 0, 0), (40, .ireturn, 1, 0, 0, 0, 0)]
set_option maxRecDepth 100000 in
theorem sx_k24 : sx_c24.all (sx_chk 4 prog_6_method_4_code) = true := by decide +kernel
def sx_c25 : List sx_I := [(0, .aload_n 0, 1, 0, 0, 0, 0), (1, .getfield 10, 3, 0, 11, 0, 0), (4, .iload_n 1, 1, 0, 0, 0, 0), (5, .invokevirtual 89, 3, 2, 23, 0, 0), (8, .ifCond .ne 10, 3, 0, 0, 0, 0), (11, .aload_n 0, 1, 0, 0, 0, 0), (12, .ldc 63, 2, 6, 0, 0, -100001), (14, .invokevirtual 64, 3, 2, 15, 0, 0), (17, .ireturn, 1, 0, 0, 0, 0), (18, .aload_n 0, 1, 0, 0, 0, 0), (19, .getfield 10, 3, 0, 11, 0, 0), (22, .iload_n 1, 1, 0, 0, 0, 0), (23, .invokevirtual 92, 3, 2, 20, 0, 0), (26, .astore_n 3, 1, 0, 0, 0, 0), (27, .iload_n 2, 1, 0, 0, 0, 0), (28, .tableswitch 125 0 9 #[56, 61, 66, 71, 76, 81, 86, 95, 100, 112], 56, 0, 0, 0, 0), (84, .aload_n 3, 1, 0, 0, 0, 0), (85, .getfield 102, 3, 1, 4, 0, 0), (88, .ireturn, 1, 0, 0, 0, 0), (89, .aload_n 3, 1, 0, 0, 0, 0), (90, .getfield 105, 3, 1, 4, 1, 0), (93, .ireturn, 1, 0, 0, 0, 0), (94, .aload_n 3, 1, 0, 0, 0, 0), (95, .getfield 108, 3, 1, 4, 2, 0), (98, .ireturn, 1, 0, 0, 0, 0), (99, .aload_n 3, 1, 0, 0, 0, 0), (100, .getfield 111, 3, 1, 4, 3, 0), (103, .ireturn, 1, 0, 0, 0, 0), (104, .aload_n 3, 1, 0, 0, 0, 0), (105, .getfield 114, 3, 1, 4, 4, 0), (108, .ireturn, 1, 0, 0, 0, 0), (109, .aload_n 3, 1, 0, 0, 0, 0), (110, .getfield 117, 3, 1, 4, 5, 0), (113, .ireturn, 1, 0, 0, 0, 0), (114, .aload_n 0, 1, 0, 0, 0, 0), (115, .invokevirtual 120, 3, 2, 26, 0, 0), (118, .iload_n 1, 1, 0, 0, 0, 0), (119, .invokevirtual 124, 3, 2, 33, 0, 0), (122, .ireturn, 1, 0, 0, 0, 0), (123, .aload_n 3, 1, 0, 0, 0, 0), (124, .invokevirtual 127, 3, 2, 29, 0, 0), (127, .ireturn, 1, 0, 0, 0, 0), (128, .aload_n 0, 1, 0, 0, 0, 0), (129, .invokevirtual 120, 3, 2, 26, 0, 0), (132, .iload_n 1, 1, 0, 0, 0, 0), (133, .invokevirtual 131, 3, 2, 34, 0, 0), (136, .invokestatic 134, 3, 2, 36, 0, 0), (139, .ireturn, 1, 0, 0, 0, 0), (140, .aload_n 3, 1, 0, 0, 0, 0), (141, .getfield 137, 3, 1, 4, 6, 0), (144, .ifCond .eq 7, 3, 0, 0, 0, 0), (147, .iconst 1, 1, 0, 0, 0, 0), (148, .goto 4, 3, 0, 0, 0, 0), (151, .iconst 0, 1, 0, 0, 0, 0), (152, .ireturn, 1, 0, 0, 0, 0), (153, .aload_n 0, 1, 0, 0, 0, 0), (154, .ldc 63, 2, 6, 0, 0, -100001), (156, .invokevirtual 64, 3, 2, 15, 0, 0), (159, .ireturn, 1, 0, 0, 0, 0)]
set_option maxRecDepth 100000 in
theorem sx_k25 : sx_c25.all (sx_chk 11 prog_1_method_5_code) = true := by decide +kernel
def sx_c26 : List sx_I := [(0, .aload_n 0, 1, 0, 0, 0, 0), (1, .getfield 40, 3, 0, 11, 5, 0), (4, .aload_n 0, 1, 0, 0, 0, 0), (5, .getfield 10, 3, 0, 11, 0, 0), (8, .invokevirtual 454, 3, 2, 27, 0, 0), (11, .aload_n 0, 1, 0, 0, 0, 0), (12, .getfield 40, 3, 0, 11, 5, 0), (15, .areturn, 1, 0, 0, 0, 0)]
set_option maxRecDepth 100000 in
theorem sx_k26 : sx_c26.all (sx_chk 11 prog_1_method_43_code) = true := by decide +kernel
def sx_c27 : List sx_I := [(0, .aload_n 0, 1, 0, 0, 0, 0), (1, .iconst 0, 1, 0, 0, 0, 0), (2, .putfield 24, 3, 0, 2, 5, 0), (5, .iconst 0, 1, 0, 0, 0, 0), (6, .istore_n 2, 1, 0, 0, 0, 0), (7, .iload_n 2, 1, 0, 0, 0, 0), (8, .bipush 10, 2, 0, 0, 0, 0), (10, .if_icmp .ge 54, 3, 0, 0, 0, 0), (13, .aload_n 0, 1, 0, 0, 0, 0), (14, .getfield 21, 3, 0, 2, 3, 0), (17, .iload_n 2, 1, 0, 0, 0, 0), (18, .aload_n 1, 1, 0, 0, 0, 0), (19, .iload_n 2, 1, 0, 0, 0, 0), (20, .invokevirtual 28, 3, 2, 20, 0, 0), (23, .invokevirtual 34, 3, 2, 28, 0, 0), (26, .iastore, 1, 0, 0, 0, 0), (27, .aload_n 1, 1, 0, 0, 0, 0), (28, .iload_n 2, 1, 0, 0, 0, 0), (29, .invokevirtual 40, 3, 2, 23, 0, 0), (32, .ifCond .eq 26, 3, 0, 0, 0, 0), (35, .aload_n 1, 1, 0, 0, 0, 0), (36, .iload_n 2, 1, 0, 0, 0, 0), (37, .invokevirtual 28, 3, 2, 20, 0, 0), (40, .getfield 44, 3, 1, 4, 6, 0), (43, .ifCond .ne 15, 3, 0, 0, 0, 0), (46, .aload_n 0, 1, 0, 0, 0, 0), (47, .dup, 1, 0, 0, 0, 0), (48, .getfield 24, 3, 0, 2, 5, 0), (51, .iconst 1, 1, 0, 0, 0, 0), (52, .iload_n 2, 1, 0, 0, 0, 0), (53, .ishl, 1, 0, 0, 0, 0), (54, .ior, 1, 0, 0, 0, 0), (55, .putfield 24, 3, 0, 2, 5, 0), (58, .iinc 2 1, 3, 0, 0, 0, 0), (61, .goto (-54), 3, 0, 0, 0, 0), (64, .iconst 0, 1, 0, 0, 0, 0), (65, .istore_n 2, 1, 0, 0, 0, 0), (66, .iload_n 2, 1, 0, 0, 0, 0), (67, .bipush 14, 2, 0, 0, 0, 0), (69, .if_icmp .ge 48, 3, 0, 0, 0, 0), (72, .aload_n 1, 1, 0, 0, 0, 0), (73, .iload_n 2, 1, 0, 0, 0, 0), (74, .invokevirtual 48, 3, 2, 30, 0, 0), (77, .astore_n 3, 1, 0, 0, 0, 0), (78, .aload_n 3, 1, 0, 0, 0, 0), (79, .getfield 52, 3, 1, 3, 6, 0), (82, .ifCond .ne 29, 3, 0, 0, 0, 0), (85, .aload_n 3, 1, 0, 0, 0, 0), (86, .getfield 57, 3, 1, 3, 0, 0), (89, .iconst 0, 1, 0, 0, 0, 0), (90, .bipush 9, 2, 0, 0, 0, 0), (92, .invokestatic 60, 3, 3, 14, 0, 0), (95, .ifCond .eq 16, 3, 0, 0, 0, 0), (98, .aload_n 0, 1, 0, 0, 0, 0), (99, .getfield 21, 3, 0, 2, 3, 0), (102, .aload_n 3, 1, 0, 0, 0, 0), (103, .getfield 57, 3, 1, 3, 0, 0), (106, .dup2, 1, 0, 0, 0, 0), (107, .iaload, 1, 0, 0, 0, 0), (108, .iconst 2, 1, 0, 0, 0, 0), (109, .iadd, 1, 0, 0, 0, 0), (110, .iastore, 1, 0, 0, 0, 0), (111, .iinc 2 1, 3, 0, 0, 0, 0), (114, .goto (-48), 3, 0, 0, 0, 0), (117, .aload_n 0, 1, 0, 0, 0, 0), (118, .iconst 0, 1, 0, 0, 0, 0), (119, .putfield 64, 3, 0, 2, 4, 0), (122, .iconst 0, 1, 0, 0, 0, 0), (123, .istore_n 2, 1, 0, 0, 0, 0), (124, .iload_n 2, 1, 0, 0, 0, 0), (125, .bipush 12, 2, 0, 0, 0, 0), (127, .if_icmp .ge 88, 3, 0, 0, 0, 0), (130, .aload_n 1, 1, 0, 0, 0, 0), (131, .iload_n 2, 1, 0, 0, 0, 0), (132, .invokevirtual 67, 3, 2, 31, 0, 0), (135, .astore_n 3, 1, 0, 0, 0, 0), (136, .aload_n 0, 1, 0, 0, 0, 0), (137, .getfield 9, 3, 0, 2, 0, 0), (140, .iload_n 2, 1, 0, 0, 0, 0), (141, .iconst 1, 1, 0, 0, 0, 0), (142, .aload_n 3, 1, 0, 0, 0, 0), (143, .getfield 71, 3, 1, 5, 0, 0), (146, .ishl, 1, 0, 0, 0, 0), (147, .iconst 1, 1, 0, 0, 0, 0), (148, .aload_n 3, 1, 0, 0, 0, 0), (149, .getfield 76, 3, 1, 5, 1, 0), (152, .ishl, 1, 0, 0, 0, 0), (153, .ior, 1, 0, 0, 0, 0), (154, .iastore, 1, 0, 0, 0, 0), (155, .aload_n 0, 1, 0, 0, 0, 0), (156, .getfield 15, 3, 0, 2, 1, 0), (159, .iload_n 2, 1, 0, 0, 0, 0), (160, .aload_n 3, 1, 0, 0, 0, 0), (161, .invokevirtual 79, 3, 2, 32, 0, 0), (164, .iastore, 1, 0, 0, 0, 0), (165, .aload_n 0, 1, 0, 0, 0, 0), (166, .getfield 18, 3, 0, 2, 2, 0), (169, .iload_n 2, 1, 0, 0, 0, 0), (170, .aload_n 0, 1, 0, 0, 0, 0), (171, .aload_n 3, 1, 0, 0, 0, 0), (172, .getfield 71, 3, 1, 5, 0, 0), (175, .invokevirtual 81, 3, 2, 33, 0, 0), (178, .aload_n 0, 1, 0, 0, 0, 0), (179, .aload_n 3, 1, 0, 0, 0, 0), (180, .getfield 76, 3, 1, 5, 1, 0), (183, .invokevirtual 81, 3, 2, 33, 0, 0), (186, .invokestatic 85, 3, 14, 0, 0, 0), (189, .iastore, 1, 0, 0, 0, 0), (190, .aload_n 3, 1, 0, 0, 0, 0), (191, .getfield 91, 3, 1, 5, 7, 0), (194, .ifCond .eq 15, 3, 0, 0, 0, 0), (197, .aload_n 0, 1, 0, 0, 0, 0), (198, .dup, 1, 0, 0, 0, 0), (199, .getfield 64, 3, 0, 2, 4, 0), (202, .iconst 1, 1, 0, 0, 0, 0), (203, .iload_n 2, 1, 0, 0, 0, 0), (204, .ishl, 1, 0, 0, 0, 0), (205, .ior, 1, 0, 0, 0, 0), (206, .putfield 64, 3, 0, 2, 4, 0), (209, .iinc 2 1, 3, 0, 0, 0, 0), (212, .goto (-88), 3, 0, 0, 0, 0), (215, .return_, 1, 0, 0, 0, 0)]
set_option maxRecDepth 100000 in
theorem sx_k27 : sx_c27.all (sx_chk 2 prog_4_method_2_code) = true := by decide +kernel
def sx_c28 : List sx_I := [(0, .iconst 5, 1, 0, 0, 0, 0), (1, .iconst 2, 1, 0, 0, 0, 0), (2, .aload_n 0, 1, 0, 0, 0, 0), (3, .invokevirtual 49, 3, 2, 29, 0, 0), (6, .imul, 1, 0, 0, 0, 0), (7, .iadd, 1, 0, 0, 0, 0), (8, .aload_n 0, 1, 0, 0, 0, 0), (9, .getfield 28, 3, 0, 4, 4, 0), (12, .iadd, 1, 0, 0, 0, 0), (13, .aload_n 0, 1, 0, 0, 0, 0), (14, .getfield 31, 3, 0, 4, 5, 0), (17, .iadd, 1, 0, 0, 0, 0), (18, .aload_n 0, 1, 0, 0, 0, 0), (19, .getfield 9, 3, 0, 4, 0, 0), (22, .iconst 2, 1, 0, 0, 0, 0), (23, .if_icmp .ne 7, 3, 0, 0, 0, 0), (26, .iconst 5, 1, 0, 0, 0, 0), (27, .goto 4, 3, 0, 0, 0, 0), (30, .iconst 0, 1, 0, 0, 0, 0), (31, .iadd, 1, 0, 0, 0, 0), (32, .ireturn, 1, 0, 0, 0, 0)]
set_option maxRecDepth 100000 in
theorem sx_k28 : sx_c28.all (sx_chk 4 prog_6_method_6_code) = true := by decide +kernel
def sx_c29 : List sx_I := [(0, .aload_n 0, 1, 0, 0, 0, 0), (1, .getfield 9, 3, 0, 4, 0, 0), (4, .ifCond .lt 23, 3, 0, 0, 0, 0), (7, .aload_n 0, 1, 0, 0, 0, 0), (8, .getfield 9, 3, 0, 4, 0, 0), (11, .bipush 6, 2, 0, 0, 0, 0), (13, .if_icmp .ge 14, 3, 0, 0, 0, 0), (16, .getstatic 46, 3, 11, 1, 0, 0), (19, .aload_n 0, 1, 0, 0, 0, 0), (20, .getfield 9, 3, 0, 4, 0, 0), (23, .iaload, 1, 0, 0, 0, 0), (24, .goto 4, 3, 0, 0, 0, 0), (27, .iconst 0, 1, 0, 0, 0, 0), (28, .ireturn, 1, 0, 0, 0, 0)]
set_option maxRecDepth 100000 in
theorem sx_k29 : sx_c29.all (sx_chk 4 prog_6_method_5_code) = true := by decide +kernel
def sx_c30 : List sx_I := [(0, .aload_n 0, 1, 0, 0, 0, 0), (1, .getfield 26, 3, 0, 10, 3, 0), (4, .iload_n 1, 1, 0, 0, 0, 0), (5, .iconst 0, 1, 0, 0, 0, 0), (6, .bipush 13, 2, 0, 0, 0, 0), (8, .invokestatic 91, 3, 3, 14, 0, 0), (11, .ifCond .eq 7, 3, 0, 0, 0, 0), (14, .iload_n 1, 1, 0, 0, 0, 0), (15, .goto 4, 3, 0, 0, 0, 0), (18, .iconst 0, 1, 0, 0, 0, 0), (19, .aaload, 1, 0, 0, 0, 0), (20, .areturn, 1, 0, 0, 0, 0)]
set_option maxRecDepth 100000 in
theorem sx_k30 : sx_c30.all (sx_chk 10 prog_12_method_7_code) = true := by decide +kernel
def sx_c31 : List sx_I := [(0, .aload_n 0, 1, 0, 0, 0, 0), (1, .getfield 32, 3, 0, 10, 5, 0), (4, .iload_n 1, 1, 0, 0, 0, 0), (5, .iconst 0, 1, 0, 0, 0, 0), (6, .bipush 11, 2, 0, 0, 0, 0), (8, .invokestatic 91, 3, 3, 14, 0, 0), (11, .ifCond .eq 7, 3, 0, 0, 0, 0), (14, .iload_n 1, 1, 0, 0, 0, 0), (15, .goto 4, 3, 0, 0, 0, 0), (18, .iconst 0, 1, 0, 0, 0, 0), (19, .aaload, 1, 0, 0, 0, 0), (20, .areturn, 1, 0, 0, 0, 0)]
set_option maxRecDepth 100000 in
theorem sx_k31 : sx_c31.all (sx_chk 10 prog_12_method_8_code) = true := by decide +kernel
def sx_c32 : List sx_I := [(0, .iconst 0, 1, 0, 0, 0, 0), (1, .aload_n 0, 1, 0, 0, 0, 0), (2, .getfield 22, 3, 0, 5, 4, 0), (5, .aload_n 0, 1, 0, 0, 0, 0), (6, .getfield 29, 3, 0, 5, 5, 0), (9, .iconst 3, 1, 0, 0, 0, 0), (10, .idiv, 1, 0, 0, 0, 0), (11, .isub, 1, 0, 0, 0, 0), (12, .iconst 2, 1, 0, 0, 0, 0), (13, .aload_n 0, 1, 0, 0, 0, 0), (14, .getfield 32, 3, 0, 5, 6, 0), (17, .imul, 1, 0, 0, 0, 0), (18, .isub, 1, 0, 0, 0, 0), (19, .invokestatic 39, 3, 13, 0, 0, 0), (22, .ireturn, 1, 0, 0, 0, 0)]
set_option maxRecDepth 100000 in
theorem sx_k32 : sx_c32.all (sx_chk 5 prog_7_method_4_code) = true := by decide +kernel
def sx_c33 : List sx_I := [(0, .iload_n 1, 1, 0, 0, 0, 0), (1, .iconst 0, 1, 0, 0, 0, 0), (2, .bipush 9, 2, 0, 0, 0, 0), (4, .invokestatic 60, 3, 3, 14, 0, 0), (7, .ifCond .eq 12, 3, 0, 0, 0, 0), (10, .aload_n 0, 1, 0, 0, 0, 0), (11, .getfield 21, 3, 0, 2, 3, 0), (14, .iload_n 1, 1, 0, 0, 0, 0), (15, .iaload, 1, 0, 0, 0, 0), (16, .goto 4, 3, 0, 0, 0, 0), (19, .iconst 0, 1, 0, 0, 0, 0), (20, .ireturn, 1, 0, 0, 0, 0)]
set_option maxRecDepth 100000 in
theorem sx_k33 : sx_c33.all (sx_chk 2 prog_4_method_3_code) = true := by decide +kernel
def sx_c34 : List sx_I := [(0, .aload_n 0, 1, 0, 0, 0, 0), (1, .iconst 1, 1, 0, 0, 0, 0), (2, .iload_n 1, 1, 0, 0, 0, 0), (3, .ishl, 1, 0, 0, 0, 0), (4, .aload_n 0, 1, 0, 0, 0, 0), (5, .getfield 64, 3, 0, 2, 4, 0), (8, .invokevirtual 94, 3, 2, 35, 0, 0), (11, .ireturn, 1, 0, 0, 0, 0)]
set_option maxRecDepth 100000 in
theorem sx_k34 : sx_c34.all (sx_chk 2 prog_4_method_6_code) = true := by decide +kernel
def sx_c35 : List sx_I := [(0, .iload_n 1, 1, 0, 0, 0, 0), (1, .istore_n 3, 1, 0, 0, 0, 0), (2, .iconst 0, 1, 0, 0, 0, 0), (3, .istore 4, 2, 0, 0, 0, 0), (5, .iload 4, 2, 0, 0, 0, 0), (7, .bipush 10, 2, 0, 0, 0, 0), (9, .if_icmp .ge 68, 3, 0, 0, 0, 0), (12, .iload_n 3, 1, 0, 0, 0, 0), (13, .istore 5, 2, 0, 0, 0, 0), (15, .iconst 0, 1, 0, 0, 0, 0), (16, .istore 6, 2, 0, 0, 0, 0), (18, .iload 6, 2, 0, 0, 0, 0), (20, .bipush 12, 2, 0, 0, 0, 0), (22, .if_icmp .ge 40, 3, 0, 0, 0, 0), (25, .iload_n 2, 1, 0, 0, 0, 0), (26, .iload 6, 2, 0, 0, 0, 0), (28, .ishr, 1, 0, 0, 0, 0), (29, .iconst 1, 1, 0, 0, 0, 0), (30, .iand, 1, 0, 0, 0, 0), (31, .ifCond .eq 25, 3, 0, 0, 0, 0), (34, .aload_n 0, 1, 0, 0, 0, 0), (35, .getfield 9, 3, 0, 2, 0, 0), (38, .iload 6, 2, 0, 0, 0, 0), (40, .iaload, 1, 0, 0, 0, 0), (41, .iload_n 3, 1, 0, 0, 0, 0), (42, .iand, 1, 0, 0, 0, 0), (43, .ifCond .eq 13, 3, 0, 0, 0, 0), (46, .iload_n 3, 1, 0, 0, 0, 0), (47, .aload_n 0, 1, 0, 0, 0, 0), (48, .getfield 9, 3, 0, 2, 0, 0), (51, .iload 6, 2, 0, 0, 0, 0), (53, .iaload, 1, 0, 0, 0, 0), (54, .ior, 1, 0, 0, 0, 0), (55, .istore_n 3, 1, 0, 0, 0, 0), (56, .iinc 6 1, 3, 0, 0, 0, 0), (59, .goto (-41), 3, 0, 0, 0, 0), (62, .iload_n 3, 1, 0, 0, 0, 0), (63, .iload 5, 2, 0, 0, 0, 0), (65, .if_icmp .ne 6, 3, 0, 0, 0, 0), (68, .goto 9, 3, 0, 0, 0, 0), (71, .iinc 4 1, 3, 0, 0, 0, 0), (74, .goto (-69), 3, 0, 0, 0, 0), (77, .iload_n 3, 1, 0, 0, 0, 0), (78, .ireturn, 1, 0, 0, 0, 0)]
set_option maxRecDepth 100000 in
theorem sx_k35 : sx_c35.all (sx_chk 2 prog_4_method_5_code) = true := by decide +kernel
def sx_c36 : List sx_I := [(0, .iload_n 0, 1, 0, 0, 0, 0), (1, .invokestatic 461, 3, 2, 37, 0, 0), (4, .ireturn, 1, 0, 0, 0, 0)]
set_option maxRecDepth 100000 in
theorem sx_k36 : sx_c36.all (sx_chk 11 prog_1_method_57_code) = true := by decide +kernel
def sx_c37 : List sx_I := [(0, .iload_n 0, 1, 0, 0, 0, 0), (1, .iconst (-1), 1, 0, 0, 0, 0), (2, .ixor, 1, 0, 0, 0, 0), (3, .iload_n 0, 1, 0, 0, 0, 0), (4, .iconst 1, 1, 0, 0, 0, 0), (5, .isub, 1, 0, 0, 0, 0), (6, .iand, 1, 0, 0, 0, 0), (7, .istore_n 0, 1, 0, 0, 0, 0), (8, .iload_n 0, 1, 0, 0, 0, 0), (9, .ifCond .gt 8, 3, 0, 0, 0, 0), (12, .iload_n 0, 1, 0, 0, 0, 0), (13, .bipush 32, 2, 0, 0, 0, 0), (15, .iand, 1, 0, 0, 0, 0), (16, .ireturn, 1, 0, 0, 0, 0), (17, .iconst 1, 1, 0, 0, 0, 0), (18, .istore_n 1, 1, 0, 0, 0, 0), (19, .iload_n 0, 1, 0, 0, 0, 0), (20, .ldc_w 264, 3, 6, 0, 0, 65536), (23, .if_icmp .le 11, 3, 0, 0, 0, 0), (26, .iinc 1 16, 3, 0, 0, 0, 0), (29, .iload_n 0, 1, 0, 0, 0, 0), (30, .bipush 16, 2, 0, 0, 0, 0), (32, .iushr, 1, 0, 0, 0, 0), (33, .istore_n 0, 1, 0, 0, 0, 0), (34, .iload_n 0, 1, 0, 0, 0, 0), (35, .sipush 256, 3, 0, 0, 0, 0), (38, .if_icmp .le 11, 3, 0, 0, 0, 0), (41, .iinc 1 8, 3, 0, 0, 0, 0), (44, .iload_n 0, 1, 0, 0, 0, 0), (45, .bipush 8, 2, 0, 0, 0, 0), (47, .iushr, 1, 0, 0, 0, 0), (48, .istore_n 0, 1, 0, 0, 0, 0), (49, .iload_n 0, 1, 0, 0, 0, 0), (50, .bipush 16, 2, 0, 0, 0, 0), (52, .if_icmp .le 10, 3, 0, 0, 0, 0), (55, .iinc 1 4, 3, 0, 0, 0, 0), (58, .iload_n 0, 1, 0, 0, 0, 0), (59, .iconst 4, 1, 0, 0, 0, 0), (60, .iushr, 1, 0, 0, 0, 0), (61, .istore_n 0, 1, 0, 0, 0, 0), (62, .iload_n 0, 1, 0, 0, 0, 0), (63, .iconst 4, 1, 0, 0, 0, 0), (64, .if_icmp .le 10, 3, 0, 0, 0, 0), (67, .iinc 1 2, 3, 0, 0, 0, 0), (70, .iload_n 0, 1, 0, 0, 0, 0), (71, .iconst 2, 1, 0, 0, 0, 0), (72, .iushr, 1, 0, 0, 0, 0), (73, .istore_n 0, 1, 0, 0, 0, 0), (74, .iload_n 1, 1, 0, 0, 0, 0), (75, .iload_n 0, 1, 0, 0, 0, 0), (76, .iconst 1, 1, 0, 0, 0, 0), (77, .iushr, 1, 0, 0, 0, 0), (78, .iadd, 1, 0, 0, 0, 0), (79, .ireturn, 1, 0, 0, 0, 0)]
set_option maxRecDepth 100000 in
theorem sx_k37 : sx_c37.all (sx_chk 14 prog_15_method_48_code) = true := by decide +kernel
def sx_c38 : List sx_I := [(0, .aload_n 0, 1, 0, 0, 0, 0), (1, .getfield 10, 3, 0, 11, 0, 0), (4, .iload_n 1, 1, 0, 0, 0, 0), (5, .invokevirtual 89, 3, 2, 23, 0, 0), (8, .ifCond .eq 13, 3, 0, 0, 0, 0), (11, .iload_n 2, 1, 0, 0, 0, 0), (12, .iconst 0, 1, 0, 0, 0, 0), (13, .bipush 99, 2, 0, 0, 0, 0), (15, .invokestatic 59, 3, 2, 14, 0, 0), (18, .ifCond .ne 10, 3, 0, 0, 0, 0), (21, .aload_n 0, 1, 0, 0, 0, 0), (22, .ldc 63, 2, 6, 0, 0, -100001), (24, .invokevirtual 64, 3, 2, 15, 0, 0), (27, .ireturn, 1, 0, 0, 0, 0), (28, .aload_n 0, 1, 0, 0, 0, 0), (29, .getfield 10, 3, 0, 11, 0, 0), (32, .iload_n 1, 1, 0, 0, 0, 0), (33, .invokevirtual 92, 3, 2, 20, 0, 0), (36, .astore 4, 2, 0, 0, 0, 0), (38, .aload 4, 2, 0, 0, 0, 0), (40, .getfield 137, 3, 1, 4, 6, 0), (43, .ifCond .eq 10, 3, 0, 0, 0, 0), (46, .aload_n 0, 1, 0, 0, 0, 0), (47, .ldc 140, 2, 6, 0, 0, -100006), (49, .invokevirtual 64, 3, 2, 15, 0, 0), (52, .ireturn, 1, 0, 0, 0, 0), (53, .aload 4, 2, 0, 0, 0, 0), (55, .invokevirtual 141, 3, 2, 39, 0, 0), (58, .iload_n 2, 1, 0, 0, 0, 0), (59, .if_icmp .ge 10, 3, 0, 0, 0, 0), (62, .aload_n 0, 1, 0, 0, 0, 0), (63, .ldc 84, 2, 6, 0, 0, -100005), (65, .invokevirtual 64, 3, 2, 15, 0, 0), (68, .ireturn, 1, 0, 0, 0, 0), (69, .aload 4, 2, 0, 0, 0, 0), (71, .iload_n 2, 1, 0, 0, 0, 0), (72, .iload_n 3, 1, 0, 0, 0, 0), (73, .invokevirtual 144, 3, 2, 40, 0, 0), (76, .ireturn, 1, 0, 0, 0, 0)]
set_option maxRecDepth 100000 in
theorem sx_k38 : sx_c38.all (sx_chk 11 prog_1_method_6_code) = true := by decide +kernel
def sx_c39 : List sx_I := [(0, .aload_n 0, 1, 0, 0, 0, 0), (1, .getfield 21, 3, 0, 4, 3, 0), (4, .aload_n 0, 1, 0, 0, 0, 0), (5, .getfield 28, 3, 0, 4, 4, 0), (8, .isub, 1, 0, 0, 0, 0), (9, .aload_n 0, 1, 0, 0, 0, 0), (10, .getfield 31, 3, 0, 4, 5, 0), (13, .isub, 1, 0, 0, 0, 0), (14, .ireturn, 1, 0, 0, 0, 0)]
set_option maxRecDepth 100000 in
theorem sx_k39 : sx_c39.all (sx_chk 4 prog_6_method_7_code) = true := by decide +kernel
def sx_c40 : List sx_I := [(0, .iload_n 2, 1, 0, 0, 0, 0), (1, .ifCond .eq 16, 3, 0, 0, 0, 0), (4, .aload_n 0, 1, 0, 0, 0, 0), (5, .dup, 1, 0, 0, 0, 0), (6, .getfield 31, 3, 0, 4, 5, 0), (9, .iload_n 1, 1, 0, 0, 0, 0), (10, .iadd, 1, 0, 0, 0, 0), (11, .putfield 31, 3, 0, 4, 5, 0), (14, .goto 13, 3, 0, 0, 0, 0), (17, .aload_n 0, 1, 0, 0, 0, 0), (18, .dup, 1, 0, 0, 0, 0), (19, .getfield 28, 3, 0, 4, 4, 0), (22, .iload_n 1, 1, 0, 0, 0, 0), (23, .iadd, 1, 0, 0, 0, 0), (24, .putfield 28, 3, 0, 4, 4, 0), (27, .aload_n 0, 1, 0, 0, 0, 0), (28, .iload_n 2, 1, 0, 0, 0, 0), (29, .invokevirtual 53, 3, 2, 41, 0, 0), (32, .ireturn, 1, 0, 0, 0, 0)]
set_option maxRecDepth 100000 in
theorem sx_k40 : sx_c40.all (sx_chk 4 prog_6_method_9_code) = true := by decide +kernel
def sx_c41 : List sx_I := [(0, .iload_n 1, 1, 0, 0, 0, 0), (1, .ifCond .eq 10, 3, 0, 0, 0, 0), (4, .aload_n 0, 1, 0, 0, 0, 0), (5, .getfield 31, 3, 0, 4, 5, 0), (8, .goto 7, 3, 0, 0, 0, 0), (11, .aload_n 0, 1, 0, 0, 0, 0), (12, .getfield 28, 3, 0, 4, 4, 0), (15, .ireturn, 1, 0, 0, 0, 0)]
set_option maxRecDepth 100000 in
theorem sx_k41 : sx_c41.all (sx_chk 4 prog_6_method_8_code) = true := by decide +kernel
def sx_c42 : List sx_I := [(0, .aload_n 0, 1, 0, 0, 0, 0), (1, .getfield 10, 3, 0, 11, 0, 0), (4, .iload_n 1, 1, 0, 0, 0, 0), (5, .invokevirtual 89, 3, 2, 23, 0, 0), (8, .ifCond .eq 24, 3, 0, 0, 0, 0), (11, .aload_n 0, 1, 0, 0, 0, 0), (12, .getfield 10, 3, 0, 11, 0, 0), (15, .iload_n 2, 1, 0, 0, 0, 0), (16, .invokevirtual 89, 3, 2, 23, 0, 0), (19, .ifCond .eq 13, 3, 0, 0, 0, 0), (22, .iload_n 3, 1, 0, 0, 0, 0), (23, .iconst 0, 1, 0, 0, 0, 0), (24, .bipush 99, 2, 0, 0, 0, 0), (26, .invokestatic 59, 3, 2, 14, 0, 0), (29, .ifCond .ne 10, 3, 0, 0, 0, 0), (32, .aload_n 0, 1, 0, 0, 0, 0), (33, .ldc 63, 2, 6, 0, 0, -100001), (35, .invokevirtual 64, 3, 2, 15, 0, 0), (38, .ireturn, 1, 0, 0, 0, 0), (39, .aload_n 0, 1, 0, 0, 0, 0), (40, .getfield 10, 3, 0, 11, 0, 0), (43, .iload_n 1, 1, 0, 0, 0, 0), (44, .invokevirtual 92, 3, 2, 20, 0, 0), (47, .astore 5, 2, 0, 0, 0, 0), (49, .aload_n 0, 1, 0, 0, 0, 0), (50, .getfield 10, 3, 0, 11, 0, 0), (53, .iload_n 2, 1, 0, 0, 0, 0), (54, .invokevirtual 92, 3, 2, 20, 0, 0), (57, .astore 6, 2, 0, 0, 0, 0), (59, .aload 5, 2, 0, 0, 0, 0), (61, .getfield 137, 3, 1, 4, 6, 0), (64, .ifCond .ne 11, 3, 0, 0, 0, 0), (67, .aload 6, 2, 0, 0, 0, 0), (69, .getfield 137, 3, 1, 4, 6, 0), (72, .ifCond .eq 10, 3, 0, 0, 0, 0), (75, .aload_n 0, 1, 0, 0, 0, 0), (76, .ldc 140, 2, 6, 0, 0, -100006), (78, .invokevirtual 64, 3, 2, 15, 0, 0), (81, .ireturn, 1, 0, 0, 0, 0), (82, .iload_n 1, 1, 0, 0, 0, 0), (83, .iload_n 2, 1, 0, 0, 0, 0), (84, .if_icmp .ne 10, 3, 0, 0, 0, 0), (87, .aload_n 0, 1, 0, 0, 0, 0), (88, .ldc 148, 2, 6, 0, 0, -100003), (90, .invokevirtual 64, 3, 2, 15, 0, 0), (93, .ireturn, 1, 0, 0, 0, 0), (94, .aload_n 0, 1, 0, 0, 0, 0), (95, .invokevirtual 120, 3, 2, 26, 0, 0), (98, .iload_n 1, 1, 0, 0, 0, 0), (99, .iload_n 2, 1, 0, 0, 0, 0), (100, .invokevirtual 149, 3, 2, 43, 0, 0), (103, .ifCond .ne 10, 3, 0, 0, 0, 0), (106, .aload_n 0, 1, 0, 0, 0, 0), (107, .ldc 153, 2, 6, 0, 0, -100008), (109, .invokevirtual 64, 3, 2, 15, 0, 0), (112, .ireturn, 1, 0, 0, 0, 0), (113, .aload 5, 2, 0, 0, 0, 0), (115, .iload 4, 2, 0, 0, 0, 0), (117, .invokevirtual 154, 3, 2, 41, 0, 0), (120, .iload_n 3, 1, 0, 0, 0, 0), (121, .if_icmp .ge 10, 3, 0, 0, 0, 0), (124, .aload_n 0, 1, 0, 0, 0, 0), (125, .ldc 158, 2, 6, 0, 0, -100002), (127, .invokevirtual 64, 3, 2, 15, 0, 0), (130, .ireturn, 1, 0, 0, 0, 0), (131, .aload 6, 2, 0, 0, 0, 0), (133, .invokevirtual 141, 3, 2, 39, 0, 0), (136, .iload_n 3, 1, 0, 0, 0, 0), (137, .if_icmp .ge 10, 3, 0, 0, 0, 0), (140, .aload_n 0, 1, 0, 0, 0, 0), (141, .ldc 84, 2, 6, 0, 0, -100005), (143, .invokevirtual 64, 3, 2, 15, 0, 0), (146, .ireturn, 1, 0, 0, 0, 0), (147, .aload 5, 2, 0, 0, 0, 0), (149, .iload_n 3, 1, 0, 0, 0, 0), (150, .ineg, 1, 0, 0, 0, 0), (151, .iload 4, 2, 0, 0, 0, 0), (153, .invokevirtual 144, 3, 2, 40, 0, 0), (156, .pop, 1, 0, 0, 0, 0), (157, .aload 6, 2, 0, 0, 0, 0), (159, .iload_n 3, 1, 0, 0, 0, 0), (160, .iload 4, 2, 0, 0, 0, 0), (162, .invokevirtual 144, 3, 2, 40, 0, 0), (165, .ireturn, 1, 0, 0, 0, 0)]
set_option maxRecDepth 100000 in
theorem sx_k42 : sx_c42.all (sx_chk 11 prog_1_method_7_code) = true := by decide +kernel
def sx_c43 : List sx_I := [(0, .aload_n 0, 1, 0, 0, 0, 0), (1, .iload_n 1, 1, 0, 0, 0, 0), (2, .invokevirtual 97, 3, 2, 34, 0, 0), (5, .iload_n 2, 1, 0, 0, 0, 0), (6, .invokestatic 100, 3, 3, 44, 0, 0), (9, .ireturn, 1, 0, 0, 0, 0)]
set_option maxRecDepth 100000 in
theorem sx_k43 : sx_c43.all (sx_chk 2 prog_4_method_7_code) = true := by decide +kernel
def sx_c44 : List sx_I := [(0, .iload_n 0, 1, 0, 0, 0, 0), (1, .iload_n 1, 1, 0, 0, 0, 0), (2, .ishr, 1, 0, 0, 0, 0), (3, .iconst 1, 1, 0, 0, 0, 0), (4, .iand, 1, 0, 0, 0, 0), (5, .ifCond .eq 7, 3, 0, 0, 0, 0), (8, .iconst 1, 1, 0, 0, 0, 0), (9, .goto 4, 3, 0, 0, 0, 0), (12, .iconst 0, 1, 0, 0, 0, 0), (13, .ireturn, 1, 0, 0, 0, 0)]
set_option maxRecDepth 100000 in
theorem sx_k44 : sx_c44.all (sx_chk 11 prog_1_method_56_code) = true := by decide +kernel
def sx_c45 : List sx_I := [(0, .aload_n 0, 1, 0, 0, 0, 0), (1, .getfield 10, 3, 0, 11, 0, 0), (4, .iload_n 1, 1, 0, 0, 0, 0), (5, .invokevirtual 89, 3, 2, 23, 0, 0), (8, .ifCond .eq 24, 3, 0, 0, 0, 0), (11, .iload_n 2, 1, 0, 0, 0, 0), (12, .sipush (-9999), 3, 0, 0, 0, 0), (15, .iconst 0, 1, 0, 0, 0, 0), (16, .invokestatic 59, 3, 2, 14, 0, 0), (19, .ifCond .eq 13, 3, 0, 0, 0, 0), (22, .aload_n 0, 1, 0, 0, 0, 0), (23, .iload_n 3, 1, 0, 0, 0, 0), (24, .iload 4, 2, 0, 0, 0, 0), (26, .invokevirtual 159, 3, 2, 46, 0, 0), (29, .ifCond .ne 10, 3, 0, 0, 0, 0), (32, .aload_n 0, 1, 0, 0, 0, 0), (33, .ldc 63, 2, 6, 0, 0, -100001), (35, .invokevirtual 64, 3, 2, 15, 0, 0), (38, .ireturn, 1, 0, 0, 0, 0), (39, .aload_n 0, 1, 0, 0, 0, 0), (40, .getfield 10, 3, 0, 11, 0, 0), (43, .iload_n 1, 1, 0, 0, 0, 0), (44, .invokevirtual 92, 3, 2, 20, 0, 0), (47, .getfield 137, 3, 1, 4, 6, 0), (50, .ifCond .eq 10, 3, 0, 0, 0, 0), (53, .aload_n 0, 1, 0, 0, 0, 0), (54, .ldc 140, 2, 6, 0, 0, -100006), (56, .invokevirtual 64, 3, 2, 15, 0, 0), (59, .ireturn, 1, 0, 0, 0, 0), (60, .aload_n 0, 1, 0, 0, 0, 0), (61, .getfield 10, 3, 0, 11, 0, 0), (64, .getfield 162, 3, 1, 10, 4, 0), (67, .bipush 14, 2, 0, 0, 0, 0), (69, .if_icmp .lt 10, 3, 0, 0, 0, 0), (72, .aload_n 0, 1, 0, 0, 0, 0), (73, .ldc 84, 2, 6, 0, 0, -100005), (75, .invokevirtual 64, 3, 2, 15, 0, 0), (78, .ireturn, 1, 0, 0, 0, 0), (79, .aload_n 0, 1, 0, 0, 0, 0), (80, .getfield 10, 3, 0, 11, 0, 0), (83, .iload_n 1, 1, 0, 0, 0, 0), (84, .iload_n 2, 1, 0, 0, 0, 0), (85, .iload_n 3, 1, 0, 0, 0, 0), (86, .iload 4, 2, 0, 0, 0, 0), (88, .invokevirtual 165, 3, 2, 47, 0, 0), (91, .ireturn, 1, 0, 0, 0, 0)]
set_option maxRecDepth 100000 in
theorem sx_k45 : sx_c45.all (sx_chk 11 prog_1_method_8_code) = true := by decide +kernel
def sx_c46 : List sx_I := [(0, .iload_n 1, 1, 0, 0, 0, 0), (1, .iconst (-1), 1, 0, 0, 0, 0), (2, .aload_n 0, 1, 0, 0, 0, 0), (3, .getfield 10, 3, 0, 11, 0, 0), (6, .getfield 162, 3, 1, 10, 4, 0), (9, .iconst 1, 1, 0, 0, 0, 0), (10, .isub, 1, 0, 0, 0, 0), (11, .invokestatic 59, 3, 2, 14, 0, 0), (14, .ifCond .eq 33, 3, 0, 0, 0, 0), (17, .iload_n 2, 1, 0, 0, 0, 0), (18, .iconst (-1), 1, 0, 0, 0, 0), (19, .aload_n 0, 1, 0, 0, 0, 0), (20, .getfield 10, 3, 0, 11, 0, 0), (23, .getfield 162, 3, 1, 10, 4, 0), (26, .iconst 1, 1, 0, 0, 0, 0), (27, .isub, 1, 0, 0, 0, 0), (28, .invokestatic 59, 3, 2, 14, 0, 0), (31, .ifCond .eq 16, 3, 0, 0, 0, 0), (34, .iload_n 1, 1, 0, 0, 0, 0), (35, .ifCond .lt 8, 3, 0, 0, 0, 0), (38, .iload_n 1, 1, 0, 0, 0, 0), (39, .iload_n 2, 1, 0, 0, 0, 0), (40, .if_icmp .eq 7, 3, 0, 0, 0, 0), (43, .iconst 1, 1, 0, 0, 0, 0), (44, .goto 4, 3, 0, 0, 0, 0), (47, .iconst 0, 1, 0, 0, 0, 0), (48, .ireturn, 1, 0, 0, 0, 0)]
set_option maxRecDepth 100000 in
theorem sx_k46 : sx_c46.all (sx_chk 11 prog_1_method_47_code) = true := by decide +kernel
def sx_c47 : List sx_I := [(0, .aload_n 0, 1, 0, 0, 0, 0), (1, .getfield 67, 3, 0, 10, 4, 0), (4, .istore 5, 2, 0, 0, 0, 0), (6, .aload_n 0, 1, 0, 0, 0, 0), (7, .iload 5, 2, 0, 0, 0, 0), (9, .invokevirtual 115, 3, 2, 30, 0, 0), (12, .iload_n 1, 1, 0, 0, 0, 0), (13, .iload_n 2, 1, 0, 0, 0, 0), (14, .iload_n 3, 1, 0, 0, 0, 0), (15, .iload 4, 2, 0, 0, 0, 0), (17, .invokevirtual 119, 3, 2, 48, 0, 0), (20, .aload_n 0, 1, 0, 0, 0, 0), (21, .dup, 1, 0, 0, 0, 0), (22, .getfield 67, 3, 0, 10, 4, 0), (25, .iconst 1, 1, 0, 0, 0, 0), (26, .iadd, 1, 0, 0, 0, 0), (27, .putfield 67, 3, 0, 10, 4, 0), (30, .iload 5, 2, 0, 0, 0, 0), (32, .ireturn, 1, 0, 0, 0, 0)]
set_option maxRecDepth 100000 in
theorem sx_k47 : sx_c47.all (sx_chk 10 prog_12_method_12_code) = true := by decide +kernel
def sx_c48 : List sx_I := [(0, .aload_n 0, 1, 0, 0, 0, 0), (1, .iload_n 1, 1, 0, 0, 0, 0), (2, .putfield 13, 3, 0, 3, 0, 0), (5, .aload_n 0, 1, 0, 0, 0, 0), (6, .iload_n 2, 1, 0, 0, 0, 0), (7, .putfield 17, 3, 0, 3, 1, 0), (10, .aload_n 0, 1, 0, 0, 0, 0), (11, .iload_n 3, 1, 0, 0, 0, 0), (12, .putfield 20, 3, 0, 3, 2, 0), (15, .aload_n 0, 1, 0, 0, 0, 0), (16, .iload 4, 2, 0, 0, 0, 0), (18, .putfield 23, 3, 0, 3, 3, 0), (21, .aload_n 0, 1, 0, 0, 0, 0), (22, .iconst (-1), 1, 0, 0, 0, 0), (23, .putfield 30, 3, 0, 3, 4, 0), (26, .aload_n 0, 1, 0, 0, 0, 0), (27, .iconst 0, 1, 0, 0, 0, 0), (28, .putfield 33, 3, 0, 3, 5, 0), (31, .aload_n 0, 1, 0, 0, 0, 0), (32, .iconst 0, 1, 0, 0, 0, 0), (33, .putfield 7, 3, 0, 3, 6, 0), (36, .return_, 1, 0, 0, 0, 0)]
set_option maxRecDepth 100000 in
theorem sx_k48 : sx_c48.all (sx_chk 3 prog_5_method_3_code) = true := by decide +kernel
def sx_c49 : List sx_I := [(0, .aload_n 0, 1, 0, 0, 0, 0), (1, .getfield 10, 3, 0, 11, 0, 0), (4, .iload_n 1, 1, 0, 0, 0, 0), (5, .invokevirtual 168, 3, 2, 50, 0, 0), (8, .ifCond .eq 14, 3, 0, 0, 0, 0), (11, .aload_n 0, 1, 0, 0, 0, 0), (12, .getfield 10, 3, 0, 11, 0, 0), (15, .iload_n 2, 1, 0, 0, 0, 0), (16, .invokevirtual 168, 3, 2, 50, 0, 0), (19, .ifCond .ne 10, 3, 0, 0, 0, 0), (22, .aload_n 0, 1, 0, 0, 0, 0), (23, .ldc 63, 2, 6, 0, 0, -100001), (25, .invokevirtual 64, 3, 2, 15, 0, 0), (28, .ireturn, 1, 0, 0, 0, 0), (29, .iload_n 1, 1, 0, 0, 0, 0), (30, .iload_n 2, 1, 0, 0, 0, 0), (31, .if_icmp .ne 10, 3, 0, 0, 0, 0), (34, .aload_n 0, 1, 0, 0, 0, 0), (35, .ldc 148, 2, 6, 0, 0, -100003), (37, .invokevirtual 64, 3, 2, 15, 0, 0), (40, .ireturn, 1, 0, 0, 0, 0), (41, .aload_n 0, 1, 0, 0, 0, 0), (42, .getfield 10, 3, 0, 11, 0, 0), (45, .iload_n 1, 1, 0, 0, 0, 0), (46, .invokevirtual 171, 3, 2, 30, 0, 0), (49, .astore_n 3, 1, 0, 0, 0, 0), (50, .aload_n 0, 1, 0, 0, 0, 0), (51, .getfield 10, 3, 0, 11, 0, 0), (54, .iload_n 2, 1, 0, 0, 0, 0), (55, .invokevirtual 171, 3, 2, 30, 0, 0), (58, .astore 4, 2, 0, 0, 0, 0), (60, .aload_n 3, 1, 0, 0, 0, 0), (61, .getfield 175, 3, 1, 3, 6, 0), (64, .ifCond .ne 11, 3, 0, 0, 0, 0), (67, .aload 4, 2, 0, 0, 0, 0), (69, .getfield 175, 3, 1, 3, 6, 0), (72, .ifCond .eq 10, 3, 0, 0, 0, 0), (75, .aload_n 0, 1, 0, 0, 0, 0), (76, .ldc 140, 2, 6, 0, 0, -100006), (78, .invokevirtual 64, 3, 2, 15, 0, 0), (81, .ireturn, 1, 0, 0, 0, 0), (82, .aload_n 3, 1, 0, 0, 0, 0), (83, .getfield 180, 3, 1, 3, 4, 0), (86, .ifCond .ge 11, 3, 0, 0, 0, 0), (89, .aload 4, 2, 0, 0, 0, 0), (91, .getfield 180, 3, 1, 3, 4, 0), (94, .ifCond .lt 10, 3, 0, 0, 0, 0), (97, .aload_n 0, 1, 0, 0, 0, 0), (98, .ldc 183, 2, 6, 0, 0, -100007), (100, .invokevirtual 64, 3, 2, 15, 0, 0), (103, .ireturn, 1, 0, 0, 0, 0), (104, .aload_n 3, 1, 0, 0, 0, 0), (105, .iload_n 2, 1, 0, 0, 0, 0), (106, .putfield 180, 3, 1, 3, 4, 0), (109, .aload 4, 2, 0, 0, 0, 0), (111, .iload_n 1, 1, 0, 0, 0, 0), (112, .putfield 180, 3, 1, 3, 4, 0), (115, .iconst 1, 1, 0, 0, 0, 0), (116, .ireturn, 1, 0, 0, 0, 0)]
set_option maxRecDepth 100000 in
theorem sx_k49 : sx_c49.all (sx_chk 11 prog_1_method_9_code) = true := by decide +kernel
def sx_c50 : List sx_I := [(0, .iload_n 1, 1, 0, 0, 0, 0), (1, .iconst 0, 1, 0, 0, 0, 0), (2, .aload_n 0, 1, 0, 0, 0, 0), (3, .getfield 67, 3, 0, 10, 4, 0), (6, .iconst 1, 1, 0, 0, 0, 0), (7, .isub, 1, 0, 0, 0, 0), (8, .invokestatic 91, 3, 3, 14, 0, 0), (11, .ireturn, 1, 0, 0, 0, 0)]
set_option maxRecDepth 100000 in
theorem sx_k50 : sx_c50.all (sx_chk 10 prog_12_method_4_code) = true := by decide +kernel
def sx_c51 : List sx_I := [(0, .aload_n 0, 1, 0, 0, 0, 0), (1, .getfield 10, 3, 0, 11, 0, 0), (4, .iload_n 1, 1, 0, 0, 0, 0), (5, .invokevirtual 168, 3, 2, 50, 0, 0), (8, .ifCond .eq 14, 3, 0, 0, 0, 0), (11, .aload_n 0, 1, 0, 0, 0, 0), (12, .getfield 10, 3, 0, 11, 0, 0), (15, .iload_n 2, 1, 0, 0, 0, 0), (16, .invokevirtual 89, 3, 2, 23, 0, 0), (19, .ifCond .ne 10, 3, 0, 0, 0, 0), (22, .aload_n 0, 1, 0, 0, 0, 0), (23, .ldc 63, 2, 6, 0, 0, -100001), (25, .invokevirtual 64, 3, 2, 15, 0, 0), (28, .ireturn, 1, 0, 0, 0, 0), (29, .aload_n 0, 1, 0, 0, 0, 0), (30, .getfield 10, 3, 0, 11, 0, 0), (33, .iload_n 1, 1, 0, 0, 0, 0), (34, .invokevirtual 171, 3, 2, 30, 0, 0), (37, .astore_n 3, 1, 0, 0, 0, 0), (38, .aload_n 3, 1, 0, 0, 0, 0), (39, .getfield 175, 3, 1, 3, 6, 0), (42, .ifCond .ne 17, 3, 0, 0, 0, 0), (45, .aload_n 0, 1, 0, 0, 0, 0), (46, .getfield 10, 3, 0, 11, 0, 0), (49, .iload_n 2, 1, 0, 0, 0, 0), (50, .invokevirtual 92, 3, 2, 20, 0, 0), (53, .getfield 137, 3, 1, 4, 6, 0), (56, .ifCond .eq 10, 3, 0, 0, 0, 0), (59, .aload_n 0, 1, 0, 0, 0, 0), (60, .ldc 140, 2, 6, 0, 0, -100006), (62, .invokevirtual 64, 3, 2, 15, 0, 0), (65, .ireturn, 1, 0, 0, 0, 0), (66, .aload_n 3, 1, 0, 0, 0, 0), (67, .getfield 184, 3, 1, 3, 0, 0), (70, .istore 4, 2, 0, 0, 0, 0), (72, .aload_n 0, 1, 0, 0, 0, 0), (73, .invokevirtual 120, 3, 2, 26, 0, 0), (76, .iload 4, 2, 0, 0, 0, 0), (78, .iload_n 2, 1, 0, 0, 0, 0), (79, .invokevirtual 149, 3, 2, 43, 0, 0), (82, .ifCond .ne 10, 3, 0, 0, 0, 0), (85, .aload_n 0, 1, 0, 0, 0, 0), (86, .ldc 153, 2, 6, 0, 0, -100008), (88, .invokevirtual 64, 3, 2, 15, 0, 0), (91, .ireturn, 1, 0, 0, 0, 0), (92, .aload_n 3, 1, 0, 0, 0, 0), (93, .iload_n 2, 1, 0, 0, 0, 0), (94, .putfield 184, 3, 1, 3, 0, 0), (97, .iload 4, 2, 0, 0, 0, 0), (99, .ireturn, 1, 0, 0, 0, 0)]
set_option maxRecDepth 100000 in
theorem sx_k51 : sx_c51.all (sx_chk 11 prog_1_method_10_code) = true := by decide +kernel
def sx_c52 : List sx_I := [(0, .aload_n 0, 1, 0, 0, 0, 0), (1, .getfield 10, 3, 0, 11, 0, 0), (4, .iload_n 1, 1, 0, 0, 0, 0), (5, .invokevirtual 168, 3, 2, 50, 0, 0), (8, .ifCond .ne 10, 3, 0, 0, 0, 0), (11, .aload_n 0, 1, 0, 0, 0, 0), (12, .ldc 63, 2, 6, 0, 0, -100001), (14, .invokevirtual 64, 3, 2, 15, 0, 0), (17, .ireturn, 1, 0, 0, 0, 0), (18, .aload_n 0, 1, 0, 0, 0, 0), (19, .getfield 10, 3, 0, 11, 0, 0), (22, .iload_n 1, 1, 0, 0, 0, 0), (23, .invokevirtual 171, 3, 2, 30, 0, 0), (26, .astore_n 3, 1, 0, 0, 0, 0), (27, .iload_n 2, 1, 0, 0, 0, 0), (28, .tableswitch 82 0 5 #[40, 45, 50, 55, 68, 73], 40, 0, 0, 0, 0), (68, .aload_n 3, 1, 0, 0, 0, 0), (69, .getfield 184, 3, 1, 3, 0, 0), (72, .ireturn, 1, 0, 0, 0, 0), (73, .aload_n 3, 1, 0, 0, 0, 0), (74, .getfield 187, 3, 1, 3, 1, 0), (77, .ireturn, 1, 0, 0, 0, 0), (78, .aload_n 3, 1, 0, 0, 0, 0), (79, .getfield 180, 3, 1, 3, 4, 0), (82, .ireturn, 1, 0, 0, 0, 0), (83, .aload_n 3, 1, 0, 0, 0, 0), (84, .getfield 175, 3, 1, 3, 6, 0), (87, .ifCond .eq 7, 3, 0, 0, 0, 0), (90, .iconst 1, 1, 0, 0, 0, 0), (91, .goto 4, 3, 0, 0, 0, 0), (94, .iconst 0, 1, 0, 0, 0, 0), (95, .ireturn, 1, 0, 0, 0, 0), (96, .aload_n 3, 1, 0, 0, 0, 0), (97, .getfield 190, 3, 1, 3, 5, 0), (100, .ireturn, 1, 0, 0, 0, 0), (101, .aload_n 0, 1, 0, 0, 0, 0), (102, .getfield 10, 3, 0, 11, 0, 0), (105, .iload_n 1, 1, 0, 0, 0, 0), (106, .invokevirtual 193, 3, 2, 53, 0, 0), (109, .ireturn, 1, 0, 0, 0, 0), (110, .aload_n 0, 1, 0, 0, 0, 0), (111, .ldc 63, 2, 6, 0, 0, -100001), (113, .invokevirtual 64, 3, 2, 15, 0, 0), (116, .ireturn, 1, 0, 0, 0, 0)]
set_option maxRecDepth 100000 in
theorem sx_k52 : sx_c52.all (sx_chk 11 prog_1_method_11_code) = true := by decide +kernel
def sx_c53 : List sx_I := [(0, .iconst 0, 1, 0, 0, 0, 0), (1, .istore_n 2, 1, 0, 0, 0, 0), (2, .iconst 0, 1, 0, 0, 0, 0), (3, .istore_n 3, 1, 0, 0, 0, 0), (4, .iload_n 3, 1, 0, 0, 0, 0), (5, .aload_n 0, 1, 0, 0, 0, 0), (6, .getfield 67, 3, 0, 10, 4, 0), (9, .if_icmp .ge 24, 3, 0, 0, 0, 0), (12, .aload_n 0, 1, 0, 0, 0, 0), (13, .iload_n 1, 1, 0, 0, 0, 0), (14, .iload_n 3, 1, 0, 0, 0, 0), (15, .invokevirtual 151, 3, 2, 54, 0, 0), (18, .ifCond .eq 9, 3, 0, 0, 0, 0), (21, .iload_n 2, 1, 0, 0, 0, 0), (22, .iconst 1, 1, 0, 0, 0, 0), (23, .iload_n 3, 1, 0, 0, 0, 0), (24, .ishl, 1, 0, 0, 0, 0), (25, .ior, 1, 0, 0, 0, 0), (26, .istore_n 2, 1, 0, 0, 0, 0), (27, .iinc 3 1, 3, 0, 0, 0, 0), (30, .goto (-26), 3, 0, 0, 0, 0), (33, .iload_n 2, 1, 0, 0, 0, 0), (34, .ireturn, 1, 0, 0, 0, 0)]
set_option maxRecDepth 100000 in
theorem sx_k53 : sx_c53.all (sx_chk 10 prog_12_method_16_code) = true := by decide +kernel
def sx_c54 : List sx_I := [(0, .aload_n 0, 1, 0, 0, 0, 0), (1, .iload_n 1, 1, 0, 0, 0, 0), (2, .invokevirtual 115, 3, 2, 30, 0, 0), (5, .astore_n 3, 1, 0, 0, 0, 0), (6, .aload_n 0, 1, 0, 0, 0, 0), (7, .iload_n 2, 1, 0, 0, 0, 0), (8, .invokevirtual 115, 3, 2, 30, 0, 0), (11, .astore 4, 2, 0, 0, 0, 0), (13, .iload_n 1, 1, 0, 0, 0, 0), (14, .iload_n 2, 1, 0, 0, 0, 0), (15, .if_icmp .eq 56, 3, 0, 0, 0, 0), (18, .aload_n 3, 1, 0, 0, 0, 0), (19, .iload_n 2, 1, 0, 0, 0, 0), (20, .invokevirtual 139, 3, 2, 55, 0, 0), (23, .ifCond .ne 44, 3, 0, 0, 0, 0), (26, .aload 4, 2, 0, 0, 0, 0), (28, .iload_n 1, 1, 0, 0, 0, 0), (29, .invokevirtual 139, 3, 2, 55, 0, 0), (32, .ifCond .ne 35, 3, 0, 0, 0, 0), (35, .aload 4, 2, 0, 0, 0, 0), (37, .aload_n 3, 1, 0, 0, 0, 0), (38, .getfield 142, 3, 1, 3, 2, 0), (41, .invokevirtual 139, 3, 2, 55, 0, 0), (44, .ifCond .ne 23, 3, 0, 0, 0, 0), (47, .aload 4, 2, 0, 0, 0, 0), (49, .aload_n 3, 1, 0, 0, 0, 0), (50, .getfield 145, 3, 1, 3, 3, 0), (53, .invokevirtual 139, 3, 2, 55, 0, 0), (56, .ifCond .ne 11, 3, 0, 0, 0, 0), (59, .aload_n 3, 1, 0, 0, 0, 0), (60, .getfield 148, 3, 1, 3, 4, 0), (63, .iload_n 2, 1, 0, 0, 0, 0), (64, .if_icmp .ne 7, 3, 0, 0, 0, 0), (67, .iconst 1, 1, 0, 0, 0, 0), (68, .goto 4, 3, 0, 0, 0, 0), (71, .iconst 0, 1, 0, 0, 0, 0), (72, .ireturn, 1, 0, 0, 0, 0)]
set_option maxRecDepth 100000 in
theorem sx_k54 : sx_c54.all (sx_chk 10 prog_12_method_15_code) = true := by decide +kernel
def sx_c55 : List sx_I := [(0, .iload_n 1, 1, 0, 0, 0, 0), (1, .ifCond .lt 23, 3, 0, 0, 0, 0), (4, .aload_n 0, 1, 0, 0, 0, 0), (5, .getfield 20, 3, 0, 3, 2, 0), (8, .iload_n 1, 1, 0, 0, 0, 0), (9, .if_icmp .eq 11, 3, 0, 0, 0, 0), (12, .aload_n 0, 1, 0, 0, 0, 0), (13, .getfield 23, 3, 0, 3, 3, 0), (16, .iload_n 1, 1, 0, 0, 0, 0), (17, .if_icmp .ne 7, 3, 0, 0, 0, 0), (20, .iconst 1, 1, 0, 0, 0, 0), (21, .goto 4, 3, 0, 0, 0, 0), (24, .iconst 0, 1, 0, 0, 0, 0), (25, .ireturn, 1, 0, 0, 0, 0)]
set_option maxRecDepth 100000 in
theorem sx_k55 : sx_c55.all (sx_chk 3 prog_5_method_4_code) = true := by decide +kernel
def sx_c56 : List sx_I := [(0, .aload_n 0, 1, 0, 0, 0, 0), (1, .getfield 10, 3, 0, 11, 0, 0), (4, .iload_n 1, 1, 0, 0, 0, 0), (5, .invokevirtual 89, 3, 2, 23, 0, 0), (8, .ifCond .eq 40, 3, 0, 0, 0, 0), (11, .aload_n 0, 1, 0, 0, 0, 0), (12, .getfield 10, 3, 0, 11, 0, 0), (15, .iload_n 3, 1, 0, 0, 0, 0), (16, .invokevirtual 89, 3, 2, 23, 0, 0), (19, .ifCond .eq 29, 3, 0, 0, 0, 0), (22, .iload_n 2, 1, 0, 0, 0, 0), (23, .invokestatic 196, 3, 2, 57, 0, 0), (26, .ifCond .eq 22, 3, 0, 0, 0, 0), (29, .iload 4, 2, 0, 0, 0, 0), (31, .invokestatic 196, 3, 2, 57, 0, 0), (34, .ifCond .eq 14, 3, 0, 0, 0, 0), (37, .iload 5, 2, 0, 0, 0, 0), (39, .iconst 1, 1, 0, 0, 0, 0), (40, .bipush 99, 2, 0, 0, 0, 0), (42, .invokestatic 59, 3, 2, 14, 0, 0), (45, .ifCond .ne 10, 3, 0, 0, 0, 0), (48, .aload_n 0, 1, 0, 0, 0, 0), (49, .ldc 63, 2, 6, 0, 0, -100001), (51, .invokevirtual 64, 3, 2, 15, 0, 0), (54, .ireturn, 1, 0, 0, 0, 0), (55, .iload_n 1, 1, 0, 0, 0, 0), (56, .iload_n 3, 1, 0, 0, 0, 0), (57, .if_icmp .ne 10, 3, 0, 0, 0, 0), (60, .aload_n 0, 1, 0, 0, 0, 0), (61, .ldc 148, 2, 6, 0, 0, -100003), (63, .invokevirtual 64, 3, 2, 15, 0, 0), (66, .ireturn, 1, 0, 0, 0, 0), (67, .aload_n 0, 1, 0, 0, 0, 0), (68, .getfield 10, 3, 0, 11, 0, 0), (71, .iload_n 1, 1, 0, 0, 0, 0), (72, .invokevirtual 92, 3, 2, 20, 0, 0), (75, .astore 6, 2, 0, 0, 0, 0), (77, .aload_n 0, 1, 0, 0, 0, 0), (78, .getfield 10, 3, 0, 11, 0, 0), (81, .iload_n 3, 1, 0, 0, 0, 0), (82, .invokevirtual 92, 3, 2, 20, 0, 0), (85, .astore 7, 2, 0, 0, 0, 0), (87, .aload 6, 2, 0, 0, 0, 0), (89, .getfield 137, 3, 1, 4, 6, 0), (92, .ifCond .ne 11, 3, 0, 0, 0, 0), (95, .aload 7, 2, 0, 0, 0, 0), (97, .getfield 137, 3, 1, 4, 6, 0), (100, .ifCond .eq 10, 3, 0, 0, 0, 0), (103, .aload_n 0, 1, 0, 0, 0, 0), (104, .ldc 140, 2, 6, 0, 0, -100006), (106, .invokevirtual 64, 3, 2, 15, 0, 0), (109, .ireturn, 1, 0, 0, 0, 0), (110, .aload 6, 2, 0, 0, 0, 0), (112, .getfield 105, 3, 1, 4, 1, 0), (115, .aload 7, 2, 0, 0, 0, 0), (117, .getfield 105, 3, 1, 4, 1, 0), (120, .if_icmp .eq 10, 3, 0, 0, 0, 0), (123, .aload_n 0, 1, 0, 0, 0, 0), (124, .ldc 153, 2, 6, 0, 0, -100008), (126, .invokevirtual 64, 3, 2, 15, 0, 0), (129, .ireturn, 1, 0, 0, 0, 0), (130, .aload_n 0, 1, 0, 0, 0, 0), (131, .getfield 10, 3, 0, 11, 0, 0), (134, .iload_n 1, 1, 0, 0, 0, 0), (135, .iload_n 2, 1, 0, 0, 0, 0), (136, .invokevirtual 199, 3, 2, 58, 0, 0), (139, .ifCond .eq 16, 3, 0, 0, 0, 0), (142, .aload_n 0, 1, 0, 0, 0, 0), (143, .getfield 10, 3, 0, 11, 0, 0), (146, .iload_n 3, 1, 0, 0, 0, 0), (147, .iload 4, 2, 0, 0, 0, 0), (149, .invokevirtual 199, 3, 2, 58, 0, 0), (152, .ifCond .ne 10, 3, 0, 0, 0, 0), (155, .aload_n 0, 1, 0, 0, 0, 0), (156, .ldc 183, 2, 6, 0, 0, -100007), (158, .invokevirtual 64, 3, 2, 15, 0, 0), (161, .ireturn, 1, 0, 0, 0, 0), (162, .aload_n 0, 1, 0, 0, 0, 0), (163, .getfield 10, 3, 0, 11, 0, 0), (166, .invokevirtual 202, 3, 2, 60, 0, 0), (169, .istore 8, 2, 0, 0, 0, 0), (171, .iload 8, 2, 0, 0, 0, 0), (173, .ifCond .ge 10, 3, 0, 0, 0, 0), (176, .aload_n 0, 1, 0, 0, 0, 0), (177, .ldc 84, 2, 6, 0, 0, -100005), (179, .invokevirtual 64, 3, 2, 15, 0, 0), (182, .ireturn, 1, 0, 0, 0, 0), (183, .aload_n 0, 1, 0, 0, 0, 0), (184, .getfield 10, 3, 0, 11, 0, 0), (187, .iload 8, 2, 0, 0, 0, 0), (189, .invokevirtual 205, 3, 2, 31, 0, 0), (192, .iload_n 1, 1, 0, 0, 0, 0), (193, .iload_n 2, 1, 0, 0, 0, 0), (194, .iload_n 3, 1, 0, 0, 0, 0), (195, .iload 4, 2, 0, 0, 0, 0), (197, .iload 5, 2, 0, 0, 0, 0), (199, .invokevirtual 209, 3, 2, 61, 0, 0), (202, .aload_n 0, 1, 0, 0, 0, 0), (203, .invokevirtual 120, 3, 2, 26, 0, 0), (206, .iload_n 1, 1, 0, 0, 0, 0), (207, .invokevirtual 131, 3, 2, 34, 0, 0), (210, .istore 9, 2, 0, 0, 0, 0), (212, .aload_n 0, 1, 0, 0, 0, 0), (213, .getfield 10, 3, 0, 11, 0, 0), (216, .getfield 215, 3, 1, 10, 7, 0), (219, .iconst 1, 1, 0, 0, 0, 0), (220, .iload 8, 2, 0, 0, 0, 0), (222, .aload_n 0, 1, 0, 0, 0, 0), (223, .getfield 10, 3, 0, 11, 0, 0), (226, .getfield 219, 3, 1, 10, 9, 0), (229, .iload 9, 2, 0, 0, 0, 0), (231, .invokevirtual 222, 3, 2, 62, 0, 0), (234, .aload_n 0, 1, 0, 0, 0, 0), (235, .getfield 10, 3, 0, 11, 0, 0), (238, .getfield 215, 3, 1, 10, 7, 0), (241, .iload 9, 2, 0, 0, 0, 0), (243, .invokevirtual 228, 3, 2, 64, 0, 0), (246, .iload 8, 2, 0, 0, 0, 0), (248, .ireturn, 1, 0, 0, 0, 0)]
set_option maxRecDepth 100000 in
theorem sx_k56 : sx_c56.all (sx_chk 11 prog_1_method_12_code) = true := by decide +kernel
def sx_c57 : List sx_I := [(0, .iload_n 0, 1, 0, 0, 0, 0), (1, .iconst 0, 1, 0, 0, 0, 0), (2, .iconst 3, 1, 0, 0, 0, 0), (3, .invokestatic 59, 3, 2, 14, 0, 0), (6, .ireturn, 1, 0, 0, 0, 0)]
set_option maxRecDepth 100000 in
theorem sx_k57 : sx_c57.all (sx_chk 11 prog_1_method_51_code) = true := by decide +kernel
def sx_c58 : List sx_I := [(0, .iconst 0, 1, 0, 0, 0, 0), (1, .istore_n 3, 1, 0, 0, 0, 0), (2, .iconst 0, 1, 0, 0, 0, 0), (3, .istore 4, 2, 0, 0, 0, 0), (5, .iload 4, 2, 0, 0, 0, 0), (7, .bipush 12, 2, 0, 0, 0, 0), (9, .if_icmp .ge 27, 3, 0, 0, 0, 0), (12, .aload_n 0, 1, 0, 0, 0, 0), (13, .getfield 32, 3, 0, 10, 5, 0), (16, .iload 4, 2, 0, 0, 0, 0), (18, .aaload, 1, 0, 0, 0, 0), (19, .iload_n 1, 1, 0, 0, 0, 0), (20, .iload_n 2, 1, 0, 0, 0, 0), (21, .invokevirtual 122, 3, 2, 59, 0, 0), (24, .ifCond .eq 6, 3, 0, 0, 0, 0), (27, .iinc 3 1, 3, 0, 0, 0, 0), (30, .iinc 4 1, 3, 0, 0, 0, 0), (33, .goto (-28), 3, 0, 0, 0, 0), (36, .iload_n 3, 1, 0, 0, 0, 0), (37, .aload_n 0, 1, 0, 0, 0, 0), (38, .iload_n 1, 1, 0, 0, 0, 0), (39, .invokevirtual 107, 3, 2, 20, 0, 0), (42, .getfield 126, 3, 1, 4, 0, 0), (45, .iconst 2, 1, 0, 0, 0, 0), (46, .if_icmp .ne 7, 3, 0, 0, 0, 0), (49, .iconst 2, 1, 0, 0, 0, 0), (50, .goto 4, 3, 0, 0, 0, 0), (53, .iconst 1, 1, 0, 0, 0, 0), (54, .if_icmp .ge 7, 3, 0, 0, 0, 0), (57, .iconst 1, 1, 0, 0, 0, 0), (58, .goto 4, 3, 0, 0, 0, 0), (61, .iconst 0, 1, 0, 0, 0, 0), (62, .ireturn, 1, 0, 0, 0, 0)]
set_option maxRecDepth 100000 in
theorem sx_k58 : sx_c58.all (sx_chk 10 prog_12_method_13_code) = true := by decide +kernel
def sx_c59 : List sx_I := [(0, .aload_n 0, 1, 0, 0, 0, 0), (1, .getfield 35, 3, 0, 5, 7, 0), (4, .ifCond .eq 39, 3, 0, 0, 0, 0), (7, .aload_n 0, 1, 0, 0, 0, 0), (8, .getfield 7, 3, 0, 5, 0, 0), (11, .iload_n 1, 1, 0, 0, 0, 0), (12, .if_icmp .ne 11, 3, 0, 0, 0, 0), (15, .aload_n 0, 1, 0, 0, 0, 0), (16, .getfield 13, 3, 0, 5, 2, 0), (19, .iload_n 2, 1, 0, 0, 0, 0), (20, .if_icmp .eq 19, 3, 0, 0, 0, 0), (23, .aload_n 0, 1, 0, 0, 0, 0), (24, .getfield 16, 3, 0, 5, 1, 0), (27, .iload_n 1, 1, 0, 0, 0, 0), (28, .if_icmp .ne 15, 3, 0, 0, 0, 0), (31, .aload_n 0, 1, 0, 0, 0, 0), (32, .getfield 19, 3, 0, 5, 3, 0), (35, .iload_n 2, 1, 0, 0, 0, 0), (36, .if_icmp .ne 7, 3, 0, 0, 0, 0), (39, .iconst 1, 1, 0, 0, 0, 0), (40, .goto 4, 3, 0, 0, 0, 0), (43, .iconst 0, 1, 0, 0, 0, 0), (44, .ireturn, 1, 0, 0, 0, 0)]
set_option maxRecDepth 100000 in
theorem sx_k59 : sx_c59.all (sx_chk 5 prog_7_method_6_code) = true := by decide +kernel
end
section
/-! ===== printed by wip/gen_code.py: the methods' instructions ===== -/
def sx_c60 : List sx_I := [(0, .iconst 0, 1, 0, 0, 0, 0), (1, .istore_n 1, 1, 0, 0, 0, 0), (2, .iload_n 1, 1, 0, 0, 0, 0), (3, .bipush 12, 2, 0, 0, 0, 0), (5, .if_icmp .ge 37, 3, 0, 0, 0, 0), (8, .aload_n 0, 1, 0, 0, 0, 0), (9, .getfield 32, 3, 0, 10, 5, 0), (12, .iload_n 1, 1, 0, 0, 0, 0), (13, .aaload, 1, 0, 0, 0, 0), (14, .getfield 129, 3, 1, 5, 7, 0), (17, .ifCond .ne 19, 3, 0, 0, 0, 0), (20, .aload_n 0, 1, 0, 0, 0, 0), (21, .aload_n 0, 1, 0, 0, 0, 0), (22, .getfield 73, 3, 0, 10, 6, 0), (25, .iload_n 1, 1, 0, 0, 0, 0), (26, .iconst 1, 1, 0, 0, 0, 0), (27, .iadd, 1, 0, 0, 0, 0), (28, .invokestatic 133, 3, 13, 0, 0, 0), (31, .putfield 73, 3, 0, 10, 6, 0), (34, .iload_n 1, 1, 0, 0, 0, 0), (35, .ireturn, 1, 0, 0, 0, 0), (36, .iinc 1 1, 3, 0, 0, 0, 0), (39, .goto (-37), 3, 0, 0, 0, 0), (42, .iconst (-1), 1, 0, 0, 0, 0), (43, .ireturn, 1, 0, 0, 0, 0)]
set_option maxRecDepth 100000 in
theorem sx_k60 : sx_c60.all (sx_chk 10 prog_12_method_14_code) = true := by decide +kernel
def sx_c61 : List sx_I := [(0, .aload_n 0, 1, 0, 0, 0, 0), (1, .iload_n 1, 1, 0, 0, 0, 0), (2, .putfield 7, 3, 0, 5, 0, 0), (5, .aload_n 0, 1, 0, 0, 0, 0), (6, .iload_n 3, 1, 0, 0, 0, 0), (7, .putfield 16, 3, 0, 5, 1, 0), (10, .aload_n 0, 1, 0, 0, 0, 0), (11, .iload_n 2, 1, 0, 0, 0, 0), (12, .putfield 13, 3, 0, 5, 2, 0), (15, .aload_n 0, 1, 0, 0, 0, 0), (16, .iload 4, 2, 0, 0, 0, 0), (18, .putfield 19, 3, 0, 5, 3, 0), (21, .aload_n 0, 1, 0, 0, 0, 0), (22, .iload 5, 2, 0, 0, 0, 0), (24, .putfield 22, 3, 0, 5, 4, 0), (27, .aload_n 0, 1, 0, 0, 0, 0), (28, .iconst 0, 1, 0, 0, 0, 0), (29, .putfield 29, 3, 0, 5, 5, 0), (32, .aload_n 0, 1, 0, 0, 0, 0), (33, .iconst 0, 1, 0, 0, 0, 0), (34, .putfield 32, 3, 0, 5, 6, 0), (37, .aload_n 0, 1, 0, 0, 0, 0), (38, .iconst 1, 1, 0, 0, 0, 0), (39, .putfield 35, 3, 0, 5, 7, 0), (42, .return_, 1, 0, 0, 0, 0)]
set_option maxRecDepth 100000 in
theorem sx_k61 : sx_c61.all (sx_chk 5 prog_7_method_3_code) = true := by decide +kernel
def sx_c62 : List sx_I := [(0, .aload_n 0, 1, 0, 0, 0, 0), (1, .getfield 40, 3, 0, 1, 5, 0), (4, .bipush 40, 2, 0, 0, 0, 0), (6, .if_icmp .ge 16, 3, 0, 0, 0, 0), (9, .aload_n 0, 1, 0, 0, 0, 0), (10, .dup, 1, 0, 0, 0, 0), (11, .getfield 40, 3, 0, 1, 5, 0), (14, .iconst 1, 1, 0, 0, 0, 0), (15, .iadd, 1, 0, 0, 0, 0), (16, .putfield 40, 3, 0, 1, 5, 0), (19, .goto 16, 3, 0, 0, 0, 0), (22, .aload_n 0, 1, 0, 0, 0, 0), (23, .aload_n 0, 1, 0, 0, 0, 0), (24, .getfield 36, 3, 0, 1, 4, 0), (27, .iconst 1, 1, 0, 0, 0, 0), (28, .iadd, 1, 0, 0, 0, 0), (29, .bipush 40, 2, 0, 0, 0, 0), (31, .irem, 1, 0, 0, 0, 0), (32, .putfield 36, 3, 0, 1, 4, 0), (35, .aload_n 0, 1, 0, 0, 0, 0), (36, .aload_n 0, 1, 0, 0, 0, 0), (37, .getfield 40, 3, 0, 1, 5, 0), (40, .iconst 1, 1, 0, 0, 0, 0), (41, .isub, 1, 0, 0, 0, 0), (42, .invokevirtual 46, 3, 2, 63, 0, 0), (45, .istore 5, 2, 0, 0, 0, 0), (47, .aload_n 0, 1, 0, 0, 0, 0), (48, .getfield 9, 3, 0, 1, 0, 0), (51, .iload 5, 2, 0, 0, 0, 0), (53, .iload_n 1, 1, 0, 0, 0, 0), (54, .iastore, 1, 0, 0, 0, 0), (55, .aload_n 0, 1, 0, 0, 0, 0), (56, .getfield 15, 3, 0, 1, 1, 0), (59, .iload 5, 2, 0, 0, 0, 0), (61, .iload_n 2, 1, 0, 0, 0, 0), (62, .iastore, 1, 0, 0, 0, 0), (63, .aload_n 0, 1, 0, 0, 0, 0), (64, .getfield 18, 3, 0, 1, 2, 0), (67, .iload 5, 2, 0, 0, 0, 0), (69, .iload_n 3, 1, 0, 0, 0, 0), (70, .iastore, 1, 0, 0, 0, 0), (71, .aload_n 0, 1, 0, 0, 0, 0), (72, .getfield 21, 3, 0, 1, 3, 0), (75, .iload 5, 2, 0, 0, 0, 0), (77, .iload 4, 2, 0, 0, 0, 0), (79, .iastore, 1, 0, 0, 0, 0), (80, .return_, 1, 0, 0, 0, 0)]
set_option maxRecDepth 100000 in
theorem sx_k62 : sx_c62.all (sx_chk 1 prog_3_method_5_code) = true := by decide +kernel
def sx_c63 : List sx_I := [(0, .aload_n 0, 1, 0, 0, 0, 0), (1, .getfield 36, 3, 0, 1, 4, 0), (4, .iload_n 1, 1, 0, 0, 0, 0), (5, .iadd, 1, 0, 0, 0, 0), (6, .bipush 40, 2, 0, 0, 0, 0), (8, .irem, 1, 0, 0, 0, 0), (9, .istore_n 2, 1, 0, 0, 0, 0), (10, .iload_n 2, 1, 0, 0, 0, 0), (11, .ifCond .ge 7, 3, 0, 0, 0, 0), (14, .iconst 0, 1, 0, 0, 0, 0), (15, .goto 4, 3, 0, 0, 0, 0), (18, .iload_n 2, 1, 0, 0, 0, 0), (19, .ireturn, 1, 0, 0, 0, 0)]
set_option maxRecDepth 100000 in
theorem sx_k63 : sx_c63.all (sx_chk 1 prog_3_method_3_code) = true := by decide +kernel
def sx_c64 : List sx_I := [(0, .iconst 0, 1, 0, 0, 0, 0), (1, .istore_n 2, 1, 0, 0, 0, 0), (2, .iload_n 2, 1, 0, 0, 0, 0), (3, .bipush 40, 2, 0, 0, 0, 0), (5, .if_icmp .ge 30, 3, 0, 0, 0, 0), (8, .aload_n 0, 1, 0, 0, 0, 0), (9, .getfield 21, 3, 0, 1, 3, 0), (12, .iload_n 2, 1, 0, 0, 0, 0), (13, .iaload, 1, 0, 0, 0, 0), (14, .iload_n 1, 1, 0, 0, 0, 0), (15, .iand, 1, 0, 0, 0, 0), (16, .ifCond .eq 13, 3, 0, 0, 0, 0), (19, .aload_n 0, 1, 0, 0, 0, 0), (20, .getfield 21, 3, 0, 1, 3, 0), (23, .iload_n 2, 1, 0, 0, 0, 0), (24, .dup2, 1, 0, 0, 0, 0), (25, .iaload, 1, 0, 0, 0, 0), (26, .iload_n 1, 1, 0, 0, 0, 0), (27, .ior, 1, 0, 0, 0, 0), (28, .iastore, 1, 0, 0, 0, 0), (29, .iinc 2 1, 3, 0, 0, 0, 0), (32, .goto (-30), 3, 0, 0, 0, 0), (35, .iconst 0, 1, 0, 0, 0, 0), (36, .istore_n 2, 1, 0, 0, 0, 0), (37, .iload_n 2, 1, 0, 0, 0, 0), (38, .aload_n 0, 1, 0, 0, 0, 0), (39, .getfield 43, 3, 0, 1, 8, 0), (42, .if_icmp .ge 36, 3, 0, 0, 0, 0), (45, .iload_n 2, 1, 0, 0, 0, 0), (46, .bipush 12, 2, 0, 0, 0, 0), (48, .if_icmp .ge 30, 3, 0, 0, 0, 0), (51, .aload_n 0, 1, 0, 0, 0, 0), (52, .getfield 27, 3, 0, 1, 7, 0), (55, .iload_n 2, 1, 0, 0, 0, 0), (56, .iaload, 1, 0, 0, 0, 0), (57, .iload_n 1, 1, 0, 0, 0, 0), (58, .iand, 1, 0, 0, 0, 0), (59, .ifCond .eq 13, 3, 0, 0, 0, 0), (62, .aload_n 0, 1, 0, 0, 0, 0), (63, .getfield 27, 3, 0, 1, 7, 0), (66, .iload_n 2, 1, 0, 0, 0, 0), (67, .dup2, 1, 0, 0, 0, 0), (68, .iaload, 1, 0, 0, 0, 0), (69, .iload_n 1, 1, 0, 0, 0, 0), (70, .ior, 1, 0, 0, 0, 0), (71, .iastore, 1, 0, 0, 0, 0), (72, .iinc 2 1, 3, 0, 0, 0, 0), (75, .goto (-38), 3, 0, 0, 0, 0), (78, .return_, 1, 0, 0, 0, 0)]
set_option maxRecDepth 100000 in
theorem sx_k64 : sx_c64.all (sx_chk 1 prog_3_method_7_code) = true := by decide +kernel
def sx_c65 : List sx_I := [(0, .aload_n 0, 1, 0, 0, 0, 0), (1, .getfield 10, 3, 0, 11, 0, 0), (4, .iload_n 1, 1, 0, 0, 0, 0), (5, .invokevirtual 232, 3, 2, 66, 0, 0), (8, .ifCond .ne 10, 3, 0, 0, 0, 0), (11, .aload_n 0, 1, 0, 0, 0, 0), (12, .ldc 63, 2, 6, 0, 0, -100001), (14, .invokevirtual 64, 3, 2, 15, 0, 0), (17, .ireturn, 1, 0, 0, 0, 0), (18, .aload_n 0, 1, 0, 0, 0, 0), (19, .getfield 10, 3, 0, 11, 0, 0), (22, .iload_n 1, 1, 0, 0, 0, 0), (23, .invokevirtual 205, 3, 2, 31, 0, 0), (26, .getfield 235, 3, 1, 5, 7, 0), (29, .ifCond .ne 10, 3, 0, 0, 0, 0), (32, .aload_n 0, 1, 0, 0, 0, 0), (33, .ldc 140, 2, 6, 0, 0, -100006), (35, .invokevirtual 64, 3, 2, 15, 0, 0), (38, .ireturn, 1, 0, 0, 0, 0), (39, .aload_n 0, 1, 0, 0, 0, 0), (40, .invokevirtual 120, 3, 2, 26, 0, 0), (43, .aload_n 0, 1, 0, 0, 0, 0), (44, .getfield 10, 3, 0, 11, 0, 0), (47, .iload_n 1, 1, 0, 0, 0, 0), (48, .invokevirtual 205, 3, 2, 31, 0, 0), (51, .getfield 238, 3, 1, 5, 0, 0), (54, .invokevirtual 131, 3, 2, 34, 0, 0), (57, .istore_n 2, 1, 0, 0, 0, 0), (58, .aload_n 0, 1, 0, 0, 0, 0), (59, .getfield 10, 3, 0, 11, 0, 0), (62, .getfield 215, 3, 1, 10, 7, 0), (65, .iload_n 2, 1, 0, 0, 0, 0), (66, .invokevirtual 241, 3, 2, 67, 0, 0), (69, .istore_n 3, 1, 0, 0, 0, 0), (70, .iload_n 3, 1, 0, 0, 0, 0), (71, .ifCond .lt 20, 3, 0, 0, 0, 0), (74, .aload_n 0, 1, 0, 0, 0, 0), (75, .iload_n 3, 1, 0, 0, 0, 0), (76, .iload_n 1, 1, 0, 0, 0, 0), (77, .iconst 0, 1, 0, 0, 0, 0), (78, .invokevirtual 244, 3, 2, 68, 0, 0), (81, .ifCond .ne 10, 3, 0, 0, 0, 0), (84, .aload_n 0, 1, 0, 0, 0, 0), (85, .ldc 248, 2, 6, 0, 0, -100009), (87, .invokevirtual 64, 3, 2, 15, 0, 0), (90, .ireturn, 1, 0, 0, 0, 0), (91, .aload_n 0, 1, 0, 0, 0, 0), (92, .getfield 10, 3, 0, 11, 0, 0), (95, .getfield 215, 3, 1, 10, 7, 0), (98, .iconst 2, 1, 0, 0, 0, 0), (99, .iload_n 1, 1, 0, 0, 0, 0), (100, .aload_n 0, 1, 0, 0, 0, 0), (101, .getfield 10, 3, 0, 11, 0, 0), (104, .getfield 219, 3, 1, 10, 9, 0), (107, .iload_n 2, 1, 0, 0, 0, 0), (108, .invokevirtual 222, 3, 2, 62, 0, 0), (111, .aload_n 0, 1, 0, 0, 0, 0), (112, .getfield 10, 3, 0, 11, 0, 0), (115, .iload_n 1, 1, 0, 0, 0, 0), (116, .invokevirtual 205, 3, 2, 31, 0, 0), (119, .iconst 0, 1, 0, 0, 0, 0), (120, .putfield 235, 3, 1, 5, 7, 0), (123, .aload_n 0, 1, 0, 0, 0, 0), (124, .invokevirtual 120, 3, 2, 26, 0, 0), (127, .invokevirtual 249, 3, 2, 92, 0, 0), (130, .ireturn, 1, 0, 0, 0, 0)]
set_option maxRecDepth 100000 in
theorem sx_k65 : sx_c65.all (sx_chk 11 prog_1_method_13_code) = true := by decide +kernel
def sx_c66 : List sx_I := [(0, .iload_n 1, 1, 0, 0, 0, 0), (1, .iconst 0, 1, 0, 0, 0, 0), (2, .aload_n 0, 1, 0, 0, 0, 0), (3, .getfield 73, 3, 0, 10, 6, 0), (6, .iconst 1, 1, 0, 0, 0, 0), (7, .isub, 1, 0, 0, 0, 0), (8, .invokestatic 91, 3, 3, 14, 0, 0), (11, .ireturn, 1, 0, 0, 0, 0)]
set_option maxRecDepth 100000 in
theorem sx_k66 : sx_c66.all (sx_chk 10 prog_12_method_5_code) = true := by decide +kernel
def sx_c67 : List sx_I := [(0, .iconst (-1), 1, 0, 0, 0, 0), (1, .istore_n 2, 1, 0, 0, 0, 0), (2, .iconst 0, 1, 0, 0, 0, 0), (3, .istore_n 3, 1, 0, 0, 0, 0), (4, .iload_n 3, 1, 0, 0, 0, 0), (5, .aload_n 0, 1, 0, 0, 0, 0), (6, .getfield 43, 3, 0, 1, 8, 0), (9, .if_icmp .ge 28, 3, 0, 0, 0, 0), (12, .iload_n 3, 1, 0, 0, 0, 0), (13, .bipush 12, 2, 0, 0, 0, 0), (15, .if_icmp .ge 22, 3, 0, 0, 0, 0), (18, .aload_n 0, 1, 0, 0, 0, 0), (19, .getfield 27, 3, 0, 1, 7, 0), (22, .iload_n 3, 1, 0, 0, 0, 0), (23, .iaload, 1, 0, 0, 0, 0), (24, .iload_n 1, 1, 0, 0, 0, 0), (25, .iand, 1, 0, 0, 0, 0), (26, .ifCond .eq 5, 3, 0, 0, 0, 0), (29, .iload_n 3, 1, 0, 0, 0, 0), (30, .istore_n 2, 1, 0, 0, 0, 0), (31, .iinc 3 1, 3, 0, 0, 0, 0), (34, .goto (-30), 3, 0, 0, 0, 0), (37, .iload_n 2, 1, 0, 0, 0, 0), (38, .ireturn, 1, 0, 0, 0, 0)]
set_option maxRecDepth 100000 in
theorem sx_k67 : sx_c67.all (sx_chk 1 prog_3_method_9_code) = true := by decide +kernel
def sx_c68 : List sx_I := [(0, .aload_n 0, 1, 0, 0, 0, 0), (1, .getfield 47, 3, 0, 11, 6, 0), (4, .aload_n 0, 1, 0, 0, 0, 0), (5, .getfield 10, 3, 0, 11, 0, 0), (8, .aload_n 0, 1, 0, 0, 0, 0), (9, .getfield 40, 3, 0, 11, 5, 0), (12, .iload_n 2, 1, 0, 0, 0, 0), (13, .iload_n 3, 1, 0, 0, 0, 0), (14, .invokevirtual 457, 3, 2, 69, 0, 0), (17, .aload_n 0, 1, 0, 0, 0, 0), (18, .getfield 47, 3, 0, 11, 6, 0), (21, .aload_n 0, 1, 0, 0, 0, 0), (22, .getfield 10, 3, 0, 11, 0, 0), (25, .iload_n 1, 1, 0, 0, 0, 0), (26, .invokevirtual 355, 3, 2, 82, 0, 0), (29, .iconst 1, 1, 0, 0, 0, 0), (30, .invokevirtual 358, 3, 2, 86, 0, 0), (33, .ireturn, 1, 0, 0, 0, 0)]
set_option maxRecDepth 100000 in
theorem sx_k68 : sx_c68.all (sx_chk 11 prog_1_method_45_code) = true := by decide +kernel
def sx_c69 : List sx_I := [(0, .aload_n 1, 1, 0, 0, 0, 0), (1, .iload_n 3, 1, 0, 0, 0, 0), (2, .invokevirtual 18, 3, 2, 31, 0, 0), (5, .astore 5, 2, 0, 0, 0, 0), (7, .aload_n 0, 1, 0, 0, 0, 0), (8, .invokevirtual 24, 3, 2, 70, 0, 0), (11, .aload_n 0, 1, 0, 0, 0, 0), (12, .getfield 9, 3, 0, 0, 0, 0), (15, .iconst 0, 1, 0, 0, 0, 0), (16, .iload 4, 2, 0, 0, 0, 0), (18, .iastore, 1, 0, 0, 0, 0), (19, .aload_n 0, 1, 0, 0, 0, 0), (20, .getfield 9, 3, 0, 0, 0, 0), (23, .iconst 1, 1, 0, 0, 0, 0), (24, .aload_n 2, 1, 0, 0, 0, 0), (25, .iload_n 3, 1, 0, 0, 0, 0), (26, .aload_n 2, 1, 0, 0, 0, 0), (27, .getfield 27, 3, 1, 2, 4, 0), (30, .iload 4, 2, 0, 0, 0, 0), (32, .invokevirtual 33, 3, 2, 71, 0, 0), (35, .iastore, 1, 0, 0, 0, 0), (36, .aload_n 0, 1, 0, 0, 0, 0), (37, .getfield 9, 3, 0, 0, 0, 0), (40, .iconst 2, 1, 0, 0, 0, 0), (41, .aload 5, 2, 0, 0, 0, 0), (43, .invokevirtual 37, 3, 2, 32, 0, 0), (46, .iastore, 1, 0, 0, 0, 0), (47, .aload_n 0, 1, 0, 0, 0, 0), (48, .getfield 9, 3, 0, 0, 0, 0), (51, .iconst 3, 1, 0, 0, 0, 0), (52, .aload 5, 2, 0, 0, 0, 0), (54, .getfield 43, 3, 1, 5, 5, 0), (57, .iastore, 1, 0, 0, 0, 0), (58, .aload_n 0, 1, 0, 0, 0, 0), (59, .getfield 9, 3, 0, 0, 0, 0), (62, .iconst 4, 1, 0, 0, 0, 0), (63, .aload_n 1, 1, 0, 0, 0, 0), (64, .aload 5, 2, 0, 0, 0, 0), (66, .getfield 46, 3, 1, 5, 0, 0), (69, .aload 5, 2, 0, 0, 0, 0), (71, .getfield 49, 3, 1, 5, 1, 0), (74, .invokevirtual 52, 3, 2, 74, 0, 0), (77, .iastore, 1, 0, 0, 0, 0), (78, .aload_n 0, 1, 0, 0, 0, 0), (79, .aload_n 1, 1, 0, 0, 0, 0), (80, .aload_n 2, 1, 0, 0, 0, 0), (81, .aload 5, 2, 0, 0, 0, 0), (83, .getfield 46, 3, 1, 5, 0, 0), (86, .invokevirtual 56, 3, 2, 34, 0, 0), (89, .invokevirtual 60, 3, 2, 79, 0, 0), (92, .return_, 1, 0, 0, 0, 0)]
set_option maxRecDepth 100000 in
theorem sx_k69 : sx_c69.all (sx_chk 0 prog_2_method_3_code) = true := by decide +kernel
def sx_c70 : List sx_I := [(0, .iconst 0, 1, 0, 0, 0, 0), (1, .istore_n 1, 1, 0, 0, 0, 0), (2, .iload_n 1, 1, 0, 0, 0, 0), (3, .bipush 9, 2, 0, 0, 0, 0), (5, .if_icmp .ge 16, 3, 0, 0, 0, 0), (8, .aload_n 0, 1, 0, 0, 0, 0), (9, .getfield 9, 3, 0, 0, 0, 0), (12, .iload_n 1, 1, 0, 0, 0, 0), (13, .iconst 0, 1, 0, 0, 0, 0), (14, .iastore, 1, 0, 0, 0, 0), (15, .iinc 1 1, 3, 0, 0, 0, 0), (18, .goto (-16), 3, 0, 0, 0, 0), (21, .return_, 1, 0, 0, 0, 0)]
set_option maxRecDepth 100000 in
theorem sx_k70 : sx_c70.all (sx_chk 0 prog_2_method_2_code) = true := by decide +kernel
def sx_c71 : List sx_I := [(0, .iload_n 3, 1, 0, 0, 0, 0), (1, .aload_n 0, 1, 0, 0, 0, 0), (2, .iload_n 1, 1, 0, 0, 0, 0), (3, .iload_n 2, 1, 0, 0, 0, 0), (4, .invokevirtual 107, 3, 2, 72, 0, 0), (7, .imul, 1, 0, 0, 0, 0), (8, .bipush 8, 2, 0, 0, 0, 0), (10, .idiv, 1, 0, 0, 0, 0), (11, .ireturn, 1, 0, 0, 0, 0)]
set_option maxRecDepth 100000 in
theorem sx_k71 : sx_c71.all (sx_chk 2 prog_4_method_11_code) = true := by decide +kernel
def sx_c72 : List sx_I := [(0, .iload_n 1, 1, 0, 0, 0, 0), (1, .iconst 0, 1, 0, 0, 0, 0), (2, .bipush 11, 2, 0, 0, 0, 0), (4, .invokestatic 60, 3, 3, 14, 0, 0), (7, .ifCond .ne 5, 3, 0, 0, 0, 0), (10, .iconst 0, 1, 0, 0, 0, 0), (11, .ireturn, 1, 0, 0, 0, 0), (12, .aload_n 0, 1, 0, 0, 0, 0), (13, .getfield 9, 3, 0, 2, 0, 0), (16, .iload_n 1, 1, 0, 0, 0, 0), (17, .iaload, 1, 0, 0, 0, 0), (18, .istore_n 3, 1, 0, 0, 0, 0), (19, .iload_n 3, 1, 0, 0, 0, 0), (20, .iload_n 3, 1, 0, 0, 0, 0), (21, .ineg, 1, 0, 0, 0, 0), (22, .iand, 1, 0, 0, 0, 0), (23, .istore 4, 2, 0, 0, 0, 0), (25, .iload_n 2, 1, 0, 0, 0, 0), (26, .iconst 1, 1, 0, 0, 0, 0), (27, .iload_n 1, 1, 0, 0, 0, 0), (28, .ishl, 1, 0, 0, 0, 0), (29, .iconst (-1), 1, 0, 0, 0, 0), (30, .ixor, 1, 0, 0, 0, 0), (31, .iand, 1, 0, 0, 0, 0), (32, .istore 5, 2, 0, 0, 0, 0), (34, .aload_n 0, 1, 0, 0, 0, 0), (35, .iload 4, 2, 0, 0, 0, 0), (37, .iload 5, 2, 0, 0, 0, 0), (39, .invokevirtual 94, 3, 2, 35, 0, 0), (42, .istore 6, 2, 0, 0, 0, 0), (44, .iload 6, 2, 0, 0, 0, 0), (46, .iload_n 3, 1, 0, 0, 0, 0), (47, .iand, 1, 0, 0, 0, 0), (48, .iload_n 3, 1, 0, 0, 0, 0), (49, .if_icmp .ne 12, 3, 0, 0, 0, 0), (52, .aload_n 0, 1, 0, 0, 0, 0), (53, .getfield 18, 3, 0, 2, 2, 0), (56, .iload_n 1, 1, 0, 0, 0, 0), (57, .iaload, 1, 0, 0, 0, 0), (58, .iconst 2, 1, 0, 0, 0, 0), (59, .idiv, 1, 0, 0, 0, 0), (60, .ireturn, 1, 0, 0, 0, 0), (61, .aload_n 0, 1, 0, 0, 0, 0), (62, .iload 6, 2, 0, 0, 0, 0), (64, .invokevirtual 104, 3, 2, 73, 0, 0), (67, .aload_n 0, 1, 0, 0, 0, 0), (68, .aload_n 0, 1, 0, 0, 0, 0), (69, .iload_n 3, 1, 0, 0, 0, 0), (70, .iload 4, 2, 0, 0, 0, 0), (72, .iconst (-1), 1, 0, 0, 0, 0), (73, .ixor, 1, 0, 0, 0, 0), (74, .iand, 1, 0, 0, 0, 0), (75, .iload 5, 2, 0, 0, 0, 0), (77, .invokevirtual 94, 3, 2, 35, 0, 0), (80, .invokevirtual 104, 3, 2, 73, 0, 0), (83, .invokestatic 85, 3, 14, 0, 0, 0), (86, .ireturn, 1, 0, 0, 0, 0)]
set_option maxRecDepth 100000 in
theorem sx_k72 : sx_c72.all (sx_chk 2 prog_4_method_10_code) = true := by decide +kernel
def sx_c73 : List sx_I := [(0, .iconst 0, 1, 0, 0, 0, 0), (1, .istore_n 2, 1, 0, 0, 0, 0), (2, .iconst 0, 1, 0, 0, 0, 0), (3, .istore_n 3, 1, 0, 0, 0, 0), (4, .iload_n 3, 1, 0, 0, 0, 0), (5, .bipush 10, 2, 0, 0, 0, 0), (7, .if_icmp .ge 26, 3, 0, 0, 0, 0), (10, .iload_n 1, 1, 0, 0, 0, 0), (11, .iload_n 3, 1, 0, 0, 0, 0), (12, .ishr, 1, 0, 0, 0, 0), (13, .iconst 1, 1, 0, 0, 0, 0), (14, .iand, 1, 0, 0, 0, 0), (15, .ifCond .eq 12, 3, 0, 0, 0, 0), (18, .iload_n 2, 1, 0, 0, 0, 0), (19, .aload_n 0, 1, 0, 0, 0, 0), (20, .getfield 21, 3, 0, 2, 3, 0), (23, .iload_n 3, 1, 0, 0, 0, 0), (24, .iaload, 1, 0, 0, 0, 0), (25, .iadd, 1, 0, 0, 0, 0), (26, .istore_n 2, 1, 0, 0, 0, 0), (27, .iinc 3 1, 3, 0, 0, 0, 0), (30, .goto (-26), 3, 0, 0, 0, 0), (33, .iload_n 2, 1, 0, 0, 0, 0), (34, .ireturn, 1, 0, 0, 0, 0)]
set_option maxRecDepth 100000 in
theorem sx_k73 : sx_c73.all (sx_chk 2 prog_4_method_9_code) = true := by decide +kernel
def sx_c74 : List sx_I := [(0, .aload_n 0, 1, 0, 0, 0, 0), (1, .iconst 1, 1, 0, 0, 0, 0), (2, .iload_n 2, 1, 0, 0, 0, 0), (3, .ishl, 1, 0, 0, 0, 0), (4, .invokevirtual 157, 3, 2, 75, 0, 0), (7, .istore_n 3, 1, 0, 0, 0, 0), (8, .iconst 0, 1, 0, 0, 0, 0), (9, .istore 4, 2, 0, 0, 0, 0), (11, .iconst 0, 1, 0, 0, 0, 0), (12, .istore 5, 2, 0, 0, 0, 0), (14, .iload 5, 2, 0, 0, 0, 0), (16, .bipush 14, 2, 0, 0, 0, 0), (18, .if_icmp .ge 39, 3, 0, 0, 0, 0), (21, .aload_n 0, 1, 0, 0, 0, 0), (22, .getfield 26, 3, 0, 10, 3, 0), (25, .iload 5, 2, 0, 0, 0, 0), (27, .aaload, 1, 0, 0, 0, 0), (28, .iload_n 1, 1, 0, 0, 0, 0), (29, .invokevirtual 165, 3, 2, 77, 0, 0), (32, .ifCond .eq 19, 3, 0, 0, 0, 0), (35, .iload 4, 2, 0, 0, 0, 0), (37, .aload_n 0, 1, 0, 0, 0, 0), (38, .iload 5, 2, 0, 0, 0, 0), (40, .invokevirtual 168, 3, 2, 53, 0, 0), (43, .iload_n 3, 1, 0, 0, 0, 0), (44, .iand, 1, 0, 0, 0, 0), (45, .invokestatic 160, 3, 2, 78, 0, 0), (48, .iadd, 1, 0, 0, 0, 0), (49, .istore 4, 2, 0, 0, 0, 0), (51, .iinc 5 1, 3, 0, 0, 0, 0), (54, .goto (-40), 3, 0, 0, 0, 0), (57, .iload 4, 2, 0, 0, 0, 0), (59, .ireturn, 1, 0, 0, 0, 0)]
set_option maxRecDepth 100000 in
theorem sx_k74 : sx_c74.all (sx_chk 10 prog_12_method_19_code) = true := by decide +kernel
def sx_c75 : List sx_I := [(0, .iconst 0, 1, 0, 0, 0, 0), (1, .istore_n 2, 1, 0, 0, 0, 0), (2, .iconst 0, 1, 0, 0, 0, 0), (3, .istore_n 3, 1, 0, 0, 0, 0), (4, .iload_n 3, 1, 0, 0, 0, 0), (5, .bipush 14, 2, 0, 0, 0, 0), (7, .if_icmp .ge 28, 3, 0, 0, 0, 0), (10, .aload_n 0, 1, 0, 0, 0, 0), (11, .getfield 26, 3, 0, 10, 3, 0), (14, .iload_n 3, 1, 0, 0, 0, 0), (15, .aaload, 1, 0, 0, 0, 0), (16, .iload_n 1, 1, 0, 0, 0, 0), (17, .invokevirtual 154, 3, 2, 76, 0, 0), (20, .ifCond .eq 9, 3, 0, 0, 0, 0), (23, .iload_n 2, 1, 0, 0, 0, 0), (24, .iconst 1, 1, 0, 0, 0, 0), (25, .iload_n 3, 1, 0, 0, 0, 0), (26, .ishl, 1, 0, 0, 0, 0), (27, .ior, 1, 0, 0, 0, 0), (28, .istore_n 2, 1, 0, 0, 0, 0), (29, .iinc 3 1, 3, 0, 0, 0, 0), (32, .goto (-28), 3, 0, 0, 0, 0), (35, .iload_n 2, 1, 0, 0, 0, 0), (36, .ireturn, 1, 0, 0, 0, 0)]
set_option maxRecDepth 100000 in
theorem sx_k75 : sx_c75.all (sx_chk 10 prog_12_method_17_code) = true := by decide +kernel
def sx_c76 : List sx_I := [(0, .aload_n 0, 1, 0, 0, 0, 0), (1, .getfield 7, 3, 0, 3, 6, 0), (4, .ifCond .ne 18, 3, 0, 0, 0, 0), (7, .iload_n 1, 1, 0, 0, 0, 0), (8, .aload_n 0, 1, 0, 0, 0, 0), (9, .getfield 13, 3, 0, 3, 0, 0), (12, .ishr, 1, 0, 0, 0, 0), (13, .iconst 1, 1, 0, 0, 0, 0), (14, .iand, 1, 0, 0, 0, 0), (15, .ifCond .eq 7, 3, 0, 0, 0, 0), (18, .iconst 1, 1, 0, 0, 0, 0), (19, .goto 4, 3, 0, 0, 0, 0), (22, .iconst 0, 1, 0, 0, 0, 0), (23, .ireturn, 1, 0, 0, 0, 0)]
set_option maxRecDepth 100000 in
theorem sx_k76 : sx_c76.all (sx_chk 3 prog_5_method_6_code) = true := by decide +kernel
def sx_c77 : List sx_I := [(0, .aload_n 0, 1, 0, 0, 0, 0), (1, .getfield 7, 3, 0, 3, 6, 0), (4, .ifCond .ne 15, 3, 0, 0, 0, 0), (7, .aload_n 0, 1, 0, 0, 0, 0), (8, .getfield 13, 3, 0, 3, 0, 0), (11, .iload_n 1, 1, 0, 0, 0, 0), (12, .if_icmp .ne 7, 3, 0, 0, 0, 0), (15, .iconst 1, 1, 0, 0, 0, 0), (16, .goto 4, 3, 0, 0, 0, 0), (19, .iconst 0, 1, 0, 0, 0, 0), (20, .ireturn, 1, 0, 0, 0, 0)]
set_option maxRecDepth 100000 in
theorem sx_k77 : sx_c77.all (sx_chk 3 prog_5_method_5_code) = true := by decide +kernel
def sx_c78 : List sx_I := [(0, .iload_n 0, 1, 0, 0, 0, 0), (1, .iload_n 0, 1, 0, 0, 0, 0), (2, .iconst 1, 1, 0, 0, 0, 0), (3, .iushr, 1, 0, 0, 0, 0), (4, .ldc_w 265, 3, 6, 0, 0, 1431655765), (7, .iand, 1, 0, 0, 0, 0), (8, .isub, 1, 0, 0, 0, 0), (9, .istore_n 0, 1, 0, 0, 0, 0), (10, .iload_n 0, 1, 0, 0, 0, 0), (11, .ldc_w 266, 3, 6, 0, 0, 858993459), (14, .iand, 1, 0, 0, 0, 0), (15, .iload_n 0, 1, 0, 0, 0, 0), (16, .iconst 2, 1, 0, 0, 0, 0), (17, .iushr, 1, 0, 0, 0, 0), (18, .ldc_w 266, 3, 6, 0, 0, 858993459), (21, .iand, 1, 0, 0, 0, 0), (22, .iadd, 1, 0, 0, 0, 0), (23, .istore_n 0, 1, 0, 0, 0, 0), (24, .iload_n 0, 1, 0, 0, 0, 0), (25, .iload_n 0, 1, 0, 0, 0, 0), (26, .iconst 4, 1, 0, 0, 0, 0), (27, .iushr, 1, 0, 0, 0, 0), (28, .iadd, 1, 0, 0, 0, 0), (29, .ldc_w 267, 3, 6, 0, 0, 252645135), (32, .iand, 1, 0, 0, 0, 0), (33, .istore_n 0, 1, 0, 0, 0, 0), (34, .iload_n 0, 1, 0, 0, 0, 0), (35, .iload_n 0, 1, 0, 0, 0, 0), (36, .bipush 8, 2, 0, 0, 0, 0), (38, .iushr, 1, 0, 0, 0, 0), (39, .iadd, 1, 0, 0, 0, 0), (40, .istore_n 0, 1, 0, 0, 0, 0), (41, .iload_n 0, 1, 0, 0, 0, 0), (42, .iload_n 0, 1, 0, 0, 0, 0), (43, .bipush 16, 2, 0, 0, 0, 0), (45, .iushr, 1, 0, 0, 0, 0), (46, .iadd, 1, 0, 0, 0, 0), (47, .istore_n 0, 1, 0, 0, 0, 0), (48, .iload_n 0, 1, 0, 0, 0, 0), (49, .bipush 63, 2, 0, 0, 0, 0), (51, .iand, 1, 0, 0, 0, 0), (52, .ireturn, 1, 0, 0, 0, 0)]
set_option maxRecDepth 100000 in
theorem sx_k78 : sx_c78.all (sx_chk 14 prog_15_method_49_code) = true := by decide +kernel
def sx_c79 : List sx_I := [(0, .aload_n 0, 1, 0, 0, 0, 0), (1, .getfield 9, 3, 0, 0, 0, 0), (4, .iconst 5, 1, 0, 0, 0, 0), (5, .aload_n 1, 1, 0, 0, 0, 0), (6, .iload_n 2, 1, 0, 0, 0, 0), (7, .invokevirtual 84, 3, 2, 80, 0, 0), (10, .iastore, 1, 0, 0, 0, 0), (11, .aload_n 0, 1, 0, 0, 0, 0), (12, .getfield 9, 3, 0, 0, 0, 0), (15, .bipush 6, 2, 0, 0, 0, 0), (17, .aload_n 1, 1, 0, 0, 0, 0), (18, .iload_n 2, 1, 0, 0, 0, 0), (19, .invokevirtual 87, 3, 2, 81, 0, 0), (22, .iastore, 1, 0, 0, 0, 0), (23, .aload_n 0, 1, 0, 0, 0, 0), (24, .getfield 9, 3, 0, 0, 0, 0), (27, .bipush 7, 2, 0, 0, 0, 0), (29, .aload_n 1, 1, 0, 0, 0, 0), (30, .getfield 90, 3, 1, 10, 9, 0), (33, .iastore, 1, 0, 0, 0, 0), (34, .return_, 1, 0, 0, 0, 0)]
set_option maxRecDepth 100000 in
theorem sx_k79 : sx_c79.all (sx_chk 0 prog_2_method_6_code) = true := by decide +kernel
def sx_c80 : List sx_I := [(0, .aload_n 0, 1, 0, 0, 0, 0), (1, .iload_n 1, 1, 0, 0, 0, 0), (2, .invokevirtual 157, 3, 2, 75, 0, 0), (5, .invokestatic 160, 3, 2, 78, 0, 0), (8, .ireturn, 1, 0, 0, 0, 0)]
set_option maxRecDepth 100000 in
theorem sx_k80 : sx_c80.all (sx_chk 10 prog_12_method_18_code) = true := by decide +kernel
def sx_c81 : List sx_I := [(0, .iconst 0, 1, 0, 0, 0, 0), (1, .istore_n 2, 1, 0, 0, 0, 0), (2, .iconst 0, 1, 0, 0, 0, 0), (3, .istore_n 3, 1, 0, 0, 0, 0), (4, .iload_n 3, 1, 0, 0, 0, 0), (5, .bipush 10, 2, 0, 0, 0, 0), (7, .if_icmp .ge 29, 3, 0, 0, 0, 0), (10, .iload_n 1, 1, 0, 0, 0, 0), (11, .iload_n 3, 1, 0, 0, 0, 0), (12, .invokestatic 171, 3, 3, 44, 0, 0), (15, .ifCond .eq 15, 3, 0, 0, 0, 0), (18, .iload_n 2, 1, 0, 0, 0, 0), (19, .aload_n 0, 1, 0, 0, 0, 0), (20, .getfield 20, 3, 0, 10, 1, 0), (23, .iload_n 3, 1, 0, 0, 0, 0), (24, .aaload, 1, 0, 0, 0, 0), (25, .getfield 174, 3, 1, 4, 4, 0), (28, .iadd, 1, 0, 0, 0, 0), (29, .istore_n 2, 1, 0, 0, 0, 0), (30, .iinc 3 1, 3, 0, 0, 0, 0), (33, .goto (-29), 3, 0, 0, 0, 0), (36, .iload_n 2, 1, 0, 0, 0, 0), (37, .ireturn, 1, 0, 0, 0, 0)]
set_option maxRecDepth 100000 in
theorem sx_k81 : sx_c81.all (sx_chk 10 prog_12_method_20_code) = true := by decide +kernel
def sx_c82 : List sx_I := [(0, .aload_n 0, 1, 0, 0, 0, 0), (1, .aload_n 0, 1, 0, 0, 0, 0), (2, .getfield 39, 3, 0, 10, 7, 0), (5, .iload_n 1, 1, 0, 0, 0, 0), (6, .invokevirtual 99, 3, 2, 83, 0, 0), (9, .invokevirtual 103, 3, 2, 84, 0, 0), (12, .areturn, 1, 0, 0, 0, 0)]
set_option maxRecDepth 100000 in
theorem sx_k82 : sx_c82.all (sx_chk 10 prog_12_method_10_code) = true := by decide +kernel
def sx_c83 : List sx_I := [(0, .iload_n 1, 1, 0, 0, 0, 0), (1, .iconst 0, 1, 0, 0, 0, 0), (2, .bipush 11, 2, 0, 0, 0, 0), (4, .invokestatic 54, 3, 3, 14, 0, 0), (7, .ifCond .eq 12, 3, 0, 0, 0, 0), (10, .aload_n 0, 1, 0, 0, 0, 0), (11, .getfield 24, 3, 0, 1, 6, 0), (14, .iload_n 1, 1, 0, 0, 0, 0), (15, .iaload, 1, 0, 0, 0, 0), (16, .goto 4, 3, 0, 0, 0, 0), (19, .iconst 0, 1, 0, 0, 0, 0), (20, .ireturn, 1, 0, 0, 0, 0)]
set_option maxRecDepth 100000 in
theorem sx_k83 : sx_c83.all (sx_chk 1 prog_3_method_10_code) = true := by decide +kernel
def sx_c84 : List sx_I := [(0, .aload_n 0, 1, 0, 0, 0, 0), (1, .getfield 45, 3, 0, 10, 8, 0), (4, .iload_n 1, 1, 0, 0, 0, 0), (5, .invokestatic 95, 3, 3, 85, 0, 0), (8, .ifCond .eq 7, 3, 0, 0, 0, 0), (11, .iload_n 1, 1, 0, 0, 0, 0), (12, .goto 4, 3, 0, 0, 0, 0), (15, .iconst 0, 1, 0, 0, 0, 0), (16, .aaload, 1, 0, 0, 0, 0), (17, .areturn, 1, 0, 0, 0, 0)]
set_option maxRecDepth 100000 in
theorem sx_k84 : sx_c84.all (sx_chk 10 prog_12_method_9_code) = true := by decide +kernel
def sx_c85 : List sx_I := [(0, .iload_n 0, 1, 0, 0, 0, 0), (1, .iconst 0, 1, 0, 0, 0, 0), (2, .iconst 4, 1, 0, 0, 0, 0), (3, .invokestatic 59, 3, 2, 14, 0, 0), (6, .ireturn, 1, 0, 0, 0, 0)]
set_option maxRecDepth 100000 in
theorem sx_k85 : sx_c85.all (sx_chk 11 prog_1_method_52_code) = true := by decide +kernel
def sx_c86 : List sx_I := [(0, .aload_n 0, 1, 0, 0, 0, 0), (1, .iconst 0, 1, 0, 0, 0, 0), (2, .putfield 93, 3, 0, 0, 2, 0), (5, .aload_n 1, 1, 0, 0, 0, 0), (6, .iload_n 2, 1, 0, 0, 0, 0), (7, .invokevirtual 96, 3, 2, 87, 0, 0), (10, .istore_n 3, 1, 0, 0, 0, 0), (11, .aload_n 1, 1, 0, 0, 0, 0), (12, .iload_n 2, 1, 0, 0, 0, 0), (13, .invokevirtual 101, 3, 2, 88, 0, 0), (16, .istore 4, 2, 0, 0, 0, 0), (18, .iload 4, 2, 0, 0, 0, 0), (20, .iload_n 3, 1, 0, 0, 0, 0), (21, .if_icmp .ge 106, 3, 0, 0, 0, 0), (24, .aload_n 1, 1, 0, 0, 0, 0), (25, .getfield 104, 3, 1, 9, 1, 0), (28, .iload 4, 2, 0, 0, 0, 0), (30, .iaload, 1, 0, 0, 0, 0), (31, .istore 5, 2, 0, 0, 0, 0), (33, .iconst (-1), 1, 0, 0, 0, 0), (34, .iload 5, 2, 0, 0, 0, 0), (36, .isub, 1, 0, 0, 0, 0), (37, .istore 6, 2, 0, 0, 0, 0), (39, .iload 5, 2, 0, 0, 0, 0), (41, .ifCond .lt 12, 3, 0, 0, 0, 0), (44, .aload_n 0, 1, 0, 0, 0, 0), (45, .iload 5, 2, 0, 0, 0, 0), (47, .invokevirtual 107, 3, 2, 89, 0, 0), (50, .goto 71, 3, 0, 0, 0, 0), (53, .iload 6, 2, 0, 0, 0, 0), (55, .bipush 9, 2, 0, 0, 0, 0), (57, .if_icmp .ge 17, 3, 0, 0, 0, 0), (60, .aload_n 0, 1, 0, 0, 0, 0), (61, .aload_n 0, 1, 0, 0, 0, 0), (62, .getfield 9, 3, 0, 0, 0, 0), (65, .iload 6, 2, 0, 0, 0, 0), (67, .iaload, 1, 0, 0, 0, 0), (68, .invokevirtual 107, 3, 2, 89, 0, 0), (71, .goto 50, 3, 0, 0, 0, 0), (74, .iload 6, 2, 0, 0, 0, 0), (76, .bipush 14, 2, 0, 0, 0, 0), (78, .if_icmp .ne 22, 3, 0, 0, 0, 0), (81, .aload_n 0, 1, 0, 0, 0, 0), (82, .aload_n 0, 1, 0, 0, 0, 0), (83, .invokevirtual 111, 3, 2, 90, 0, 0), (86, .ifCond .ne 7, 3, 0, 0, 0, 0), (89, .iconst 1, 1, 0, 0, 0, 0), (90, .goto 4, 3, 0, 0, 0, 0), (93, .iconst 0, 1, 0, 0, 0, 0), (94, .invokevirtual 107, 3, 2, 89, 0, 0), (97, .goto 24, 3, 0, 0, 0, 0), (100, .aload_n 0, 1, 0, 0, 0, 0), (101, .invokevirtual 111, 3, 2, 90, 0, 0), (104, .istore 7, 2, 0, 0, 0, 0), (106, .aload_n 0, 1, 0, 0, 0, 0), (107, .iload 6, 2, 0, 0, 0, 0), (109, .aload_n 0, 1, 0, 0, 0, 0), (110, .invokevirtual 111, 3, 2, 90, 0, 0), (113, .iload 7, 2, 0, 0, 0, 0), (115, .invokestatic 114, 3, 2, 91, 0, 0), (118, .invokevirtual 107, 3, 2, 89, 0, 0), (121, .iinc 4 1, 3, 0, 0, 0, 0), (124, .goto (-106), 3, 0, 0, 0, 0), (127, .aload_n 0, 1, 0, 0, 0, 0), (128, .invokevirtual 111, 3, 2, 90, 0, 0), (131, .ireturn, 1, 0, 0, 0, 0)]
set_option maxRecDepth 100000 in
theorem sx_k86 : sx_c86.all (sx_chk 0 prog_2_method_7_code) = true := by decide +kernel
def sx_c87 : List sx_I := [(0, .iload_n 1, 1, 0, 0, 0, 0), (1, .iconst 0, 1, 0, 0, 0, 0), (2, .iconst 2, 1, 0, 0, 0, 0), (3, .invokestatic 36, 3, 3, 14, 0, 0), (6, .ifCond .eq 18, 3, 0, 0, 0, 0), (9, .aload_n 0, 1, 0, 0, 0, 0), (10, .getfield 15, 3, 0, 9, 2, 0), (13, .iload_n 1, 1, 0, 0, 0, 0), (14, .iaload, 1, 0, 0, 0, 0), (15, .sipush 160, 3, 0, 0, 0, 0), (18, .invokestatic 40, 3, 14, 0, 0, 0), (21, .goto 4, 3, 0, 0, 0, 0), (24, .iconst 0, 1, 0, 0, 0, 0), (25, .ireturn, 1, 0, 0, 0, 0)]
set_option maxRecDepth 100000 in
theorem sx_k87 : sx_c87.all (sx_chk 9 prog_11_method_8_code) = true := by decide +kernel
def sx_c88 : List sx_I := [(0, .iload_n 1, 1, 0, 0, 0, 0), (1, .iconst 1, 1, 0, 0, 0, 0), (2, .iconst 2, 1, 0, 0, 0, 0), (3, .invokestatic 36, 3, 3, 14, 0, 0), (6, .ifCond .eq 14, 3, 0, 0, 0, 0), (9, .aload_n 0, 1, 0, 0, 0, 0), (10, .getfield 15, 3, 0, 9, 2, 0), (13, .iload_n 1, 1, 0, 0, 0, 0), (14, .iconst 1, 1, 0, 0, 0, 0), (15, .isub, 1, 0, 0, 0, 0), (16, .iaload, 1, 0, 0, 0, 0), (17, .goto 4, 3, 0, 0, 0, 0), (20, .iconst 0, 1, 0, 0, 0, 0), (21, .ireturn, 1, 0, 0, 0, 0)]
set_option maxRecDepth 100000 in
theorem sx_k88 : sx_c88.all (sx_chk 9 prog_11_method_7_code) = true := by decide +kernel
def sx_c89 : List sx_I := [(0, .aload_n 0, 1, 0, 0, 0, 0), (1, .getfield 93, 3, 0, 0, 2, 0), (4, .bipush 24, 2, 0, 0, 0, 0), (6, .if_icmp .ge 23, 3, 0, 0, 0, 0), (9, .aload_n 0, 1, 0, 0, 0, 0), (10, .getfield 15, 3, 0, 0, 1, 0), (13, .aload_n 0, 1, 0, 0, 0, 0), (14, .getfield 93, 3, 0, 0, 2, 0), (17, .iload_n 1, 1, 0, 0, 0, 0), (18, .iastore, 1, 0, 0, 0, 0), (19, .aload_n 0, 1, 0, 0, 0, 0), (20, .dup, 1, 0, 0, 0, 0), (21, .getfield 93, 3, 0, 0, 2, 0), (24, .iconst 1, 1, 0, 0, 0, 0), (25, .iadd, 1, 0, 0, 0, 0), (26, .putfield 93, 3, 0, 0, 2, 0), (29, .return_, 1, 0, 0, 0, 0)]
set_option maxRecDepth 100000 in
theorem sx_k89 : sx_c89.all (sx_chk 0 prog_2_method_8_code) = true := by decide +kernel
def sx_c90 : List sx_I := [(0, .aload_n 0, 1, 0, 0, 0, 0), (1, .getfield 93, 3, 0, 0, 2, 0), (4, .ifCond .gt 5, 3, 0, 0, 0, 0), (7, .iconst 0, 1, 0, 0, 0, 0), (8, .ireturn, 1, 0, 0, 0, 0), (9, .aload_n 0, 1, 0, 0, 0, 0), (10, .dup, 1, 0, 0, 0, 0), (11, .getfield 93, 3, 0, 0, 2, 0), (14, .iconst 1, 1, 0, 0, 0, 0), (15, .isub, 1, 0, 0, 0, 0), (16, .putfield 93, 3, 0, 0, 2, 0), (19, .aload_n 0, 1, 0, 0, 0, 0), (20, .getfield 15, 3, 0, 0, 1, 0), (23, .aload_n 0, 1, 0, 0, 0, 0), (24, .getfield 93, 3, 0, 0, 2, 0), (27, .iaload, 1, 0, 0, 0, 0), (28, .ireturn, 1, 0, 0, 0, 0)]
set_option maxRecDepth 100000 in
theorem sx_k90 : sx_c90.all (sx_chk 0 prog_2_method_9_code) = true := by decide +kernel
def sx_c91 : List sx_I := [(0, .iload_n 0, 1, 0, 0, 0, 0), (1, .tableswitch 117 12 22 #[59, 73, 117, 117, 117, 117, 117, 109, 113, 87, 98], 59, 0, 0, 0, 0), (60, .iload_n 1, 1, 0, 0, 0, 0), (61, .ifCond .ne 7, 3, 0, 0, 0, 0), (64, .iload_n 2, 1, 0, 0, 0, 0), (65, .ifCond .eq 7, 3, 0, 0, 0, 0), (68, .iconst 1, 1, 0, 0, 0, 0), (69, .goto 4, 3, 0, 0, 0, 0), (72, .iconst 0, 1, 0, 0, 0, 0), (73, .ireturn, 1, 0, 0, 0, 0), (74, .iload_n 1, 1, 0, 0, 0, 0), (75, .ifCond .eq 11, 3, 0, 0, 0, 0), (78, .iload_n 2, 1, 0, 0, 0, 0), (79, .ifCond .eq 7, 3, 0, 0, 0, 0), (82, .iconst 1, 1, 0, 0, 0, 0), (83, .goto 4, 3, 0, 0, 0, 0), (86, .iconst 0, 1, 0, 0, 0, 0), (87, .ireturn, 1, 0, 0, 0, 0), (88, .iload_n 1, 1, 0, 0, 0, 0), (89, .iload_n 2, 1, 0, 0, 0, 0), (90, .if_icmp .ge 7, 3, 0, 0, 0, 0), (93, .iconst 1, 1, 0, 0, 0, 0), (94, .goto 4, 3, 0, 0, 0, 0), (97, .iconst 0, 1, 0, 0, 0, 0), (98, .ireturn, 1, 0, 0, 0, 0), (99, .iload_n 1, 1, 0, 0, 0, 0), (100, .iload_n 2, 1, 0, 0, 0, 0), (101, .if_icmp .ne 7, 3, 0, 0, 0, 0), (104, .iconst 1, 1, 0, 0, 0, 0), (105, .goto 4, 3, 0, 0, 0, 0), (108, .iconst 0, 1, 0, 0, 0, 0), (109, .ireturn, 1, 0, 0, 0, 0), (110, .iload_n 1, 1, 0, 0, 0, 0), (111, .iload_n 2, 1, 0, 0, 0, 0), (112, .iadd, 1, 0, 0, 0, 0), (113, .ireturn, 1, 0, 0, 0, 0), (114, .iload_n 1, 1, 0, 0, 0, 0), (115, .iload_n 2, 1, 0, 0, 0, 0), (116, .isub, 1, 0, 0, 0, 0), (117, .ireturn, 1, 0, 0, 0, 0), (118, .iconst 0, 1, 0, 0, 0, 0), (119, .ireturn, 1, 0, 0, 0, 0)]
set_option maxRecDepth 100000 in
theorem sx_k91 : sx_c91.all (sx_chk 0 prog_2_method_10_code) = true := by decide +kernel
def sx_c92 : List sx_I := [(0, .iconst 0, 1, 0, 0, 0, 0), (1, .istore_n 1, 1, 0, 0, 0, 0), (2, .aload_n 0, 1, 0, 0, 0, 0), (3, .getfield 24, 3, 0, 2, 5, 0), (6, .istore_n 2, 1, 0, 0, 0, 0), (7, .iconst 0, 1, 0, 0, 0, 0), (8, .istore_n 3, 1, 0, 0, 0, 0), (9, .iload_n 3, 1, 0, 0, 0, 0), (10, .bipush 10, 2, 0, 0, 0, 0), (12, .if_icmp .ge 30, 3, 0, 0, 0, 0), (15, .iload_n 2, 1, 0, 0, 0, 0), (16, .iload_n 3, 1, 0, 0, 0, 0), (17, .invokestatic 100, 3, 3, 44, 0, 0), (20, .ifCond .eq 16, 3, 0, 0, 0, 0), (23, .iload_n 2, 1, 0, 0, 0, 0), (24, .aload_n 0, 1, 0, 0, 0, 0), (25, .iload_n 3, 1, 0, 0, 0, 0), (26, .invokevirtual 97, 3, 2, 34, 0, 0), (29, .iconst (-1), 1, 0, 0, 0, 0), (30, .ixor, 1, 0, 0, 0, 0), (31, .iand, 1, 0, 0, 0, 0), (32, .istore_n 2, 1, 0, 0, 0, 0), (33, .iinc 1 1, 3, 0, 0, 0, 0), (36, .iinc 3 1, 3, 0, 0, 0, 0), (39, .goto (-30), 3, 0, 0, 0, 0), (42, .iload_n 1, 1, 0, 0, 0, 0), (43, .ireturn, 1, 0, 0, 0, 0)]
set_option maxRecDepth 100000 in
theorem sx_k92 : sx_c92.all (sx_chk 2 prog_4_method_8_code) = true := by decide +kernel
def sx_c93 : List sx_I := [(0, .aload_n 0, 1, 0, 0, 0, 0), (1, .getfield 10, 3, 0, 11, 0, 0), (4, .iload_n 1, 1, 0, 0, 0, 0), (5, .invokevirtual 232, 3, 2, 66, 0, 0), (8, .ifCond .eq 13, 3, 0, 0, 0, 0), (11, .iload_n 2, 1, 0, 0, 0, 0), (12, .iconst 0, 1, 0, 0, 0, 0), (13, .bipush 6, 2, 0, 0, 0, 0), (15, .invokestatic 59, 3, 2, 14, 0, 0), (18, .ifCond .ne 10, 3, 0, 0, 0, 0), (21, .aload_n 0, 1, 0, 0, 0, 0), (22, .ldc 63, 2, 6, 0, 0, -100001), (24, .invokevirtual 64, 3, 2, 15, 0, 0), (27, .ireturn, 1, 0, 0, 0, 0), (28, .aload_n 0, 1, 0, 0, 0, 0), (29, .getfield 10, 3, 0, 11, 0, 0), (32, .iload_n 1, 1, 0, 0, 0, 0), (33, .invokevirtual 205, 3, 2, 31, 0, 0), (36, .astore_n 3, 1, 0, 0, 0, 0), (37, .aload_n 3, 1, 0, 0, 0, 0), (38, .getfield 235, 3, 1, 5, 7, 0), (41, .ifCond .ne 10, 3, 0, 0, 0, 0), (44, .aload_n 0, 1, 0, 0, 0, 0), (45, .ldc 140, 2, 6, 0, 0, -100006), (47, .invokevirtual 64, 3, 2, 15, 0, 0), (50, .ireturn, 1, 0, 0, 0, 0), (51, .iload_n 2, 1, 0, 0, 0, 0), (52, .tableswitch 81 0 5 #[40, 45, 50, 55, 60, 76], 40, 0, 0, 0, 0), (92, .aload_n 3, 1, 0, 0, 0, 0), (93, .getfield 238, 3, 1, 5, 0, 0), (96, .ireturn, 1, 0, 0, 0, 0), (97, .aload_n 3, 1, 0, 0, 0, 0), (98, .getfield 252, 3, 1, 5, 1, 0), (101, .ireturn, 1, 0, 0, 0, 0), (102, .aload_n 3, 1, 0, 0, 0, 0), (103, .invokevirtual 255, 3, 2, 32, 0, 0), (106, .ireturn, 1, 0, 0, 0, 0), (107, .aload_n 3, 1, 0, 0, 0, 0), (108, .getfield 258, 3, 1, 5, 5, 0), (111, .ireturn, 1, 0, 0, 0, 0), (112, .aload_n 0, 1, 0, 0, 0, 0), (113, .invokevirtual 120, 3, 2, 26, 0, 0), (116, .iload_n 1, 1, 0, 0, 0, 0), (117, .aload_n 0, 1, 0, 0, 0, 0), (118, .getfield 40, 3, 0, 11, 5, 0), (121, .getfield 261, 3, 1, 2, 4, 0), (124, .invokevirtual 264, 3, 2, 72, 0, 0), (127, .ireturn, 1, 0, 0, 0, 0), (128, .aload_n 3, 1, 0, 0, 0, 0), (129, .getfield 268, 3, 1, 5, 2, 0), (132, .ireturn, 1, 0, 0, 0, 0), (133, .aload_n 3, 1, 0, 0, 0, 0), (134, .getfield 271, 3, 1, 5, 3, 0), (137, .ireturn, 1, 0, 0, 0, 0)]
set_option maxRecDepth 100000 in
theorem sx_k93 : sx_c93.all (sx_chk 11 prog_1_method_14_code) = true := by decide +kernel
def sx_c94 : List sx_I := [(0, .aload_n 0, 1, 0, 0, 0, 0), (1, .getfield 10, 3, 0, 11, 0, 0), (4, .iload_n 1, 1, 0, 0, 0, 0), (5, .invokevirtual 232, 3, 2, 66, 0, 0), (8, .ifCond .eq 10, 3, 0, 0, 0, 0), (11, .iload_n 2, 1, 0, 0, 0, 0), (12, .invokestatic 274, 3, 2, 95, 0, 0), (15, .ifCond .ne 10, 3, 0, 0, 0, 0), (18, .aload_n 0, 1, 0, 0, 0, 0), (19, .ldc 63, 2, 6, 0, 0, -100001), (21, .invokevirtual 64, 3, 2, 15, 0, 0), (24, .ireturn, 1, 0, 0, 0, 0), (25, .aload_n 0, 1, 0, 0, 0, 0), (26, .getfield 10, 3, 0, 11, 0, 0), (29, .iload_n 1, 1, 0, 0, 0, 0), (30, .invokevirtual 205, 3, 2, 31, 0, 0), (33, .getfield 235, 3, 1, 5, 7, 0), (36, .ifCond .ne 10, 3, 0, 0, 0, 0), (39, .aload_n 0, 1, 0, 0, 0, 0), (40, .ldc 140, 2, 6, 0, 0, -100006), (42, .invokevirtual 64, 3, 2, 15, 0, 0), (45, .ireturn, 1, 0, 0, 0, 0), (46, .aload_n 0, 1, 0, 0, 0, 0), (47, .invokevirtual 120, 3, 2, 26, 0, 0), (50, .iload_n 1, 1, 0, 0, 0, 0), (51, .aload_n 0, 1, 0, 0, 0, 0), (52, .getfield 40, 3, 0, 11, 5, 0), (55, .getfield 261, 3, 1, 2, 4, 0), (58, .iload_n 2, 1, 0, 0, 0, 0), (59, .invokevirtual 277, 3, 2, 71, 0, 0), (62, .ireturn, 1, 0, 0, 0, 0)]
set_option maxRecDepth 100000 in
theorem sx_k94 : sx_c94.all (sx_chk 11 prog_1_method_15_code) = true := by decide +kernel
def sx_c95 : List sx_I := [(0, .iload_n 0, 1, 0, 0, 0, 0), (1, .iconst 0, 1, 0, 0, 0, 0), (2, .bipush 20, 2, 0, 0, 0, 0), (4, .invokestatic 59, 3, 2, 14, 0, 0), (7, .ireturn, 1, 0, 0, 0, 0)]
set_option maxRecDepth 100000 in
theorem sx_k95 : sx_c95.all (sx_chk 11 prog_1_method_54_code) = true := by decide +kernel
def sx_c96 : List sx_I := [(0, .aload_n 0, 1, 0, 0, 0, 0), (1, .invokevirtual 120, 3, 2, 26, 0, 0), (4, .invokevirtual 249, 3, 2, 92, 0, 0), (7, .ireturn, 1, 0, 0, 0, 0)]
set_option maxRecDepth 100000 in
theorem sx_k96 : sx_c96.all (sx_chk 11 prog_1_method_16_code) = true := by decide +kernel
def sx_c97 : List sx_I := [(0, .aload_n 0, 1, 0, 0, 0, 0), (1, .getfield 10, 3, 0, 11, 0, 0), (4, .iload_n 1, 1, 0, 0, 0, 0), (5, .invokevirtual 89, 3, 2, 23, 0, 0), (8, .ifCond .ne 10, 3, 0, 0, 0, 0), (11, .aload_n 0, 1, 0, 0, 0, 0), (12, .ldc 63, 2, 6, 0, 0, -100001), (14, .invokevirtual 64, 3, 2, 15, 0, 0), (17, .ireturn, 1, 0, 0, 0, 0), (18, .aload_n 0, 1, 0, 0, 0, 0), (19, .getfield 10, 3, 0, 11, 0, 0), (22, .iload_n 1, 1, 0, 0, 0, 0), (23, .invokevirtual 92, 3, 2, 20, 0, 0), (26, .getfield 137, 3, 1, 4, 6, 0), (29, .ifCond .eq 10, 3, 0, 0, 0, 0), (32, .aload_n 0, 1, 0, 0, 0, 0), (33, .ldc 140, 2, 6, 0, 0, -100006), (35, .invokevirtual 64, 3, 2, 15, 0, 0), (38, .ireturn, 1, 0, 0, 0, 0), (39, .aload_n 0, 1, 0, 0, 0, 0), (40, .invokevirtual 120, 3, 2, 26, 0, 0), (43, .iload_n 1, 1, 0, 0, 0, 0), (44, .invokevirtual 131, 3, 2, 34, 0, 0), (47, .ireturn, 1, 0, 0, 0, 0)]
set_option maxRecDepth 100000 in
theorem sx_k97 : sx_c97.all (sx_chk 11 prog_1_method_17_code) = true := by decide +kernel
def sx_c98 : List sx_I := [(0, .iload_n 1, 1, 0, 0, 0, 0), (1, .invokestatic 274, 3, 2, 95, 0, 0), (4, .ifCond .eq 8, 3, 0, 0, 0, 0), (7, .iload_n 2, 1, 0, 0, 0, 0), (8, .iconst (-1), 1, 0, 0, 0, 0), (9, .if_icmp .ge 10, 3, 0, 0, 0, 0), (12, .aload_n 0, 1, 0, 0, 0, 0), (13, .ldc 63, 2, 6, 0, 0, -100001), (15, .invokevirtual 64, 3, 2, 15, 0, 0), (18, .ireturn, 1, 0, 0, 0, 0), (19, .aload_n 0, 1, 0, 0, 0, 0), (20, .invokevirtual 120, 3, 2, 26, 0, 0), (23, .pop, 1, 0, 0, 0, 0), (24, .iload_n 2, 1, 0, 0, 0, 0), (25, .iconst (-1), 1, 0, 0, 0, 0), (26, .if_icmp .ne 21, 3, 0, 0, 0, 0), (29, .aload_n 0, 1, 0, 0, 0, 0), (30, .getfield 40, 3, 0, 11, 5, 0), (33, .aload_n 0, 1, 0, 0, 0, 0), (34, .getfield 40, 3, 0, 11, 5, 0), (37, .getfield 261, 3, 1, 2, 4, 0), (40, .iload_n 1, 1, 0, 0, 0, 0), (41, .bipush 12, 2, 0, 0, 0, 0), (43, .invokevirtual 280, 3, 2, 99, 0, 0), (46, .ireturn, 1, 0, 0, 0, 0), (47, .aload_n 0, 1, 0, 0, 0, 0), (48, .getfield 40, 3, 0, 11, 5, 0), (51, .iload_n 2, 1, 0, 0, 0, 0), (52, .iload_n 1, 1, 0, 0, 0, 0), (53, .invokevirtual 283, 3, 2, 101, 0, 0), (56, .istore_n 3, 1, 0, 0, 0, 0), (57, .iload_n 3, 1, 0, 0, 0, 0), (58, .ifCond .ge 12, 3, 0, 0, 0, 0), (61, .aload_n 0, 1, 0, 0, 0, 0), (62, .ldc 140, 2, 6, 0, 0, -100006), (64, .invokevirtual 64, 3, 2, 15, 0, 0), (67, .goto 4, 3, 0, 0, 0, 0), (70, .iload_n 3, 1, 0, 0, 0, 0), (71, .ireturn, 1, 0, 0, 0, 0)]
set_option maxRecDepth 100000 in
theorem sx_k98 : sx_c98.all (sx_chk 11 prog_1_method_18_code) = true := by decide +kernel
def sx_c99 : List sx_I := [(0, .iload_n 1, 1, 0, 0, 0, 0), (1, .istore 4, 2, 0, 0, 0, 0), (3, .iconst 0, 1, 0, 0, 0, 0), (4, .istore 5, 2, 0, 0, 0, 0), (6, .iconst 0, 1, 0, 0, 0, 0), (7, .istore 6, 2, 0, 0, 0, 0), (9, .iload 6, 2, 0, 0, 0, 0), (11, .bipush 12, 2, 0, 0, 0, 0), (13, .if_icmp .ge 46, 3, 0, 0, 0, 0), (16, .iload 5, 2, 0, 0, 0, 0), (18, .iload_n 3, 1, 0, 0, 0, 0), (19, .if_icmp .ge 40, 3, 0, 0, 0, 0), (22, .aload_n 0, 1, 0, 0, 0, 0), (23, .iload 4, 2, 0, 0, 0, 0), (25, .iload_n 2, 1, 0, 0, 0, 0), (26, .invokevirtual 114, 3, 2, 100, 0, 0), (29, .istore 7, 2, 0, 0, 0, 0), (31, .iload 7, 2, 0, 0, 0, 0), (33, .ifCond .ge 6, 3, 0, 0, 0, 0), (36, .goto 23, 3, 0, 0, 0, 0), (39, .iload 4, 2, 0, 0, 0, 0), (41, .iconst 1, 1, 0, 0, 0, 0), (42, .iload 7, 2, 0, 0, 0, 0), (44, .ishl, 1, 0, 0, 0, 0), (45, .iconst (-1), 1, 0, 0, 0, 0), (46, .ixor, 1, 0, 0, 0, 0), (47, .iand, 1, 0, 0, 0, 0), (48, .istore 4, 2, 0, 0, 0, 0), (50, .iinc 5 1, 3, 0, 0, 0, 0), (53, .iinc 6 1, 3, 0, 0, 0, 0), (56, .goto (-47), 3, 0, 0, 0, 0), (59, .iload 5, 2, 0, 0, 0, 0), (61, .ireturn, 1, 0, 0, 0, 0)]
set_option maxRecDepth 100000 in
theorem sx_k99 : sx_c99.all (sx_chk 2 prog_4_method_13_code) = true := by decide +kernel
def sx_c100 : List sx_I := [(0, .iconst (-1), 1, 0, 0, 0, 0), (1, .istore_n 3, 1, 0, 0, 0, 0), (2, .iconst 0, 1, 0, 0, 0, 0), (3, .istore 4, 2, 0, 0, 0, 0), (5, .iconst 0, 1, 0, 0, 0, 0), (6, .istore 5, 2, 0, 0, 0, 0), (8, .iload 5, 2, 0, 0, 0, 0), (10, .bipush 12, 2, 0, 0, 0, 0), (12, .if_icmp .ge 50, 3, 0, 0, 0, 0), (15, .iload_n 1, 1, 0, 0, 0, 0), (16, .iload 5, 2, 0, 0, 0, 0), (18, .invokestatic 100, 3, 3, 44, 0, 0), (21, .ifCond .eq 35, 3, 0, 0, 0, 0), (24, .aload_n 0, 1, 0, 0, 0, 0), (25, .iload 5, 2, 0, 0, 0, 0), (27, .iload_n 1, 1, 0, 0, 0, 0), (28, .iload_n 2, 1, 0, 0, 0, 0), (29, .invokevirtual 110, 3, 2, 71, 0, 0), (32, .aload_n 0, 1, 0, 0, 0, 0), (33, .getfield 15, 3, 0, 2, 1, 0), (36, .iload 5, 2, 0, 0, 0, 0), (38, .iaload, 1, 0, 0, 0, 0), (39, .isub, 1, 0, 0, 0, 0), (40, .istore 6, 2, 0, 0, 0, 0), (42, .iload 6, 2, 0, 0, 0, 0), (44, .iload 4, 2, 0, 0, 0, 0), (46, .if_icmp .le 10, 3, 0, 0, 0, 0), (49, .iload 5, 2, 0, 0, 0, 0), (51, .istore_n 3, 1, 0, 0, 0, 0), (52, .iload 6, 2, 0, 0, 0, 0), (54, .istore 4, 2, 0, 0, 0, 0), (56, .iinc 5 1, 3, 0, 0, 0, 0), (59, .goto (-51), 3, 0, 0, 0, 0), (62, .iload_n 3, 1, 0, 0, 0, 0), (63, .ireturn, 1, 0, 0, 0, 0)]
set_option maxRecDepth 100000 in
theorem sx_k100 : sx_c100.all (sx_chk 2 prog_4_method_12_code) = true := by decide +kernel
def sx_c101 : List sx_I := [(0, .aload_n 0, 1, 0, 0, 0, 0), (1, .getfield 64, 3, 0, 2, 4, 0), (4, .istore_n 3, 1, 0, 0, 0, 0), (5, .iconst 0, 1, 0, 0, 0, 0), (6, .istore 4, 2, 0, 0, 0, 0), (8, .iload 4, 2, 0, 0, 0, 0), (10, .bipush 12, 2, 0, 0, 0, 0), (12, .if_icmp .ge 46, 3, 0, 0, 0, 0), (15, .iload 4, 2, 0, 0, 0, 0), (17, .iload_n 1, 1, 0, 0, 0, 0), (18, .if_icmp .gt 40, 3, 0, 0, 0, 0), (21, .aload_n 0, 1, 0, 0, 0, 0), (22, .iload_n 3, 1, 0, 0, 0, 0), (23, .iload_n 2, 1, 0, 0, 0, 0), (24, .invokevirtual 114, 3, 2, 100, 0, 0), (27, .istore 5, 2, 0, 0, 0, 0), (29, .iload 5, 2, 0, 0, 0, 0), (31, .ifCond .lt 9, 3, 0, 0, 0, 0), (34, .iload 4, 2, 0, 0, 0, 0), (36, .iload_n 1, 1, 0, 0, 0, 0), (37, .if_icmp .ne 6, 3, 0, 0, 0, 0), (40, .iload 5, 2, 0, 0, 0, 0), (42, .ireturn, 1, 0, 0, 0, 0), (43, .iload_n 3, 1, 0, 0, 0, 0), (44, .iconst 1, 1, 0, 0, 0, 0), (45, .iload 5, 2, 0, 0, 0, 0), (47, .ishl, 1, 0, 0, 0, 0), (48, .iconst (-1), 1, 0, 0, 0, 0), (49, .ixor, 1, 0, 0, 0, 0), (50, .iand, 1, 0, 0, 0, 0), (51, .istore_n 3, 1, 0, 0, 0, 0), (52, .iinc 4 1, 3, 0, 0, 0, 0), (55, .goto (-47), 3, 0, 0, 0, 0), (58, .iconst (-1), 1, 0, 0, 0, 0), (59, .ireturn, 1, 0, 0, 0, 0)]
set_option maxRecDepth 100000 in
theorem sx_k101 : sx_c101.all (sx_chk 2 prog_4_method_14_code) = true := by decide +kernel
def sx_c102 : List sx_I := [(0, .iload_n 1, 1, 0, 0, 0, 0), (1, .invokestatic 274, 3, 2, 95, 0, 0), (4, .ifCond .eq 10, 3, 0, 0, 0, 0), (7, .iload_n 2, 1, 0, 0, 0, 0), (8, .invokestatic 286, 3, 2, 103, 0, 0), (11, .ifCond .ne 10, 3, 0, 0, 0, 0), (14, .aload_n 0, 1, 0, 0, 0, 0), (15, .ldc 63, 2, 6, 0, 0, -100001), (17, .invokevirtual 64, 3, 2, 15, 0, 0), (20, .ireturn, 1, 0, 0, 0, 0), (21, .aload_n 0, 1, 0, 0, 0, 0), (22, .getfield 10, 3, 0, 11, 0, 0), (25, .iload_n 1, 1, 0, 0, 0, 0), (26, .iload_n 2, 1, 0, 0, 0, 0), (27, .aload_n 0, 1, 0, 0, 0, 0), (28, .getfield 40, 3, 0, 11, 5, 0), (31, .invokevirtual 289, 3, 2, 104, 0, 0), (34, .ireturn, 1, 0, 0, 0, 0)]
set_option maxRecDepth 100000 in
theorem sx_k102 : sx_c102.all (sx_chk 11 prog_1_method_19_code) = true := by decide +kernel
def sx_c103 : List sx_I := [(0, .iload_n 0, 1, 0, 0, 0, 0), (1, .iconst 0, 1, 0, 0, 0, 0), (2, .bipush 9, 2, 0, 0, 0, 0), (4, .invokestatic 59, 3, 2, 14, 0, 0), (7, .ireturn, 1, 0, 0, 0, 0)]
set_option maxRecDepth 100000 in
theorem sx_k103 : sx_c103.all (sx_chk 11 prog_1_method_55_code) = true := by decide +kernel
def sx_c104 : List sx_I := [(0, .aload_n 3, 1, 0, 0, 0, 0), (1, .aload_n 0, 1, 0, 0, 0, 0), (2, .invokevirtual 186, 3, 2, 27, 0, 0), (5, .aload_n 0, 1, 0, 0, 0, 0), (6, .iload_n 1, 1, 0, 0, 0, 0), (7, .aload_n 3, 1, 0, 0, 0, 0), (8, .invokevirtual 192, 3, 2, 105, 0, 0), (11, .istore 4, 2, 0, 0, 0, 0), (13, .aload_n 0, 1, 0, 0, 0, 0), (14, .iload_n 2, 1, 0, 0, 0, 0), (15, .invokevirtual 196, 3, 2, 107, 0, 0), (18, .aload_n 0, 1, 0, 0, 0, 0), (19, .invokevirtual 200, 3, 2, 108, 0, 0), (22, .aload_n 0, 1, 0, 0, 0, 0), (23, .aload_n 3, 1, 0, 0, 0, 0), (24, .invokevirtual 203, 3, 2, 109, 0, 0), (27, .aload_n 0, 1, 0, 0, 0, 0), (28, .iload_n 2, 1, 0, 0, 0, 0), (29, .ifCond .le 7, 3, 0, 0, 0, 0), (32, .iconst 1, 1, 0, 0, 0, 0), (33, .goto 4, 3, 0, 0, 0, 0), (36, .iconst 0, 1, 0, 0, 0, 0), (37, .invokevirtual 207, 3, 2, 113, 0, 0), (40, .aload_n 0, 1, 0, 0, 0, 0), (41, .aload_n 3, 1, 0, 0, 0, 0), (42, .invokevirtual 211, 3, 2, 114, 0, 0), (45, .aload_n 0, 1, 0, 0, 0, 0), (46, .invokevirtual 214, 3, 2, 117, 0, 0), (49, .aload_n 0, 1, 0, 0, 0, 0), (50, .dup, 1, 0, 0, 0, 0), (51, .getfield 82, 3, 0, 10, 9, 0), (54, .iconst 1, 1, 0, 0, 0, 0), (55, .iadd, 1, 0, 0, 0, 0), (56, .putfield 82, 3, 0, 10, 9, 0), (59, .iload 4, 2, 0, 0, 0, 0), (61, .ireturn, 1, 0, 0, 0, 0)]
set_option maxRecDepth 100000 in
theorem sx_k104 : sx_c104.all (sx_chk 10 prog_12_method_26_code) = true := by decide +kernel
def sx_c105 : List sx_I := [(0, .iconst 0, 1, 0, 0, 0, 0), (1, .istore_n 3, 1, 0, 0, 0, 0), (2, .iconst 0, 1, 0, 0, 0, 0), (3, .istore 4, 2, 0, 0, 0, 0), (5, .iload 4, 2, 0, 0, 0, 0), (7, .bipush 12, 2, 0, 0, 0, 0), (9, .if_icmp .ge 74, 3, 0, 0, 0, 0), (12, .aload_n 2, 1, 0, 0, 0, 0), (13, .aload_n 2, 1, 0, 0, 0, 0), (14, .getfield 217, 3, 1, 2, 4, 0), (17, .iload_n 1, 1, 0, 0, 0, 0), (18, .invokevirtual 220, 3, 2, 100, 0, 0), (21, .istore 5, 2, 0, 0, 0, 0), (23, .iload 5, 2, 0, 0, 0, 0), (25, .ifCond .ge 6, 3, 0, 0, 0, 0), (28, .goto 55, 3, 0, 0, 0, 0), (31, .aload_n 0, 1, 0, 0, 0, 0), (32, .getfield 39, 3, 0, 10, 7, 0), (35, .iconst 3, 1, 0, 0, 0, 0), (36, .iload 5, 2, 0, 0, 0, 0), (38, .aload_n 0, 1, 0, 0, 0, 0), (39, .getfield 82, 3, 0, 10, 9, 0), (42, .aload_n 2, 1, 0, 0, 0, 0), (43, .aload_n 0, 1, 0, 0, 0, 0), (44, .iload 5, 2, 0, 0, 0, 0), (46, .invokevirtual 223, 3, 2, 31, 0, 0), (49, .getfield 227, 3, 1, 5, 0, 0), (52, .invokevirtual 228, 3, 2, 34, 0, 0), (55, .invokevirtual 231, 3, 2, 62, 0, 0), (58, .aload_n 0, 1, 0, 0, 0, 0), (59, .iload 5, 2, 0, 0, 0, 0), (61, .invokevirtual 223, 3, 2, 31, 0, 0), (64, .iconst 0, 1, 0, 0, 0, 0), (65, .putfield 129, 3, 1, 5, 7, 0), (68, .aload_n 2, 1, 0, 0, 0, 0), (69, .iload 5, 2, 0, 0, 0, 0), (71, .invokevirtual 234, 3, 2, 106, 0, 0), (74, .iinc 3 1, 3, 0, 0, 0, 0), (77, .iinc 4 1, 3, 0, 0, 0, 0), (80, .goto (-75), 3, 0, 0, 0, 0), (83, .iload_n 3, 1, 0, 0, 0, 0), (84, .ireturn, 1, 0, 0, 0, 0)]
set_option maxRecDepth 100000 in
theorem sx_k105 : sx_c105.all (sx_chk 10 prog_12_method_27_code) = true := by decide +kernel
def sx_c106 : List sx_I := [(0, .aload_n 0, 1, 0, 0, 0, 0), (1, .dup, 1, 0, 0, 0, 0), (2, .getfield 64, 3, 0, 2, 4, 0), (5, .iconst 1, 1, 0, 0, 0, 0), (6, .iload_n 1, 1, 0, 0, 0, 0), (7, .ishl, 1, 0, 0, 0, 0), (8, .iconst (-1), 1, 0, 0, 0, 0), (9, .ixor, 1, 0, 0, 0, 0), (10, .iand, 1, 0, 0, 0, 0), (11, .putfield 64, 3, 0, 2, 4, 0), (14, .return_, 1, 0, 0, 0, 0)]
set_option maxRecDepth 100000 in
theorem sx_k106 : sx_c106.all (sx_chk 2 prog_4_method_4_code) = true := by decide +kernel
def sx_c107 : List sx_I := [(0, .iconst 0, 1, 0, 0, 0, 0), (1, .istore_n 2, 1, 0, 0, 0, 0), (2, .iload_n 2, 1, 0, 0, 0, 0), (3, .aload_n 0, 1, 0, 0, 0, 0), (4, .getfield 60, 3, 0, 10, 2, 0), (7, .if_icmp .ge 41, 3, 0, 0, 0, 0), (10, .aload_n 0, 1, 0, 0, 0, 0), (11, .iload_n 2, 1, 0, 0, 0, 0), (12, .invokevirtual 107, 3, 2, 20, 0, 0), (15, .astore_n 3, 1, 0, 0, 0, 0), (16, .aload_n 3, 1, 0, 0, 0, 0), (17, .getfield 177, 3, 1, 4, 6, 0), (20, .ifCond .ne 22, 3, 0, 0, 0, 0), (23, .aload_n 3, 1, 0, 0, 0, 0), (24, .iload_n 1, 1, 0, 0, 0, 0), (25, .aload_n 3, 1, 0, 0, 0, 0), (26, .invokevirtual 237, 3, 2, 29, 0, 0), (29, .imul, 1, 0, 0, 0, 0), (30, .aload_n 3, 1, 0, 0, 0, 0), (31, .invokevirtual 241, 3, 2, 39, 0, 0), (34, .invokestatic 244, 3, 14, 0, 0, 0), (37, .iconst 0, 1, 0, 0, 0, 0), (38, .invokevirtual 247, 3, 2, 40, 0, 0), (41, .pop, 1, 0, 0, 0, 0), (42, .iinc 2 1, 3, 0, 0, 0, 0), (45, .goto (-43), 3, 0, 0, 0, 0), (48, .return_, 1, 0, 0, 0, 0)]
set_option maxRecDepth 100000 in
theorem sx_k107 : sx_c107.all (sx_chk 10 prog_12_method_28_code) = true := by decide +kernel
def sx_c108 : List sx_I := [(0, .iconst 0, 1, 0, 0, 0, 0), (1, .istore_n 1, 1, 0, 0, 0, 0), (2, .iload_n 1, 1, 0, 0, 0, 0), (3, .aload_n 0, 1, 0, 0, 0, 0), (4, .getfield 60, 3, 0, 10, 2, 0), (7, .if_icmp .ge 50, 3, 0, 0, 0, 0), (10, .aload_n 0, 1, 0, 0, 0, 0), (11, .iload_n 1, 1, 0, 0, 0, 0), (12, .invokevirtual 107, 3, 2, 20, 0, 0), (15, .astore_n 2, 1, 0, 0, 0, 0), (16, .aload_n 2, 1, 0, 0, 0, 0), (17, .getfield 126, 3, 1, 4, 0, 0), (20, .iconst 3, 1, 0, 0, 0, 0), (21, .if_icmp .ne 30, 3, 0, 0, 0, 0), (24, .aload_n 2, 1, 0, 0, 0, 0), (25, .getfield 174, 3, 1, 4, 4, 0), (28, .ifCond .le 23, 3, 0, 0, 0, 0), (31, .aload_n 2, 1, 0, 0, 0, 0), (32, .dup, 1, 0, 0, 0, 0), (33, .getfield 174, 3, 1, 4, 4, 0), (36, .iconst 1, 1, 0, 0, 0, 0), (37, .isub, 1, 0, 0, 0, 0), (38, .putfield 174, 3, 1, 4, 4, 0), (41, .aload_n 0, 1, 0, 0, 0, 0), (42, .dup, 1, 0, 0, 0, 0), (43, .getfield 85, 3, 0, 10, 10, 0), (46, .iconst 1, 1, 0, 0, 0, 0), (47, .iadd, 1, 0, 0, 0, 0), (48, .putfield 85, 3, 0, 10, 10, 0), (51, .iinc 1 1, 3, 0, 0, 0, 0), (54, .goto (-52), 3, 0, 0, 0, 0), (57, .return_, 1, 0, 0, 0, 0)]
set_option maxRecDepth 100000 in
theorem sx_k108 : sx_c108.all (sx_chk 10 prog_12_method_29_code) = true := by decide +kernel
def sx_c109 : List sx_I := [(0, .iconst 0, 1, 0, 0, 0, 0), (1, .istore_n 2, 1, 0, 0, 0, 0), (2, .iload_n 2, 1, 0, 0, 0, 0), (3, .aload_n 0, 1, 0, 0, 0, 0), (4, .getfield 67, 3, 0, 10, 4, 0), (7, .if_icmp .ge 35, 3, 0, 0, 0, 0), (10, .aload_n 0, 1, 0, 0, 0, 0), (11, .iload_n 2, 1, 0, 0, 0, 0), (12, .invokevirtual 115, 3, 2, 30, 0, 0), (15, .astore_n 3, 1, 0, 0, 0, 0), (16, .aload_n 3, 1, 0, 0, 0, 0), (17, .getfield 180, 3, 1, 3, 6, 0), (20, .ifCond .ne 16, 3, 0, 0, 0, 0), (23, .aload_n 0, 1, 0, 0, 0, 0), (24, .iload_n 2, 1, 0, 0, 0, 0), (25, .aload_n 1, 1, 0, 0, 0, 0), (26, .aload_n 3, 1, 0, 0, 0, 0), (27, .getfield 251, 3, 1, 3, 0, 0), (30, .invokevirtual 228, 3, 2, 34, 0, 0), (33, .invokevirtual 254, 3, 2, 110, 0, 0), (36, .iinc 2 1, 3, 0, 0, 0, 0), (39, .goto (-37), 3, 0, 0, 0, 0), (42, .return_, 1, 0, 0, 0, 0)]
set_option maxRecDepth 100000 in
theorem sx_k109 : sx_c109.all (sx_chk 10 prog_12_method_30_code) = true := by decide +kernel
def sx_c110 : List sx_I := [(0, .aload_n 0, 1, 0, 0, 0, 0), (1, .iload_n 1, 1, 0, 0, 0, 0), (2, .invokevirtual 115, 3, 2, 30, 0, 0), (5, .astore_n 3, 1, 0, 0, 0, 0), (6, .aload_n 0, 1, 0, 0, 0, 0), (7, .aload_n 3, 1, 0, 0, 0, 0), (8, .getfield 251, 3, 1, 3, 0, 0), (11, .invokevirtual 107, 3, 2, 20, 0, 0), (14, .astore 4, 2, 0, 0, 0, 0), (16, .aload 4, 2, 0, 0, 0, 0), (18, .getfield 174, 3, 1, 4, 4, 0), (21, .ifCond .ne 10, 3, 0, 0, 0, 0), (24, .aload_n 0, 1, 0, 0, 0, 0), (25, .iload_n 2, 1, 0, 0, 0, 0), (26, .invokevirtual 258, 3, 2, 111, 0, 0), (29, .astore 4, 2, 0, 0, 0, 0), (31, .aload 4, 2, 0, 0, 0, 0), (33, .getfield 174, 3, 1, 4, 4, 0), (36, .ifCond .le 30, 3, 0, 0, 0, 0), (39, .aload 4, 2, 0, 0, 0, 0), (41, .dup, 1, 0, 0, 0, 0), (42, .getfield 174, 3, 1, 4, 4, 0), (45, .iconst 1, 1, 0, 0, 0, 0), (46, .isub, 1, 0, 0, 0, 0), (47, .putfield 174, 3, 1, 4, 4, 0), (50, .aload_n 0, 1, 0, 0, 0, 0), (51, .dup, 1, 0, 0, 0, 0), (52, .getfield 85, 3, 0, 10, 10, 0), (55, .iconst 1, 1, 0, 0, 0, 0), (56, .iadd, 1, 0, 0, 0, 0), (57, .putfield 85, 3, 0, 10, 10, 0), (60, .aload_n 3, 1, 0, 0, 0, 0), (61, .iconst 0, 1, 0, 0, 0, 0), (62, .putfield 261, 3, 1, 3, 5, 0), (65, .return_, 1, 0, 0, 0, 0), (66, .aload_n 3, 1, 0, 0, 0, 0), (67, .dup, 1, 0, 0, 0, 0), (68, .getfield 261, 3, 1, 3, 5, 0), (71, .iconst 1, 1, 0, 0, 0, 0), (72, .iadd, 1, 0, 0, 0, 0), (73, .putfield 261, 3, 1, 3, 5, 0), (76, .aload_n 3, 1, 0, 0, 0, 0), (77, .getfield 261, 3, 1, 3, 5, 0), (80, .iconst 3, 1, 0, 0, 0, 0), (81, .if_icmp .lt 9, 3, 0, 0, 0, 0), (84, .aload_n 0, 1, 0, 0, 0, 0), (85, .iload_n 1, 1, 0, 0, 0, 0), (86, .iload_n 2, 1, 0, 0, 0, 0), (87, .invokevirtual 264, 3, 2, 112, 0, 0), (90, .return_, 1, 0, 0, 0, 0)]
set_option maxRecDepth 100000 in
theorem sx_k110 : sx_c110.all (sx_chk 10 prog_12_method_31_code) = true := by decide +kernel
def sx_c111 : List sx_I := [(0, .aload_n 0, 1, 0, 0, 0, 0), (1, .iload_n 1, 1, 0, 0, 0, 0), (2, .invokestatic 267, 3, 3, 36, 0, 0), (5, .invokevirtual 107, 3, 2, 20, 0, 0), (8, .astore_n 2, 1, 0, 0, 0, 0), (9, .iconst 0, 1, 0, 0, 0, 0), (10, .istore_n 3, 1, 0, 0, 0, 0), (11, .iload_n 3, 1, 0, 0, 0, 0), (12, .bipush 10, 2, 0, 0, 0, 0), (14, .if_icmp .ge 40, 3, 0, 0, 0, 0), (17, .iload_n 1, 1, 0, 0, 0, 0), (18, .iload_n 3, 1, 0, 0, 0, 0), (19, .invokestatic 171, 3, 3, 44, 0, 0), (22, .ifCond .eq 26, 3, 0, 0, 0, 0), (25, .aload_n 0, 1, 0, 0, 0, 0), (26, .getfield 20, 3, 0, 10, 1, 0), (29, .iload_n 3, 1, 0, 0, 0, 0), (30, .aaload, 1, 0, 0, 0, 0), (31, .getfield 174, 3, 1, 4, 4, 0), (34, .aload_n 2, 1, 0, 0, 0, 0), (35, .getfield 174, 3, 1, 4, 4, 0), (38, .if_icmp .le 10, 3, 0, 0, 0, 0), (41, .aload_n 0, 1, 0, 0, 0, 0), (42, .getfield 20, 3, 0, 10, 1, 0), (45, .iload_n 3, 1, 0, 0, 0, 0), (46, .aaload, 1, 0, 0, 0, 0), (47, .astore_n 2, 1, 0, 0, 0, 0), (48, .iinc 3 1, 3, 0, 0, 0, 0), (51, .goto (-40), 3, 0, 0, 0, 0), (54, .aload_n 2, 1, 0, 0, 0, 0), (55, .areturn, 1, 0, 0, 0, 0)]
set_option maxRecDepth 100000 in
theorem sx_k111 : sx_c111.all (sx_chk 10 prog_12_method_32_code) = true := by decide +kernel
def sx_c112 : List sx_I := [(0, .aload_n 0, 1, 0, 0, 0, 0), (1, .getfield 39, 3, 0, 10, 7, 0), (4, .iconst 5, 1, 0, 0, 0, 0), (5, .iload_n 1, 1, 0, 0, 0, 0), (6, .aload_n 0, 1, 0, 0, 0, 0), (7, .getfield 82, 3, 0, 10, 9, 0), (10, .iload_n 2, 1, 0, 0, 0, 0), (11, .invokevirtual 231, 3, 2, 62, 0, 0), (14, .aload_n 0, 1, 0, 0, 0, 0), (15, .iload_n 1, 1, 0, 0, 0, 0), (16, .invokevirtual 115, 3, 2, 30, 0, 0), (19, .iconst 1, 1, 0, 0, 0, 0), (20, .putfield 180, 3, 1, 3, 6, 0), (23, .return_, 1, 0, 0, 0, 0)]
set_option maxRecDepth 100000 in
theorem sx_k112 : sx_c112.all (sx_chk 10 prog_12_method_33_code) = true := by decide +kernel
def sx_c113 : List sx_I := [(0, .iconst 0, 1, 0, 0, 0, 0), (1, .istore_n 2, 1, 0, 0, 0, 0), (2, .iload_n 2, 1, 0, 0, 0, 0), (3, .bipush 12, 2, 0, 0, 0, 0), (5, .if_icmp .ge 59, 3, 0, 0, 0, 0), (8, .aload_n 0, 1, 0, 0, 0, 0), (9, .getfield 32, 3, 0, 10, 5, 0), (12, .iload_n 2, 1, 0, 0, 0, 0), (13, .aaload, 1, 0, 0, 0, 0), (14, .getfield 129, 3, 1, 5, 7, 0), (17, .ifCond .eq 41, 3, 0, 0, 0, 0), (20, .aload_n 0, 1, 0, 0, 0, 0), (21, .getfield 32, 3, 0, 10, 5, 0), (24, .iload_n 2, 1, 0, 0, 0, 0), (25, .aaload, 1, 0, 0, 0, 0), (26, .dup, 1, 0, 0, 0, 0), (27, .getfield 270, 3, 1, 5, 5, 0), (30, .iconst 1, 1, 0, 0, 0, 0), (31, .iadd, 1, 0, 0, 0, 0), (32, .putfield 270, 3, 1, 5, 5, 0), (35, .aload_n 0, 1, 0, 0, 0, 0), (36, .getfield 32, 3, 0, 10, 5, 0), (39, .iload_n 2, 1, 0, 0, 0, 0), (40, .aaload, 1, 0, 0, 0, 0), (41, .dup, 1, 0, 0, 0, 0), (42, .getfield 273, 3, 1, 5, 6, 0), (45, .iload_n 1, 1, 0, 0, 0, 0), (46, .ifCond .eq 7, 3, 0, 0, 0, 0), (49, .iconst 1, 1, 0, 0, 0, 0), (50, .goto 4, 3, 0, 0, 0, 0), (53, .iconst 0, 1, 0, 0, 0, 0), (54, .iadd, 1, 0, 0, 0, 0), (55, .putfield 273, 3, 1, 5, 6, 0), (58, .iinc 2 1, 3, 0, 0, 0, 0), (61, .goto (-59), 3, 0, 0, 0, 0), (64, .return_, 1, 0, 0, 0, 0)]
set_option maxRecDepth 100000 in
theorem sx_k113 : sx_c113.all (sx_chk 10 prog_12_method_34_code) = true := by decide +kernel
def sx_c114 : List sx_I := [(0, .aload_n 0, 1, 0, 0, 0, 0), (1, .getfield 82, 3, 0, 10, 9, 0), (4, .bipush 10, 2, 0, 0, 0, 0), (6, .irem, 1, 0, 0, 0, 0), (7, .ifCond .ne 7, 3, 0, 0, 0, 0), (10, .iconst 1, 1, 0, 0, 0, 0), (11, .goto 4, 3, 0, 0, 0, 0), (14, .iconst 0, 1, 0, 0, 0, 0), (15, .istore_n 2, 1, 0, 0, 0, 0), (16, .iconst 0, 1, 0, 0, 0, 0), (17, .istore_n 3, 1, 0, 0, 0, 0), (18, .iload_n 3, 1, 0, 0, 0, 0), (19, .aload_n 0, 1, 0, 0, 0, 0), (20, .getfield 60, 3, 0, 10, 2, 0), (23, .if_icmp .ge 62, 3, 0, 0, 0, 0), (26, .aload_n 0, 1, 0, 0, 0, 0), (27, .iload_n 3, 1, 0, 0, 0, 0), (28, .invokevirtual 107, 3, 2, 20, 0, 0), (31, .astore 4, 2, 0, 0, 0, 0), (33, .aload 4, 2, 0, 0, 0, 0), (35, .getfield 177, 3, 1, 4, 6, 0), (38, .ifCond .ne 41, 3, 0, 0, 0, 0), (41, .aload 4, 2, 0, 0, 0, 0), (43, .getfield 126, 3, 1, 4, 0, 0), (46, .iconst 5, 1, 0, 0, 0, 0), (47, .if_icmp .eq 7, 3, 0, 0, 0, 0), (50, .iload_n 2, 1, 0, 0, 0, 0), (51, .ifCond .eq 28, 3, 0, 0, 0, 0), (54, .aload 4, 2, 0, 0, 0, 0), (56, .dup, 1, 0, 0, 0, 0), (57, .getfield 276, 3, 1, 4, 2, 0), (60, .iconst 1, 1, 0, 0, 0, 0), (61, .isub, 1, 0, 0, 0, 0), (62, .putfield 276, 3, 1, 4, 2, 0), (65, .aload 4, 2, 0, 0, 0, 0), (67, .getfield 276, 3, 1, 4, 2, 0), (70, .ifCond .gt 9, 3, 0, 0, 0, 0), (73, .aload_n 0, 1, 0, 0, 0, 0), (74, .iload_n 3, 1, 0, 0, 0, 0), (75, .aload_n 1, 1, 0, 0, 0, 0), (76, .invokevirtual 279, 3, 2, 115, 0, 0), (79, .iinc 3 1, 3, 0, 0, 0, 0), (82, .goto (-64), 3, 0, 0, 0, 0), (85, .return_, 1, 0, 0, 0, 0)]
set_option maxRecDepth 100000 in
theorem sx_k114 : sx_c114.all (sx_chk 10 prog_12_method_35_code) = true := by decide +kernel
def sx_c115 : List sx_I := [(0, .aload_n 2, 1, 0, 0, 0, 0), (1, .iload_n 1, 1, 0, 0, 0, 0), (2, .invokevirtual 228, 3, 2, 34, 0, 0), (5, .istore_n 3, 1, 0, 0, 0, 0), (6, .iload_n 3, 1, 0, 0, 0, 0), (7, .iconst 1, 1, 0, 0, 0, 0), (8, .iload_n 1, 1, 0, 0, 0, 0), (9, .ishl, 1, 0, 0, 0, 0), (10, .iconst (-1), 1, 0, 0, 0, 0), (11, .ixor, 1, 0, 0, 0, 0), (12, .iand, 1, 0, 0, 0, 0), (13, .istore 4, 2, 0, 0, 0, 0), (15, .aload_n 0, 1, 0, 0, 0, 0), (16, .getfield 39, 3, 0, 10, 7, 0), (19, .iconst 4, 1, 0, 0, 0, 0), (20, .iload_n 1, 1, 0, 0, 0, 0), (21, .aload_n 0, 1, 0, 0, 0, 0), (22, .getfield 82, 3, 0, 10, 9, 0), (25, .iload_n 3, 1, 0, 0, 0, 0), (26, .invokevirtual 231, 3, 2, 62, 0, 0), (29, .iconst 0, 1, 0, 0, 0, 0), (30, .istore 5, 2, 0, 0, 0, 0), (32, .iload 5, 2, 0, 0, 0, 0), (34, .bipush 14, 2, 0, 0, 0, 0), (36, .if_icmp .ge 67, 3, 0, 0, 0, 0), (39, .aload_n 0, 1, 0, 0, 0, 0), (40, .getfield 26, 3, 0, 10, 3, 0), (43, .iload 5, 2, 0, 0, 0, 0), (45, .aaload, 1, 0, 0, 0, 0), (46, .iload_n 1, 1, 0, 0, 0, 0), (47, .invokevirtual 165, 3, 2, 77, 0, 0), (50, .ifCond .eq 26, 3, 0, 0, 0, 0), (53, .iload 4, 2, 0, 0, 0, 0), (55, .ifCond .eq 21, 3, 0, 0, 0, 0), (58, .aload_n 0, 1, 0, 0, 0, 0), (59, .getfield 26, 3, 0, 10, 3, 0), (62, .iload 5, 2, 0, 0, 0, 0), (64, .aaload, 1, 0, 0, 0, 0), (65, .iload 4, 2, 0, 0, 0, 0), (67, .invokestatic 267, 3, 3, 36, 0, 0), (70, .putfield 251, 3, 1, 3, 0, 0), (73, .goto 24, 3, 0, 0, 0, 0), (76, .aload_n 0, 1, 0, 0, 0, 0), (77, .getfield 26, 3, 0, 10, 3, 0), (80, .iload 5, 2, 0, 0, 0, 0), (82, .aaload, 1, 0, 0, 0, 0), (83, .iload_n 1, 1, 0, 0, 0, 0), (84, .invokevirtual 165, 3, 2, 77, 0, 0), (87, .ifCond .eq 10, 3, 0, 0, 0, 0), (90, .aload_n 0, 1, 0, 0, 0, 0), (91, .iload 5, 2, 0, 0, 0, 0), (93, .iload_n 3, 1, 0, 0, 0, 0), (94, .invokevirtual 264, 3, 2, 112, 0, 0), (97, .iinc 5 1, 3, 0, 0, 0, 0), (100, .goto (-68), 3, 0, 0, 0, 0), (103, .aload_n 0, 1, 0, 0, 0, 0), (104, .iload_n 1, 1, 0, 0, 0, 0), (105, .invokevirtual 107, 3, 2, 20, 0, 0), (108, .astore 5, 2, 0, 0, 0, 0), (110, .aload_n 0, 1, 0, 0, 0, 0), (111, .dup, 1, 0, 0, 0, 0), (112, .getfield 88, 3, 0, 10, 11, 0), (115, .aload 5, 2, 0, 0, 0, 0), (117, .getfield 174, 3, 1, 4, 4, 0), (120, .aload 5, 2, 0, 0, 0, 0), (122, .getfield 183, 3, 1, 4, 5, 0), (125, .iadd, 1, 0, 0, 0, 0), (126, .iadd, 1, 0, 0, 0, 0), (127, .putfield 88, 3, 0, 10, 11, 0), (130, .aload 5, 2, 0, 0, 0, 0), (132, .iconst 0, 1, 0, 0, 0, 0), (133, .putfield 174, 3, 1, 4, 4, 0), (136, .aload 5, 2, 0, 0, 0, 0), (138, .iconst 0, 1, 0, 0, 0, 0), (139, .putfield 183, 3, 1, 4, 5, 0), (142, .aload 5, 2, 0, 0, 0, 0), (144, .iconst 1, 1, 0, 0, 0, 0), (145, .putfield 177, 3, 1, 4, 6, 0), (148, .iconst 0, 1, 0, 0, 0, 0), (149, .istore 6, 2, 0, 0, 0, 0), (151, .iload 6, 2, 0, 0, 0, 0), (153, .bipush 12, 2, 0, 0, 0, 0), (155, .if_icmp .ge 34, 3, 0, 0, 0, 0), (158, .aload_n 0, 1, 0, 0, 0, 0), (159, .getfield 32, 3, 0, 10, 5, 0), (162, .iload 6, 2, 0, 0, 0, 0), (164, .aaload, 1, 0, 0, 0, 0), (165, .iload_n 1, 1, 0, 0, 0, 0), (166, .invokevirtual 283, 3, 2, 116, 0, 0), (169, .ifCond .eq 14, 3, 0, 0, 0, 0), (172, .aload_n 0, 1, 0, 0, 0, 0), (173, .getfield 32, 3, 0, 10, 5, 0), (176, .iload 6, 2, 0, 0, 0, 0), (178, .aaload, 1, 0, 0, 0, 0), (179, .iconst 0, 1, 0, 0, 0, 0), (180, .putfield 129, 3, 1, 5, 7, 0), (183, .iinc 6 1, 3, 0, 0, 0, 0), (186, .goto (-35), 3, 0, 0, 0, 0), (189, .aload_n 2, 1, 0, 0, 0, 0), (190, .aload_n 0, 1, 0, 0, 0, 0), (191, .invokevirtual 186, 3, 2, 27, 0, 0), (194, .return_, 1, 0, 0, 0, 0)]
set_option maxRecDepth 100000 in
theorem sx_k115 : sx_c115.all (sx_chk 10 prog_12_method_36_code) = true := by decide +kernel
def sx_c116 : List sx_I := [(0, .aload_n 0, 1, 0, 0, 0, 0), (1, .getfield 35, 3, 0, 5, 7, 0), (4, .ifCond .eq 23, 3, 0, 0, 0, 0), (7, .aload_n 0, 1, 0, 0, 0, 0), (8, .getfield 7, 3, 0, 5, 0, 0), (11, .iload_n 1, 1, 0, 0, 0, 0), (12, .if_icmp .eq 11, 3, 0, 0, 0, 0), (15, .aload_n 0, 1, 0, 0, 0, 0), (16, .getfield 16, 3, 0, 5, 1, 0), (19, .iload_n 1, 1, 0, 0, 0, 0), (20, .if_icmp .ne 7, 3, 0, 0, 0, 0), (23, .iconst 1, 1, 0, 0, 0, 0), (24, .goto 4, 3, 0, 0, 0, 0), (27, .iconst 0, 1, 0, 0, 0, 0), (28, .ireturn, 1, 0, 0, 0, 0)]
set_option maxRecDepth 100000 in
theorem sx_k116 : sx_c116.all (sx_chk 5 prog_7_method_5_code) = true := by decide +kernel
def sx_c117 : List sx_I := [(0, .iconst 0, 1, 0, 0, 0, 0), (1, .istore_n 1, 1, 0, 0, 0, 0), (2, .iload_n 1, 1, 0, 0, 0, 0), (3, .aload_n 0, 1, 0, 0, 0, 0), (4, .getfield 60, 3, 0, 10, 2, 0), (7, .if_icmp .ge 37, 3, 0, 0, 0, 0), (10, .aload_n 0, 1, 0, 0, 0, 0), (11, .iload_n 1, 1, 0, 0, 0, 0), (12, .invokevirtual 107, 3, 2, 20, 0, 0), (15, .astore_n 2, 1, 0, 0, 0, 0), (16, .aload_n 2, 1, 0, 0, 0, 0), (17, .getfield 177, 3, 1, 4, 6, 0), (20, .ifCond .ne 18, 3, 0, 0, 0, 0), (23, .aload_n 2, 1, 0, 0, 0, 0), (24, .aload_n 0, 1, 0, 0, 0, 0), (25, .getfield 12, 3, 0, 10, 0, 0), (28, .aload_n 2, 1, 0, 0, 0, 0), (29, .getfield 286, 3, 1, 4, 1, 0), (32, .invokevirtual 289, 3, 2, 118, 0, 0), (35, .putfield 286, 3, 1, 4, 1, 0), (38, .iinc 1 1, 3, 0, 0, 0, 0), (41, .goto (-39), 3, 0, 0, 0, 0), (44, .return_, 1, 0, 0, 0, 0)]
set_option maxRecDepth 100000 in
theorem sx_k117 : sx_c117.all (sx_chk 10 prog_12_method_37_code) = true := by decide +kernel
def sx_c118 : List sx_I := [(0, .aload_n 0, 1, 0, 0, 0, 0), (1, .iload_n 1, 1, 0, 0, 0, 0), (2, .iload_n 1, 1, 0, 0, 0, 0), (3, .invokevirtual 40, 3, 2, 119, 0, 0), (6, .ireturn, 1, 0, 0, 0, 0)]
set_option maxRecDepth 100000 in
theorem sx_k118 : sx_c118.all (sx_chk 6 prog_8_method_6_code) = true := by decide +kernel
def sx_c119 : List sx_I := [(0, .iload_n 1, 1, 0, 0, 0, 0), (1, .invokestatic 28, 3, 3, 13, 0, 0), (4, .ifCond .eq 22, 3, 0, 0, 0, 0), (7, .iload_n 2, 1, 0, 0, 0, 0), (8, .aload_n 0, 1, 0, 0, 0, 0), (9, .getfield 9, 3, 0, 6, 0, 0), (12, .iload_n 1, 1, 0, 0, 0, 0), (13, .iaload, 1, 0, 0, 0, 0), (14, .aload_n 0, 1, 0, 0, 0, 0), (15, .getfield 15, 3, 0, 6, 1, 0), (18, .iload_n 1, 1, 0, 0, 0, 0), (19, .iaload, 1, 0, 0, 0, 0), (20, .invokestatic 36, 3, 2, 120, 0, 0), (23, .goto 4, 3, 0, 0, 0, 0), (26, .iload_n 2, 1, 0, 0, 0, 0), (27, .ireturn, 1, 0, 0, 0, 0)]
set_option maxRecDepth 100000 in
theorem sx_k119 : sx_c119.all (sx_chk 6 prog_8_method_5_code) = true := by decide +kernel
end
section
/-! ===== printed by wip/gen_code.py: the methods' instructions ===== -/
def sx_c120 : List sx_I := [(0, .iload_n 0, 1, 0, 0, 0, 0), (1, .bipush 6, 2, 0, 0, 0, 0), (3, .irem, 1, 0, 0, 0, 0), (4, .iload_n 1, 1, 0, 0, 0, 0), (5, .iadd, 1, 0, 0, 0, 0), (6, .istore_n 3, 1, 0, 0, 0, 0), (7, .iload_n 0, 1, 0, 0, 0, 0), (8, .bipush 6, 2, 0, 0, 0, 0), (10, .idiv, 1, 0, 0, 0, 0), (11, .iload_n 2, 1, 0, 0, 0, 0), (12, .iadd, 1, 0, 0, 0, 0), (13, .istore 4, 2, 0, 0, 0, 0), (15, .iload_n 3, 1, 0, 0, 0, 0), (16, .iconst 0, 1, 0, 0, 0, 0), (17, .iconst 5, 1, 0, 0, 0, 0), (18, .invokestatic 32, 3, 3, 14, 0, 0), (21, .ifCond .eq 17, 3, 0, 0, 0, 0), (24, .iload 4, 2, 0, 0, 0, 0), (26, .iconst 0, 1, 0, 0, 0, 0), (27, .iconst 5, 1, 0, 0, 0, 0), (28, .invokestatic 32, 3, 3, 14, 0, 0), (31, .ifCond .eq 7, 3, 0, 0, 0, 0), (34, .iconst 1, 1, 0, 0, 0, 0), (35, .goto 4, 3, 0, 0, 0, 0), (38, .iconst 0, 1, 0, 0, 0, 0), (39, .istore 5, 2, 0, 0, 0, 0), (41, .iload 5, 2, 0, 0, 0, 0), (43, .ifCond .eq 13, 3, 0, 0, 0, 0), (46, .iload 4, 2, 0, 0, 0, 0), (48, .bipush 6, 2, 0, 0, 0, 0), (50, .imul, 1, 0, 0, 0, 0), (51, .iload_n 3, 1, 0, 0, 0, 0), (52, .iadd, 1, 0, 0, 0, 0), (53, .goto 4, 3, 0, 0, 0, 0), (56, .iload_n 0, 1, 0, 0, 0, 0), (57, .ireturn, 1, 0, 0, 0, 0)]
set_option maxRecDepth 100000 in
theorem sx_k120 : sx_c120.all (sx_chk 6 prog_8_method_4_code) = true := by decide +kernel
def sx_c121 : List sx_I := [(0, .iload_n 1, 1, 0, 0, 0, 0), (1, .iconst 1, 1, 0, 0, 0, 0), (2, .bipush 30, 2, 0, 0, 0, 0), (4, .invokestatic 59, 3, 2, 14, 0, 0), (7, .ifCond .eq 10, 3, 0, 0, 0, 0), (10, .iload_n 2, 1, 0, 0, 0, 0), (11, .invokestatic 293, 3, 2, 122, 0, 0), (14, .ifCond .ne 10, 3, 0, 0, 0, 0), (17, .aload_n 0, 1, 0, 0, 0, 0), (18, .ldc 63, 2, 6, 0, 0, -100001), (20, .invokevirtual 64, 3, 2, 15, 0, 0), (23, .ireturn, 1, 0, 0, 0, 0), (24, .aload_n 0, 1, 0, 0, 0, 0), (25, .getfield 25, 3, 0, 11, 3, 0), (28, .iload_n 2, 1, 0, 0, 0, 0), (29, .aaload, 1, 0, 0, 0, 0), (30, .astore_n 3, 1, 0, 0, 0, 0), (31, .aload_n 3, 1, 0, 0, 0, 0), (32, .invokevirtual 296, 3, 2, 123, 0, 0), (35, .ifCond .eq 10, 3, 0, 0, 0, 0), (38, .aload_n 0, 1, 0, 0, 0, 0), (39, .ldc 158, 2, 6, 0, 0, -100002), (41, .invokevirtual 64, 3, 2, 15, 0, 0), (44, .ireturn, 1, 0, 0, 0, 0), (45, .iconst 0, 1, 0, 0, 0, 0), (46, .istore 4, 2, 0, 0, 0, 0), (48, .iconst 0, 1, 0, 0, 0, 0), (49, .istore 5, 2, 0, 0, 0, 0), (51, .iconst 0, 1, 0, 0, 0, 0), (52, .istore 6, 2, 0, 0, 0, 0), (54, .iconst 0, 1, 0, 0, 0, 0), (55, .istore 7, 2, 0, 0, 0, 0), (57, .iload 7, 2, 0, 0, 0, 0), (59, .iload_n 1, 1, 0, 0, 0, 0), (60, .if_icmp .ge 77, 3, 0, 0, 0, 0), (63, .aload_n 3, 1, 0, 0, 0, 0), (64, .iconst 2, 1, 0, 0, 0, 0), (65, .iload 7, 2, 0, 0, 0, 0), (67, .imul, 1, 0, 0, 0, 0), (68, .iconst (-1), 1, 0, 0, 0, 0), (69, .invokevirtual 300, 3, 2, 124, 0, 0), (72, .istore 8, 2, 0, 0, 0, 0), (74, .aload_n 3, 1, 0, 0, 0, 0), (75, .iconst 2, 1, 0, 0, 0, 0), (76, .iload 7, 2, 0, 0, 0, 0), (78, .imul, 1, 0, 0, 0, 0), (79, .iconst 1, 1, 0, 0, 0, 0), (80, .iadd, 1, 0, 0, 0, 0), (81, .iconst (-1), 1, 0, 0, 0, 0), (82, .invokevirtual 300, 3, 2, 124, 0, 0), (85, .istore 9, 2, 0, 0, 0, 0), (87, .iload 8, 2, 0, 0, 0, 0), (89, .invokestatic 274, 3, 2, 95, 0, 0), (92, .ifCond .eq 19, 3, 0, 0, 0, 0), (95, .iload 9, 2, 0, 0, 0, 0), (97, .invokestatic 286, 3, 2, 103, 0, 0), (100, .ifCond .eq 11, 3, 0, 0, 0, 0), (103, .iload 8, 2, 0, 0, 0, 0), (105, .istore 4, 2, 0, 0, 0, 0), (107, .iload 9, 2, 0, 0, 0, 0), (109, .istore 5, 2, 0, 0, 0, 0), (111, .iload 6, 2, 0, 0, 0, 0), (113, .aload_n 0, 1, 0, 0, 0, 0), (114, .getfield 10, 3, 0, 11, 0, 0), (117, .iload 4, 2, 0, 0, 0, 0), (119, .iload 5, 2, 0, 0, 0, 0), (121, .aload_n 0, 1, 0, 0, 0, 0), (122, .getfield 40, 3, 0, 11, 5, 0), (125, .invokevirtual 289, 3, 2, 104, 0, 0), (128, .iadd, 1, 0, 0, 0, 0), (129, .istore 6, 2, 0, 0, 0, 0), (131, .iinc 7 1, 3, 0, 0, 0, 0), (134, .goto (-77), 3, 0, 0, 0, 0), (137, .iload 6, 2, 0, 0, 0, 0), (139, .ireturn, 1, 0, 0, 0, 0)]
set_option maxRecDepth 100000 in
theorem sx_k121 : sx_c121.all (sx_chk 11 prog_1_method_20_code) = true := by decide +kernel
def sx_c122 : List sx_I := [(0, .iload_n 0, 1, 0, 0, 0, 0), (1, .iconst 0, 1, 0, 0, 0, 0), (2, .iconst 3, 1, 0, 0, 0, 0), (3, .invokestatic 59, 3, 2, 14, 0, 0), (6, .ireturn, 1, 0, 0, 0, 0)]
set_option maxRecDepth 100000 in
theorem sx_k122 : sx_c122.all (sx_chk 11 prog_1_method_53_code) = true := by decide +kernel
def sx_c123 : List sx_I := [(0, .aload_n 0, 1, 0, 0, 0, 0), (1, .getfield 15, 3, 0, 7, 0, 0), (4, .ifCond .ne 7, 3, 0, 0, 0, 0), (7, .iconst 1, 1, 0, 0, 0, 0), (8, .goto 4, 3, 0, 0, 0, 0), (11, .iconst 0, 1, 0, 0, 0, 0), (12, .ireturn, 1, 0, 0, 0, 0)]
set_option maxRecDepth 100000 in
theorem sx_k123 : sx_c123.all (sx_chk 7 prog_9_method_2_code) = true := by decide +kernel
def sx_c124 : List sx_I := [(0, .iload_n 1, 1, 0, 0, 0, 0), (1, .iconst 0, 1, 0, 0, 0, 0), (2, .aload_n 0, 1, 0, 0, 0, 0), (3, .getfield 19, 3, 0, 7, 1, 0), (6, .iconst 1, 1, 0, 0, 0, 0), (7, .isub, 1, 0, 0, 0, 0), (8, .invokestatic 22, 3, 3, 14, 0, 0), (11, .ifCond .eq 18, 3, 0, 0, 0, 0), (14, .iload_n 1, 1, 0, 0, 0, 0), (15, .bipush 20, 2, 0, 0, 0, 0), (17, .if_icmp .ge 12, 3, 0, 0, 0, 0), (20, .aload_n 0, 1, 0, 0, 0, 0), (21, .getfield 9, 3, 0, 7, 2, 0), (24, .iload_n 1, 1, 0, 0, 0, 0), (25, .iaload, 1, 0, 0, 0, 0), (26, .goto 4, 3, 0, 0, 0, 0), (29, .iload_n 2, 1, 0, 0, 0, 0), (30, .ireturn, 1, 0, 0, 0, 0)]
set_option maxRecDepth 100000 in
theorem sx_k124 : sx_c124.all (sx_chk 7 prog_9_method_5_code) = true := by decide +kernel
def sx_c125 : List sx_I := [(0, .aload_n 0, 1, 0, 0, 0, 0), (1, .getfield 10, 3, 0, 11, 0, 0), (4, .iload_n 1, 1, 0, 0, 0, 0), (5, .invokevirtual 89, 3, 2, 23, 0, 0), (8, .ifCond .ne 10, 3, 0, 0, 0, 0), (11, .aload_n 0, 1, 0, 0, 0, 0), (12, .ldc 63, 2, 6, 0, 0, -100001), (14, .invokevirtual 64, 3, 2, 15, 0, 0), (17, .ireturn, 1, 0, 0, 0, 0), (18, .aload_n 0, 1, 0, 0, 0, 0), (19, .getfield 10, 3, 0, 11, 0, 0), (22, .iload_n 1, 1, 0, 0, 0, 0), (23, .invokevirtual 92, 3, 2, 20, 0, 0), (26, .getfield 137, 3, 1, 4, 6, 0), (29, .ifCond .eq 10, 3, 0, 0, 0, 0), (32, .aload_n 0, 1, 0, 0, 0, 0), (33, .ldc 140, 2, 6, 0, 0, -100006), (35, .invokevirtual 64, 3, 2, 15, 0, 0), (38, .ireturn, 1, 0, 0, 0, 0), (39, .aload_n 0, 1, 0, 0, 0, 0), (40, .invokevirtual 120, 3, 2, 26, 0, 0), (43, .iload_n 1, 1, 0, 0, 0, 0), (44, .invokevirtual 131, 3, 2, 34, 0, 0), (47, .istore_n 2, 1, 0, 0, 0, 0), (48, .aload_n 0, 1, 0, 0, 0, 0), (49, .getfield 10, 3, 0, 11, 0, 0), (52, .iload_n 2, 1, 0, 0, 0, 0), (53, .invokevirtual 303, 3, 2, 80, 0, 0), (56, .aload_n 0, 1, 0, 0, 0, 0), (57, .getfield 10, 3, 0, 11, 0, 0), (60, .iload_n 2, 1, 0, 0, 0, 0), (61, .iconst 3, 1, 0, 0, 0, 0), (62, .invokevirtual 306, 3, 2, 126, 0, 0), (65, .iadd, 1, 0, 0, 0, 0), (66, .istore_n 3, 1, 0, 0, 0, 0), (67, .iload_n 3, 1, 0, 0, 0, 0), (68, .ifCond .le 16, 3, 0, 0, 0, 0), (71, .aload_n 0, 1, 0, 0, 0, 0), (72, .getfield 10, 3, 0, 11, 0, 0), (75, .iload_n 2, 1, 0, 0, 0, 0), (76, .invokevirtual 309, 3, 2, 81, 0, 0), (79, .iload_n 3, 1, 0, 0, 0, 0), (80, .idiv, 1, 0, 0, 0, 0), (81, .goto 6, 3, 0, 0, 0, 0), (84, .sipush 9999, 3, 0, 0, 0, 0), (87, .ireturn, 1, 0, 0, 0, 0)]
set_option maxRecDepth 100000 in
theorem sx_k125 : sx_c125.all (sx_chk 11 prog_1_method_21_code) = true := by decide +kernel
def sx_c126 : List sx_I := [(0, .iconst 0, 1, 0, 0, 0, 0), (1, .istore_n 3, 1, 0, 0, 0, 0), (2, .iconst 0, 1, 0, 0, 0, 0), (3, .istore 4, 2, 0, 0, 0, 0), (5, .iload 4, 2, 0, 0, 0, 0), (7, .bipush 10, 2, 0, 0, 0, 0), (9, .if_icmp .ge 35, 3, 0, 0, 0, 0), (12, .iload_n 1, 1, 0, 0, 0, 0), (13, .iload 4, 2, 0, 0, 0, 0), (15, .invokestatic 171, 3, 3, 44, 0, 0), (18, .ifCond .eq 20, 3, 0, 0, 0, 0), (21, .aload_n 0, 1, 0, 0, 0, 0), (22, .getfield 20, 3, 0, 10, 1, 0), (25, .iload 4, 2, 0, 0, 0, 0), (27, .aaload, 1, 0, 0, 0, 0), (28, .getfield 126, 3, 1, 4, 0, 0), (31, .iload_n 2, 1, 0, 0, 0, 0), (32, .if_icmp .ne 6, 3, 0, 0, 0, 0), (35, .iinc 3 1, 3, 0, 0, 0, 0), (38, .iinc 4 1, 3, 0, 0, 0, 0), (41, .goto (-36), 3, 0, 0, 0, 0), (44, .iload_n 3, 1, 0, 0, 0, 0), (45, .ireturn, 1, 0, 0, 0, 0)]
set_option maxRecDepth 100000 in
theorem sx_k126 : sx_c126.all (sx_chk 10 prog_12_method_21_code) = true := by decide +kernel
def sx_c127 : List sx_I := [(0, .iload_n 1, 1, 0, 0, 0, 0), (1, .iconst 1, 1, 0, 0, 0, 0), (2, .bipush 8, 2, 0, 0, 0, 0), (4, .invokestatic 59, 3, 2, 14, 0, 0), (7, .ifCond .ne 10, 3, 0, 0, 0, 0), (10, .aload_n 0, 1, 0, 0, 0, 0), (11, .ldc 63, 2, 6, 0, 0, -100001), (13, .invokevirtual 64, 3, 2, 15, 0, 0), (16, .ireturn, 1, 0, 0, 0, 0), (17, .aload_n 0, 1, 0, 0, 0, 0), (18, .getfield 33, 3, 0, 11, 4, 0), (21, .iload_n 1, 1, 0, 0, 0, 0), (22, .invokevirtual 312, 3, 2, 128, 0, 0), (25, .ifCond .ne 10, 3, 0, 0, 0, 0), (28, .aload_n 0, 1, 0, 0, 0, 0), (29, .ldc 84, 2, 6, 0, 0, -100005), (31, .invokevirtual 64, 3, 2, 15, 0, 0), (34, .ireturn, 1, 0, 0, 0, 0), (35, .aload_n 0, 1, 0, 0, 0, 0), (36, .getfield 33, 3, 0, 11, 4, 0), (39, .iload_n 1, 1, 0, 0, 0, 0), (40, .lload_n 2, 1, 0, 0, 0, 0), (41, .invokevirtual 315, 3, 2, 129, 0, 0), (44, .ireturn, 1, 0, 0, 0, 0)]
set_option maxRecDepth 100000 in
theorem sx_k127 : sx_c127.all (sx_chk 11 prog_1_method_22_code) = true := by decide +kernel
def sx_c128 : List sx_I := [(0, .aload_n 0, 1, 0, 0, 0, 0), (1, .getfield 22, 3, 0, 8, 1, 0), (4, .iload_n 1, 1, 0, 0, 0, 0), (5, .iadd, 1, 0, 0, 0, 0), (6, .sipush 160, 3, 0, 0, 0, 0), (9, .if_icmp .gt 7, 3, 0, 0, 0, 0), (12, .iconst 1, 1, 0, 0, 0, 0), (13, .goto 4, 3, 0, 0, 0, 0), (16, .iconst 0, 1, 0, 0, 0, 0), (17, .ireturn, 1, 0, 0, 0, 0)]
set_option maxRecDepth 100000 in
theorem sx_k128 : sx_c128.all (sx_chk 8 prog_10_method_2_code) = true := by decide +kernel
def sx_c129 : List sx_I := [(0, .iconst 0, 1, 0, 0, 0, 0), (1, .istore 4, 2, 0, 0, 0, 0), (3, .iload 4, 2, 0, 0, 0, 0), (5, .iload_n 1, 1, 0, 0, 0, 0), (6, .if_icmp .ge 50, 3, 0, 0, 0, 0), (9, .aload_n 0, 1, 0, 0, 0, 0), (10, .getfield 22, 3, 0, 8, 1, 0), (13, .sipush 160, 3, 0, 0, 0, 0), (16, .if_icmp .ge 40, 3, 0, 0, 0, 0), (19, .aload_n 0, 1, 0, 0, 0, 0), (20, .getfield 9, 3, 0, 8, 0, 0), (23, .aload_n 0, 1, 0, 0, 0, 0), (24, .getfield 22, 3, 0, 8, 1, 0), (27, .lload_n 2, 1, 0, 0, 0, 0), (28, .bipush 8, 2, 0, 0, 0, 0), (30, .iload 4, 2, 0, 0, 0, 0), (32, .imul, 1, 0, 0, 0, 0), (33, .lshr, 1, 0, 0, 0, 0), (34, .ldc2_w 26, 3, 7, 0, 0, 255), (37, .land, 1, 0, 0, 0, 0), (38, .l2i, 1, 0, 0, 0, 0), (39, .iastore, 1, 0, 0, 0, 0), (40, .aload_n 0, 1, 0, 0, 0, 0), (41, .dup, 1, 0, 0, 0, 0), (42, .getfield 22, 3, 0, 8, 1, 0), (45, .iconst 1, 1, 0, 0, 0, 0), (46, .iadd, 1, 0, 0, 0, 0), (47, .putfield 22, 3, 0, 8, 1, 0), (50, .iinc 4 1, 3, 0, 0, 0, 0), (53, .goto (-50), 3, 0, 0, 0, 0), (56, .aload_n 0, 1, 0, 0, 0, 0), (57, .getfield 22, 3, 0, 8, 1, 0), (60, .ireturn, 1, 0, 0, 0, 0)]
set_option maxRecDepth 100000 in
theorem sx_k129 : sx_c129.all (sx_chk 8 prog_10_method_3_code) = true := by decide +kernel
def sx_c130 : List sx_I := [(0, .iload_n 1, 1, 0, 0, 0, 0), (1, .invokestatic 319, 3, 2, 85, 0, 0), (4, .ifCond .ne 10, 3, 0, 0, 0, 0), (7, .aload_n 0, 1, 0, 0, 0, 0), (8, .ldc 63, 2, 6, 0, 0, -100001), (10, .invokevirtual 64, 3, 2, 15, 0, 0), (13, .ireturn, 1, 0, 0, 0, 0), (14, .aload_n 0, 1, 0, 0, 0, 0), (15, .getfield 33, 3, 0, 11, 4, 0), (18, .invokevirtual 322, 3, 2, 131, 0, 0), (21, .istore_n 2, 1, 0, 0, 0, 0), (22, .iload_n 2, 1, 0, 0, 0, 0), (23, .ifCond .ge 21, 3, 0, 0, 0, 0), (26, .aload_n 0, 1, 0, 0, 0, 0), (27, .getfield 10, 3, 0, 11, 0, 0), (30, .iload_n 1, 1, 0, 0, 0, 0), (31, .invokevirtual 325, 3, 2, 84, 0, 0), (34, .aload_n 0, 1, 0, 0, 0, 0), (35, .getfield 33, 3, 0, 11, 4, 0), (38, .getfield 329, 3, 1, 8, 2, 0), (41, .invokevirtual 333, 3, 2, 164, 0, 0), (44, .iload_n 2, 1, 0, 0, 0, 0), (45, .ireturn, 1, 0, 0, 0, 0)]
set_option maxRecDepth 100000 in
theorem sx_k130 : sx_c130.all (sx_chk 11 prog_1_method_23_code) = true := by decide +kernel
def sx_c131 : List sx_I := [(0, .aload_n 0, 1, 0, 0, 0, 0), (1, .iconst 0, 1, 0, 0, 0, 0), (2, .putfield 28, 3, 0, 8, 3, 0), (5, .aload_n 0, 1, 0, 0, 0, 0), (6, .getfield 18, 3, 0, 8, 2, 0), (9, .invokevirtual 31, 3, 2, 132, 0, 0), (12, .aload_n 0, 1, 0, 0, 0, 0), (13, .invokevirtual 34, 3, 2, 133, 0, 0), (16, .aload_n 0, 1, 0, 0, 0, 0), (17, .bipush 9, 2, 0, 0, 0, 0), (19, .iconst 0, 1, 0, 0, 0, 0), (20, .invokevirtual 37, 3, 2, 153, 0, 0), (23, .ifCond .eq 36, 3, 0, 0, 0, 0), (26, .aload_n 0, 1, 0, 0, 0, 0), (27, .bipush 10, 2, 0, 0, 0, 0), (29, .iconst 1, 1, 0, 0, 0, 0), (30, .invokevirtual 37, 3, 2, 153, 0, 0), (33, .ifCond .eq 26, 3, 0, 0, 0, 0), (36, .aload_n 0, 1, 0, 0, 0, 0), (37, .bipush 11, 2, 0, 0, 0, 0), (39, .iconst 2, 1, 0, 0, 0, 0), (40, .invokevirtual 37, 3, 2, 153, 0, 0), (43, .ifCond .eq 16, 3, 0, 0, 0, 0), (46, .aload_n 0, 1, 0, 0, 0, 0), (47, .getfield 41, 3, 0, 8, 4, 0), (50, .bipush 23, 2, 0, 0, 0, 0), (52, .if_icmp .ne 7, 3, 0, 0, 0, 0), (55, .iconst 1, 1, 0, 0, 0, 0), (56, .goto 4, 3, 0, 0, 0, 0), (59, .iconst 0, 1, 0, 0, 0, 0), (60, .istore_n 1, 1, 0, 0, 0, 0), (61, .aload_n 0, 1, 0, 0, 0, 0), (62, .iconst 0, 1, 0, 0, 0, 0), (63, .putfield 22, 3, 0, 8, 1, 0), (66, .iload_n 1, 1, 0, 0, 0, 0), (67, .ifCond .eq 7, 3, 0, 0, 0, 0), (70, .iconst (-1), 1, 0, 0, 0, 0), (71, .goto 7, 3, 0, 0, 0, 0), (74, .aload_n 0, 1, 0, 0, 0, 0), (75, .getfield 44, 3, 0, 8, 5, 0), (78, .ireturn, 1, 0, 0, 0, 0)]
set_option maxRecDepth 100000 in
theorem sx_k131 : sx_c131.all (sx_chk 8 prog_10_method_4_code) = true := by decide +kernel
def sx_c132 : List sx_I := [(0, .aload_n 0, 1, 0, 0, 0, 0), (1, .iconst 1, 1, 0, 0, 0, 0), (2, .putfield 18, 3, 0, 9, 0, 0), (5, .aload_n 0, 1, 0, 0, 0, 0), (6, .iconst 0, 1, 0, 0, 0, 0), (7, .putfield 22, 3, 0, 9, 3, 0), (10, .return_, 1, 0, 0, 0, 0)]
set_option maxRecDepth 100000 in
theorem sx_k132 : sx_c132.all (sx_chk 9 prog_11_method_3_code) = true := by decide +kernel
def sx_c133 : List sx_I := [(0, .aload_n 0, 1, 0, 0, 0, 0), (1, .getfield 28, 3, 0, 8, 3, 0), (4, .aload_n 0, 1, 0, 0, 0, 0), (5, .getfield 22, 3, 0, 8, 1, 0), (8, .if_icmp .ge 29, 3, 0, 0, 0, 0), (11, .aload_n 0, 1, 0, 0, 0, 0), (12, .aload_n 0, 1, 0, 0, 0, 0), (13, .getfield 28, 3, 0, 8, 3, 0), (16, .invokevirtual 82, 3, 2, 134, 0, 0), (19, .bipush 32, 2, 0, 0, 0, 0), (21, .if_icmp .ne 16, 3, 0, 0, 0, 0), (24, .aload_n 0, 1, 0, 0, 0, 0), (25, .dup, 1, 0, 0, 0, 0), (26, .getfield 28, 3, 0, 8, 3, 0), (29, .iconst 1, 1, 0, 0, 0, 0), (30, .iadd, 1, 0, 0, 0, 0), (31, .putfield 28, 3, 0, 8, 3, 0), (34, .goto (-34), 3, 0, 0, 0, 0), (37, .aload_n 0, 1, 0, 0, 0, 0), (38, .aload_n 0, 1, 0, 0, 0, 0), (39, .getfield 28, 3, 0, 8, 3, 0), (42, .putfield 44, 3, 0, 8, 5, 0), (45, .aload_n 0, 1, 0, 0, 0, 0), (46, .aload_n 0, 1, 0, 0, 0, 0), (47, .getfield 28, 3, 0, 8, 3, 0), (50, .invokevirtual 82, 3, 2, 134, 0, 0), (53, .istore_n 1, 1, 0, 0, 0, 0), (54, .aload_n 0, 1, 0, 0, 0, 0), (55, .getfield 28, 3, 0, 8, 3, 0), (58, .aload_n 0, 1, 0, 0, 0, 0), (59, .getfield 22, 3, 0, 8, 1, 0), (62, .if_icmp .lt 12, 3, 0, 0, 0, 0), (65, .aload_n 0, 1, 0, 0, 0, 0), (66, .bipush 23, 2, 0, 0, 0, 0), (68, .putfield 41, 3, 0, 8, 4, 0), (71, .goto 49, 3, 0, 0, 0, 0), (74, .iload_n 1, 1, 0, 0, 0, 0), (75, .invokestatic 86, 3, 2, 135, 0, 0), (78, .ifCond .eq 10, 3, 0, 0, 0, 0), (81, .aload_n 0, 1, 0, 0, 0, 0), (82, .invokevirtual 89, 3, 2, 136, 0, 0), (85, .goto 35, 3, 0, 0, 0, 0), (88, .iload_n 1, 1, 0, 0, 0, 0), (89, .invokestatic 92, 3, 2, 150, 0, 0), (92, .ifCond .eq 10, 3, 0, 0, 0, 0), (95, .aload_n 0, 1, 0, 0, 0, 0), (96, .invokevirtual 95, 3, 2, 151, 0, 0), (99, .goto 21, 3, 0, 0, 0, 0), (102, .aload_n 0, 1, 0, 0, 0, 0), (103, .iload_n 1, 1, 0, 0, 0, 0), (104, .invokestatic 98, 3, 2, 152, 0, 0), (107, .putfield 41, 3, 0, 8, 4, 0), (110, .aload_n 0, 1, 0, 0, 0, 0), (111, .dup, 1, 0, 0, 0, 0), (112, .getfield 28, 3, 0, 8, 3, 0), (115, .iconst 1, 1, 0, 0, 0, 0), (116, .iadd, 1, 0, 0, 0, 0), (117, .putfield 28, 3, 0, 8, 3, 0), (120, .return_, 1, 0, 0, 0, 0)]
set_option maxRecDepth 100000 in
theorem sx_k133 : sx_c133.all (sx_chk 8 prog_10_method_13_code) = true := by decide +kernel
def sx_c134 : List sx_I := [(0, .iload_n 1, 1, 0, 0, 0, 0), (1, .ifCond .lt 27, 3, 0, 0, 0, 0), (4, .iload_n 1, 1, 0, 0, 0, 0), (5, .aload_n 0, 1, 0, 0, 0, 0), (6, .getfield 22, 3, 0, 8, 1, 0), (9, .if_icmp .ge 19, 3, 0, 0, 0, 0), (12, .iload_n 1, 1, 0, 0, 0, 0), (13, .sipush 160, 3, 0, 0, 0, 0), (16, .if_icmp .ge 12, 3, 0, 0, 0, 0), (19, .aload_n 0, 1, 0, 0, 0, 0), (20, .getfield 9, 3, 0, 8, 0, 0), (23, .iload_n 1, 1, 0, 0, 0, 0), (24, .iaload, 1, 0, 0, 0, 0), (25, .goto 4, 3, 0, 0, 0, 0), (28, .iconst 0, 1, 0, 0, 0, 0), (29, .ireturn, 1, 0, 0, 0, 0)]
set_option maxRecDepth 100000 in
theorem sx_k134 : sx_c134.all (sx_chk 8 prog_10_method_14_code) = true := by decide +kernel
def sx_c135 : List sx_I := [(0, .iload_n 0, 1, 0, 0, 0, 0), (1, .bipush 97, 2, 0, 0, 0, 0), (3, .bipush 122, 2, 0, 0, 0, 0), (5, .invokestatic 118, 3, 3, 14, 0, 0), (8, .ireturn, 1, 0, 0, 0, 0)]
set_option maxRecDepth 100000 in
theorem sx_k135 : sx_c135.all (sx_chk 8 prog_10_method_18_code) = true := by decide +kernel
def sx_c136 : List sx_I := [(0, .aload_n 0, 1, 0, 0, 0, 0), (1, .getfield 28, 3, 0, 8, 3, 0), (4, .aload_n 0, 1, 0, 0, 0, 0), (5, .getfield 22, 3, 0, 8, 1, 0), (8, .if_icmp .ge 30, 3, 0, 0, 0, 0), (11, .aload_n 0, 1, 0, 0, 0, 0), (12, .aload_n 0, 1, 0, 0, 0, 0), (13, .getfield 28, 3, 0, 8, 3, 0), (16, .invokevirtual 82, 3, 2, 134, 0, 0), (19, .invokestatic 86, 3, 2, 135, 0, 0), (22, .ifCond .eq 16, 3, 0, 0, 0, 0), (25, .aload_n 0, 1, 0, 0, 0, 0), (26, .dup, 1, 0, 0, 0, 0), (27, .getfield 28, 3, 0, 8, 3, 0), (30, .iconst 1, 1, 0, 0, 0, 0), (31, .iadd, 1, 0, 0, 0, 0), (32, .putfield 28, 3, 0, 8, 3, 0), (35, .goto (-35), 3, 0, 0, 0, 0), (38, .aload_n 0, 1, 0, 0, 0, 0), (39, .bipush 24, 2, 0, 0, 0, 0), (41, .putfield 41, 3, 0, 8, 4, 0), (44, .iconst 0, 1, 0, 0, 0, 0), (45, .istore_n 1, 1, 0, 0, 0, 0), (46, .iload_n 1, 1, 0, 0, 0, 0), (47, .bipush 15, 2, 0, 0, 0, 0), (49, .if_icmp .ge 25, 3, 0, 0, 0, 0), (52, .aload_n 0, 1, 0, 0, 0, 0), (53, .iload_n 1, 1, 0, 0, 0, 0), (54, .invokestatic 101, 3, 2, 137, 0, 0), (57, .invokevirtual 105, 3, 2, 138, 0, 0), (60, .ifCond .eq 8, 3, 0, 0, 0, 0), (63, .aload_n 0, 1, 0, 0, 0, 0), (64, .iload_n 1, 1, 0, 0, 0, 0), (65, .putfield 41, 3, 0, 8, 4, 0), (68, .iinc 1 1, 3, 0, 0, 0, 0), (71, .goto (-25), 3, 0, 0, 0, 0), (74, .return_, 1, 0, 0, 0, 0)]
set_option maxRecDepth 100000 in
theorem sx_k136 : sx_c136.all (sx_chk 8 prog_10_method_15_code) = true := by decide +kernel
def sx_c137 : List sx_I := [(0, .iload_n 0, 1, 0, 0, 0, 0), (1, .tableswitch 120 0 14 #[75, 78, 81, 84, 87, 90, 93, 96, 99, 102, 105, 108, 111, 114, 117], 75, 0, 0, 0, 0), (76, .ldc 122, 2, 99, 0, 0, 0), (78, .areturn, 1, 0, 0, 0, 0), (79, .ldc 124, 2, 99, 0, 0, 0), (81, .areturn, 1, 0, 0, 0, 0), (82, .ldc 126, 2, 99, 0, 0, 0), (84, .areturn, 1, 0, 0, 0, 0), (85, .ldc 128, 2, 99, 0, 0, 0), (87, .areturn, 1, 0, 0, 0, 0), (88, .ldc 130, 2, 99, 0, 0, 0), (90, .areturn, 1, 0, 0, 0, 0), (91, .ldc 132, 2, 99, 0, 0, 0), (93, .areturn, 1, 0, 0, 0, 0), (94, .ldc 134, 2, 99, 0, 0, 0), (96, .areturn, 1, 0, 0, 0, 0), (97, .ldc 136, 2, 99, 0, 0, 0), (99, .areturn, 1, 0, 0, 0, 0), (100, .ldc 138, 2, 99, 0, 0, 0), (102, .areturn, 1, 0, 0, 0, 0), (103, .ldc 140, 2, 99, 0, 0, 0), (105, .areturn, 1, 0, 0, 0, 0), (106, .ldc 142, 2, 99, 0, 0, 0), (108, .areturn, 1, 0, 0, 0, 0), (109, .ldc 144, 2, 99, 0, 0, 0), (111, .areturn, 1, 0, 0, 0, 0), (112, .ldc 146, 2, 99, 0, 0, 0), (114, .areturn, 1, 0, 0, 0, 0), (115, .ldc 148, 2, 99, 0, 0, 0), (117, .areturn, 1, 0, 0, 0, 0), (118, .ldc 150, 2, 99, 0, 0, 0), (120, .areturn, 1, 0, 0, 0, 0), (121, .ldc 152, 2, 99, 0, 0, 0), (123, .areturn, 1, 0, 0, 0, 0)]
set_option maxRecDepth 100000 in
theorem sx_k137 : sx_c137.all (sx_chk 8 prog_10_method_21_code) = true := by decide +kernel
def sx_c138 : List sx_I := [(0, .aload_n 0, 1, 0, 0, 0, 0), (1, .getfield 28, 3, 0, 8, 3, 0), (4, .aload_n 0, 1, 0, 0, 0, 0), (5, .getfield 44, 3, 0, 8, 5, 0), (8, .isub, 1, 0, 0, 0, 0), (9, .aload_n 1, 1, 0, 0, 0, 0), (10, .invokevirtual 109, 3, 2, 139, 0, 0), (13, .if_icmp .eq 5, 3, 0, 0, 0, 0), (16, .iconst 0, 1, 0, 0, 0, 0), (17, .ireturn, 1, 0, 0, 0, 0), (18, .iconst 0, 1, 0, 0, 0, 0), (19, .istore_n 2, 1, 0, 0, 0, 0), (20, .iload_n 2, 1, 0, 0, 0, 0), (21, .aload_n 1, 1, 0, 0, 0, 0), (22, .invokevirtual 109, 3, 2, 139, 0, 0), (25, .if_icmp .ge 29, 3, 0, 0, 0, 0), (28, .aload_n 0, 1, 0, 0, 0, 0), (29, .aload_n 0, 1, 0, 0, 0, 0), (30, .getfield 44, 3, 0, 8, 5, 0), (33, .iload_n 2, 1, 0, 0, 0, 0), (34, .iadd, 1, 0, 0, 0, 0), (35, .invokevirtual 82, 3, 2, 134, 0, 0), (38, .aload_n 1, 1, 0, 0, 0, 0), (39, .iload_n 2, 1, 0, 0, 0, 0), (40, .invokevirtual 114, 3, 2, 141, 0, 0), (43, .if_icmp .eq 5, 3, 0, 0, 0, 0), (46, .iconst 0, 1, 0, 0, 0, 0), (47, .ireturn, 1, 0, 0, 0, 0), (48, .iinc 2 1, 3, 0, 0, 0, 0), (51, .goto (-31), 3, 0, 0, 0, 0), (54, .iconst 1, 1, 0, 0, 0, 0), (55, .ireturn, 1, 0, 0, 0, 0)]
set_option maxRecDepth 100000 in
theorem sx_k138 : sx_c138.all (sx_chk 8 prog_10_method_16_code) = true := by decide +kernel
def sx_c139 : List sx_I := [(0, .aload_n 0, 1, 0, 0, 0, 0), (1, .getfield 9, 3, 99, 0, 0, 0), (4, .arraylength, 1, 0, 0, 0, 0), (5, .aload_n 0, 1, 0, 0, 0, 0), (6, .invokevirtual 335, 3, 2, 140, 0, 0), (9, .ishr, 1, 0, 0, 0, 0), (10, .ireturn, 1, 0, 0, 0, 0)]
set_option maxRecDepth 100000 in
theorem sx_k139 : sx_c139.all (sx_chk 15 prog_18_method_54_code) = true := by decide +kernel
def sx_c140 : List sx_I := [(0, .getstatic 38, 3, 10, 2, 0, 0), (3, .ifCond .eq 10, 3, 0, 0, 0, 0), (6, .aload_n 0, 1, 0, 0, 0, 0), (7, .getfield 15, 3, 99, 0, 0, 0), (10, .goto 4, 3, 0, 0, 0, 0), (13, .iconst 1, 1, 0, 0, 0, 0), (14, .ireturn, 1, 0, 0, 0, 0)]
set_option maxRecDepth 100000 in
theorem sx_k140 : sx_c140.all (sx_chk 15 prog_18_method_152_code) = true := by decide +kernel
def sx_c141 : List sx_I := [(0, .aload_n 0, 1, 0, 0, 0, 0), (1, .invokevirtual 492, 3, 2, 142, 0, 0), (4, .ifCond .eq 12, 3, 0, 0, 0, 0), (7, .aload_n 0, 1, 0, 0, 0, 0), (8, .getfield 9, 3, 99, 0, 0, 0), (11, .iload_n 1, 1, 0, 0, 0, 0), (12, .invokestatic 495, 3, 2, 143, 0, 0), (15, .ireturn, 1, 0, 0, 0, 0), (16, .aload_n 0, 1, 0, 0, 0, 0), (17, .getfield 9, 3, 99, 0, 0, 0), (20, .iload_n 1, 1, 0, 0, 0, 0), (21, .invokestatic 498, 3, 2, 146, 0, 0), (24, .ireturn, 1, 0, 0, 0, 0)]
set_option maxRecDepth 100000 in
theorem sx_k141 : sx_c141.all (sx_chk 15 prog_18_method_56_code) = true := by decide +kernel
def sx_c142 : List sx_I := [(0, .getstatic 38, 3, 10, 2, 0, 0), (3, .ifCond .eq 14, 3, 0, 0, 0, 0), (6, .aload_n 0, 1, 0, 0, 0, 0), (7, .getfield 15, 3, 99, 0, 0, 0), (10, .ifCond .ne 7, 3, 0, 0, 0, 0), (13, .iconst 1, 1, 0, 0, 0, 0), (14, .goto 4, 3, 0, 0, 0, 0), (17, .iconst 0, 1, 0, 0, 0, 0), (18, .ireturn, 1, 0, 0, 0, 0)]
set_option maxRecDepth 100000 in
theorem sx_k142 : sx_c142.all (sx_chk 15 prog_18_method_154_code) = true := by decide +kernel
def sx_c143 : List sx_I := [(0, .iload_n 1, 1, 0, 0, 0, 0), (1, .aload_n 0, 1, 0, 0, 0, 0), (2, .arraylength, 1, 0, 0, 0, 0), (3, .invokestatic 9, 3, 2, 144, 0, 0), (6, .aload_n 0, 1, 0, 0, 0, 0), (7, .iload_n 1, 1, 0, 0, 0, 0), (8, .baload, 1, 0, 0, 0, 0), (9, .sipush 255, 3, 0, 0, 0, 0), (12, .iand, 1, 0, 0, 0, 0), (13, .i2c, 1, 0, 0, 0, 0), (14, .ireturn, 1, 0, 0, 0, 0)]
set_option maxRecDepth 100000 in
theorem sx_k143 : sx_c143.all (sx_chk 16 prog_19_method_2_code) = true := by decide +kernel
def sx_c144 : List sx_I := [(0, .iload_n 0, 1, 0, 0, 0, 0), (1, .iload_n 1, 1, 0, 0, 0, 0), (2, .getstatic 1053, 3, 10, 3, 0, 0), (5, .invokestatic 1059, 3, 2, 145, 0, 0), (8, .pop, 1, 0, 0, 0, 0), (9, .return_, 1, 0, 0, 0, 0)]
set_option maxRecDepth 100000 in
theorem sx_k144 : sx_c144.all (sx_chk 15 prog_18_method_155_code) = true := by decide +kernel
def sx_c145 : List sx_I := [(0, .iload_n 0, 1, 0, 0, 0, 0), (1, .ifCond .lt 8, 3, 0, 0, 0, 0), (4, .iload_n 0, 1, 0, 0, 0, 0), (5, .iload_n 1, 1, 0, 0, 0, 0), (6, .if_icmp .lt 10, 3, 0, 0, 0, 0), (9, .aload_n 2, 1, 0, 0, 0, 0), (10, .iload_n 0, 1, 0, 0, 0, 0), (11, .iload_n 1, 1, 0, 0, 0, 0), (12, .invokestatic 95, 3, 99, 0, 0, 0), (15, .athrow, 1, 0, 0, 0, 0), (16, .iload_n 0, 1, 0, 0, 0, 0), (17, .ireturn, 1, 0, 0, 0, 0)]
set_option maxRecDepth 100000 in
theorem sx_k145 : sx_c145.all (sx_chk 17 prog_22_method_11_code) = true := by decide +kernel
def sx_c146 : List sx_I := [(0, .iload_n 1, 1, 0, 0, 0, 0), (1, .aload_n 0, 1, 0, 0, 0, 0), (2, .invokestatic 67, 3, 2, 147, 0, 0), (5, .aload_n 0, 1, 0, 0, 0, 0), (6, .iload_n 1, 1, 0, 0, 0, 0), (7, .invokestatic 71, 3, 2, 149, 0, 0), (10, .ireturn, 1, 0, 0, 0, 0)]
set_option maxRecDepth 100000 in
theorem sx_k146 : sx_c146.all (sx_chk 18 prog_20_method_83_code) = true := by decide +kernel
def sx_c147 : List sx_I := [(0, .iload_n 0, 1, 0, 0, 0, 0), (1, .aload_n 1, 1, 0, 0, 0, 0), (2, .invokestatic 48, 3, 2, 148, 0, 0), (5, .invokestatic 414, 3, 2, 144, 0, 0), (8, .return_, 1, 0, 0, 0, 0)]
set_option maxRecDepth 100000 in
theorem sx_k147 : sx_c147.all (sx_chk 18 prog_20_method_91_code) = true := by decide +kernel
def sx_c148 : List sx_I := [(0, .aload_n 0, 1, 0, 0, 0, 0), (1, .arraylength, 1, 0, 0, 0, 0), (2, .iconst 1, 1, 0, 0, 0, 0), (3, .ishr, 1, 0, 0, 0, 0), (4, .ireturn, 1, 0, 0, 0, 0)]
set_option maxRecDepth 100000 in
theorem sx_k148 : sx_c148.all (sx_chk 18 prog_20_method_6_code) = true := by decide +kernel
def sx_c149 : List sx_I := [(0, .getstatic 44, 3, 10, 4, 0, 0), (3, .ifCond .ne 25, 3, 0, 0, 0, 0), (6, .iload_n 1, 1, 0, 0, 0, 0), (7, .ifCond .lt 11, 3, 0, 0, 0, 0), (10, .iload_n 1, 1, 0, 0, 0, 0), (11, .aload_n 0, 1, 0, 0, 0, 0), (12, .invokestatic 48, 3, 2, 148, 0, 0), (15, .if_icmp .lt 13, 3, 0, 0, 0, 0), (18, .new 52, 3, 99, 0, 0, 0), (21, .dup, 1, 0, 0, 0, 0), (22, .ldc 54, 2, 99, 0, 0, 0), (24, .invokespecial 56, 3, 99, 0, 0, 0), (27, .athrow, 1, 0, 0, 0, 0), (28, .iload_n 1, 1, 0, 0, 0, 0), (29, .iconst 1, 1, 0, 0, 0, 0), (30, .ishl, 1, 0, 0, 0, 0), (31, .istore_n 1, 1, 0, 0, 0, 0), (32, .aload_n 0, 1, 0, 0, 0, 0), (33, .iload_n 1, 1, 0, 0, 0, 0), (34, .iinc 1 1, 3, 0, 0, 0, 0), (37, .baload, 1, 0, 0, 0, 0), (38, .sipush 255, 3, 0, 0, 0, 0), (41, .iand, 1, 0, 0, 0, 0), (42, .getstatic 59, 3, 10, 5, 0, 0), (45, .ishl, 1, 0, 0, 0, 0), (46, .aload_n 0, 1, 0, 0, 0, 0), (47, .iload_n 1, 1, 0, 0, 0, 0), (48, .baload, 1, 0, 0, 0, 0), (49, .sipush 255, 3, 0, 0, 0, 0), (52, .iand, 1, 0, 0, 0, 0), (53, .getstatic 63, 3, 10, 6, 0, 0), (56, .ishl, 1, 0, 0, 0, 0), (57, .ior, 1, 0, 0, 0, 0), (58, .i2c, 1, 0, 0, 0, 0), (59, .ireturn, 1, 0, 0, 0, 0)]
set_option maxRecDepth 100000 in
theorem sx_k149 : sx_c149.all (sx_chk 18 prog_20_method_5_code) = true := by decide +kernel
def sx_c150 : List sx_I := [(0, .iload_n 0, 1, 0, 0, 0, 0), (1, .bipush 48, 2, 0, 0, 0, 0), (3, .bipush 57, 2, 0, 0, 0, 0), (5, .invokestatic 118, 3, 3, 14, 0, 0), (8, .ireturn, 1, 0, 0, 0, 0)]
set_option maxRecDepth 100000 in
theorem sx_k150 : sx_c150.all (sx_chk 8 prog_10_method_19_code) = true := by decide +kernel
def sx_c151 : List sx_I := [(0, .aload_n 0, 1, 0, 0, 0, 0), (1, .iconst 0, 1, 0, 0, 0, 0), (2, .putfield 76, 3, 0, 8, 6, 0), (5, .aload_n 0, 1, 0, 0, 0, 0), (6, .getfield 28, 3, 0, 8, 3, 0), (9, .aload_n 0, 1, 0, 0, 0, 0), (10, .getfield 22, 3, 0, 8, 1, 0), (13, .if_icmp .ge 53, 3, 0, 0, 0, 0), (16, .aload_n 0, 1, 0, 0, 0, 0), (17, .aload_n 0, 1, 0, 0, 0, 0), (18, .getfield 28, 3, 0, 8, 3, 0), (21, .invokevirtual 82, 3, 2, 134, 0, 0), (24, .invokestatic 92, 3, 2, 150, 0, 0), (27, .ifCond .eq 39, 3, 0, 0, 0, 0), (30, .aload_n 0, 1, 0, 0, 0, 0), (31, .aload_n 0, 1, 0, 0, 0, 0), (32, .getfield 76, 3, 0, 8, 6, 0), (35, .bipush 10, 2, 0, 0, 0, 0), (37, .imul, 1, 0, 0, 0, 0), (38, .aload_n 0, 1, 0, 0, 0, 0), (39, .aload_n 0, 1, 0, 0, 0, 0), (40, .getfield 28, 3, 0, 8, 3, 0), (43, .invokevirtual 82, 3, 2, 134, 0, 0), (46, .iadd, 1, 0, 0, 0, 0), (47, .bipush 48, 2, 0, 0, 0, 0), (49, .isub, 1, 0, 0, 0, 0), (50, .putfield 76, 3, 0, 8, 6, 0), (53, .aload_n 0, 1, 0, 0, 0, 0), (54, .dup, 1, 0, 0, 0, 0), (55, .getfield 28, 3, 0, 8, 3, 0), (58, .iconst 1, 1, 0, 0, 0, 0), (59, .iadd, 1, 0, 0, 0, 0), (60, .putfield 28, 3, 0, 8, 3, 0), (63, .goto (-58), 3, 0, 0, 0, 0), (66, .aload_n 0, 1, 0, 0, 0, 0), (67, .aload_n 0, 1, 0, 0, 0, 0), (68, .getfield 28, 3, 0, 8, 3, 0), (71, .aload_n 0, 1, 0, 0, 0, 0), (72, .getfield 44, 3, 0, 8, 5, 0), (75, .isub, 1, 0, 0, 0, 0), (76, .iconst 4, 1, 0, 0, 0, 0), (77, .if_icmp .gt 8, 3, 0, 0, 0, 0), (80, .bipush 15, 2, 0, 0, 0, 0), (82, .goto 5, 3, 0, 0, 0, 0), (85, .bipush 24, 2, 0, 0, 0, 0), (87, .putfield 41, 3, 0, 8, 4, 0), (90, .return_, 1, 0, 0, 0, 0)]
set_option maxRecDepth 100000 in
theorem sx_k151 : sx_c151.all (sx_chk 8 prog_10_method_17_code) = true := by decide +kernel
def sx_c152 : List sx_I := [(0, .iload_n 0, 1, 0, 0, 0, 0), (1, .tableswitch 124 40 61 #[103, 106, 124, 112, 124, 115, 124, 124, 124, 124, 124, 124, 124, 124, 124, 124, 124, 124, 124, 109, 118, 121], 103, 0, 0, 0, 0), (104, .bipush 16, 2, 0, 0, 0, 0), (106, .ireturn, 1, 0, 0, 0, 0), (107, .bipush 17, 2, 0, 0, 0, 0), (109, .ireturn, 1, 0, 0, 0, 0), (110, .bipush 18, 2, 0, 0, 0, 0), (112, .ireturn, 1, 0, 0, 0, 0), (113, .bipush 19, 2, 0, 0, 0, 0), (115, .ireturn, 1, 0, 0, 0, 0), (116, .bipush 20, 2, 0, 0, 0, 0), (118, .ireturn, 1, 0, 0, 0, 0), (119, .bipush 21, 2, 0, 0, 0, 0), (121, .ireturn, 1, 0, 0, 0, 0), (122, .bipush 22, 2, 0, 0, 0, 0), (124, .ireturn, 1, 0, 0, 0, 0), (125, .bipush 24, 2, 0, 0, 0, 0), (127, .ireturn, 1, 0, 0, 0, 0)]
set_option maxRecDepth 100000 in
theorem sx_k152 : sx_c152.all (sx_chk 8 prog_10_method_20_code) = true := by decide +kernel
def sx_c153 : List sx_I := [(0, .aload_n 0, 1, 0, 0, 0, 0), (1, .iload_n 1, 1, 0, 0, 0, 0), (2, .invokevirtual 47, 3, 2, 154, 0, 0), (5, .ifCond .eq 24, 3, 0, 0, 0, 0), (8, .aload_n 0, 1, 0, 0, 0, 0), (9, .iconst 0, 1, 0, 0, 0, 0), (10, .invokevirtual 51, 3, 2, 155, 0, 0), (13, .ifCond .eq 16, 3, 0, 0, 0, 0), (16, .aload_n 0, 1, 0, 0, 0, 0), (17, .bipush 18, 2, 0, 0, 0, 0), (19, .invokevirtual 47, 3, 2, 154, 0, 0), (22, .ifCond .eq 7, 3, 0, 0, 0, 0), (25, .iconst 1, 1, 0, 0, 0, 0), (26, .goto 4, 3, 0, 0, 0, 0), (29, .iconst 0, 1, 0, 0, 0, 0), (30, .istore_n 3, 1, 0, 0, 0, 0), (31, .aload_n 0, 1, 0, 0, 0, 0), (32, .getfield 18, 3, 0, 8, 2, 0), (35, .iload_n 2, 1, 0, 0, 0, 0), (36, .invokevirtual 54, 3, 2, 163, 0, 0), (39, .iload_n 3, 1, 0, 0, 0, 0), (40, .ireturn, 1, 0, 0, 0, 0)]
set_option maxRecDepth 100000 in
theorem sx_k153 : sx_c153.all (sx_chk 8 prog_10_method_5_code) = true := by decide +kernel
def sx_c154 : List sx_I := [(0, .aload_n 0, 1, 0, 0, 0, 0), (1, .getfield 41, 3, 0, 8, 4, 0), (4, .iload_n 1, 1, 0, 0, 0, 0), (5, .if_icmp .eq 5, 3, 0, 0, 0, 0), (8, .iconst 0, 1, 0, 0, 0, 0), (9, .ireturn, 1, 0, 0, 0, 0), (10, .aload_n 0, 1, 0, 0, 0, 0), (11, .invokevirtual 34, 3, 2, 133, 0, 0), (14, .iconst 1, 1, 0, 0, 0, 0), (15, .ireturn, 1, 0, 0, 0, 0)]
set_option maxRecDepth 100000 in
theorem sx_k154 : sx_c154.all (sx_chk 8 prog_10_method_6_code) = true := by decide +kernel
def sx_c155 : List sx_I := [(0, .aload_n 0, 1, 0, 0, 0, 0), (1, .iload_n 1, 1, 0, 0, 0, 0), (2, .invokevirtual 58, 3, 2, 156, 0, 0), (5, .istore_n 2, 1, 0, 0, 0, 0), (6, .iconst 0, 1, 0, 0, 0, 0), (7, .istore_n 3, 1, 0, 0, 0, 0), (8, .iload_n 3, 1, 0, 0, 0, 0), (9, .sipush 160, 3, 0, 0, 0, 0), (12, .if_icmp .ge 41, 3, 0, 0, 0, 0), (15, .iload_n 2, 1, 0, 0, 0, 0), (16, .ifCond .eq 37, 3, 0, 0, 0, 0), (19, .aload_n 0, 1, 0, 0, 0, 0), (20, .getfield 41, 3, 0, 8, 4, 0), (23, .bipush 12, 2, 0, 0, 0, 0), (25, .if_icmp .ne 28, 3, 0, 0, 0, 0), (28, .aload_n 0, 1, 0, 0, 0, 0), (29, .invokevirtual 34, 3, 2, 133, 0, 0), (32, .aload_n 0, 1, 0, 0, 0, 0), (33, .iload_n 1, 1, 0, 0, 0, 0), (34, .invokevirtual 58, 3, 2, 156, 0, 0), (37, .istore_n 2, 1, 0, 0, 0, 0), (38, .aload_n 0, 1, 0, 0, 0, 0), (39, .getfield 18, 3, 0, 8, 2, 0), (42, .bipush 12, 2, 0, 0, 0, 0), (44, .invokevirtual 61, 3, 2, 162, 0, 0), (47, .iinc 3 1, 3, 0, 0, 0, 0), (50, .goto (-42), 3, 0, 0, 0, 0), (53, .iload_n 2, 1, 0, 0, 0, 0), (54, .ireturn, 1, 0, 0, 0, 0)]
set_option maxRecDepth 100000 in
theorem sx_k155 : sx_c155.all (sx_chk 8 prog_10_method_7_code) = true := by decide +kernel
def sx_c156 : List sx_I := [(0, .aload_n 0, 1, 0, 0, 0, 0), (1, .iload_n 1, 1, 0, 0, 0, 0), (2, .invokevirtual 64, 3, 2, 157, 0, 0), (5, .istore_n 2, 1, 0, 0, 0, 0), (6, .iconst 0, 1, 0, 0, 0, 0), (7, .istore_n 3, 1, 0, 0, 0, 0), (8, .iload_n 3, 1, 0, 0, 0, 0), (9, .sipush 160, 3, 0, 0, 0, 0), (12, .if_icmp .ge 41, 3, 0, 0, 0, 0), (15, .iload_n 2, 1, 0, 0, 0, 0), (16, .ifCond .eq 37, 3, 0, 0, 0, 0), (19, .aload_n 0, 1, 0, 0, 0, 0), (20, .getfield 41, 3, 0, 8, 4, 0), (23, .bipush 13, 2, 0, 0, 0, 0), (25, .if_icmp .ne 28, 3, 0, 0, 0, 0), (28, .aload_n 0, 1, 0, 0, 0, 0), (29, .invokevirtual 34, 3, 2, 133, 0, 0), (32, .aload_n 0, 1, 0, 0, 0, 0), (33, .iload_n 1, 1, 0, 0, 0, 0), (34, .invokevirtual 64, 3, 2, 157, 0, 0), (37, .istore_n 2, 1, 0, 0, 0, 0), (38, .aload_n 0, 1, 0, 0, 0, 0), (39, .getfield 18, 3, 0, 8, 2, 0), (42, .bipush 13, 2, 0, 0, 0, 0), (44, .invokevirtual 61, 3, 2, 162, 0, 0), (47, .iinc 3 1, 3, 0, 0, 0, 0), (50, .goto (-42), 3, 0, 0, 0, 0), (53, .iload_n 2, 1, 0, 0, 0, 0), (54, .ireturn, 1, 0, 0, 0, 0)]
set_option maxRecDepth 100000 in
theorem sx_k156 : sx_c156.all (sx_chk 8 prog_10_method_8_code) = true := by decide +kernel
def sx_c157 : List sx_I := [(0, .aload_n 0, 1, 0, 0, 0, 0), (1, .getfield 41, 3, 0, 8, 4, 0), (4, .bipush 14, 2, 0, 0, 0, 0), (6, .if_icmp .eq 9, 3, 0, 0, 0, 0), (9, .aload_n 0, 1, 0, 0, 0, 0), (10, .iload_n 1, 1, 0, 0, 0, 0), (11, .invokevirtual 67, 3, 2, 158, 0, 0), (14, .ireturn, 1, 0, 0, 0, 0), (15, .iload_n 1, 1, 0, 0, 0, 0), (16, .iconst 4, 1, 0, 0, 0, 0), (17, .if_icmp .lt 5, 3, 0, 0, 0, 0), (20, .iconst 0, 1, 0, 0, 0, 0), (21, .ireturn, 1, 0, 0, 0, 0), (22, .aload_n 0, 1, 0, 0, 0, 0), (23, .invokevirtual 34, 3, 2, 133, 0, 0), (26, .aload_n 0, 1, 0, 0, 0, 0), (27, .iload_n 1, 1, 0, 0, 0, 0), (28, .iconst 1, 1, 0, 0, 0, 0), (29, .iadd, 1, 0, 0, 0, 0), (30, .invokevirtual 64, 3, 2, 157, 0, 0), (33, .istore_n 2, 1, 0, 0, 0, 0), (34, .aload_n 0, 1, 0, 0, 0, 0), (35, .getfield 18, 3, 0, 8, 2, 0), (38, .bipush 14, 2, 0, 0, 0, 0), (40, .invokevirtual 61, 3, 2, 162, 0, 0), (43, .iload_n 2, 1, 0, 0, 0, 0), (44, .ireturn, 1, 0, 0, 0, 0)]
set_option maxRecDepth 100000 in
theorem sx_k157 : sx_c157.all (sx_chk 8 prog_10_method_9_code) = true := by decide +kernel
def sx_c158 : List sx_I := [(0, .aload_n 0, 1, 0, 0, 0, 0), (1, .iload_n 1, 1, 0, 0, 0, 0), (2, .invokevirtual 70, 3, 2, 159, 0, 0), (5, .istore_n 2, 1, 0, 0, 0, 0), (6, .aload_n 0, 1, 0, 0, 0, 0), (7, .getfield 41, 3, 0, 8, 4, 0), (10, .istore_n 3, 1, 0, 0, 0, 0), (11, .iload_n 2, 1, 0, 0, 0, 0), (12, .ifCond .eq 15, 3, 0, 0, 0, 0), (15, .iload_n 3, 1, 0, 0, 0, 0), (16, .bipush 21, 2, 0, 0, 0, 0), (18, .if_icmp .eq 11, 3, 0, 0, 0, 0), (21, .iload_n 3, 1, 0, 0, 0, 0), (22, .bipush 22, 2, 0, 0, 0, 0), (24, .if_icmp .eq 5, 3, 0, 0, 0, 0), (27, .iload_n 2, 1, 0, 0, 0, 0), (28, .ireturn, 1, 0, 0, 0, 0), (29, .aload_n 0, 1, 0, 0, 0, 0), (30, .invokevirtual 34, 3, 2, 133, 0, 0), (33, .aload_n 0, 1, 0, 0, 0, 0), (34, .iload_n 1, 1, 0, 0, 0, 0), (35, .invokevirtual 70, 3, 2, 159, 0, 0), (38, .istore_n 2, 1, 0, 0, 0, 0), (39, .aload_n 0, 1, 0, 0, 0, 0), (40, .getfield 18, 3, 0, 8, 2, 0), (43, .iload_n 3, 1, 0, 0, 0, 0), (44, .invokevirtual 61, 3, 2, 162, 0, 0), (47, .iload_n 2, 1, 0, 0, 0, 0), (48, .ireturn, 1, 0, 0, 0, 0)]
set_option maxRecDepth 100000 in
theorem sx_k158 : sx_c158.all (sx_chk 8 prog_10_method_10_code) = true := by decide +kernel
def sx_c159 : List sx_I := [(0, .aload_n 0, 1, 0, 0, 0, 0), (1, .iload_n 1, 1, 0, 0, 0, 0), (2, .invokevirtual 73, 3, 2, 160, 0, 0), (5, .istore_n 2, 1, 0, 0, 0, 0), (6, .iconst 0, 1, 0, 0, 0, 0), (7, .istore_n 3, 1, 0, 0, 0, 0), (8, .iload_n 3, 1, 0, 0, 0, 0), (9, .sipush 160, 3, 0, 0, 0, 0), (12, .if_icmp .ge 56, 3, 0, 0, 0, 0), (15, .iload_n 2, 1, 0, 0, 0, 0), (16, .ifCond .eq 52, 3, 0, 0, 0, 0), (19, .aload_n 0, 1, 0, 0, 0, 0), (20, .getfield 41, 3, 0, 8, 4, 0), (23, .bipush 19, 2, 0, 0, 0, 0), (25, .if_icmp .eq 12, 3, 0, 0, 0, 0), (28, .aload_n 0, 1, 0, 0, 0, 0), (29, .getfield 41, 3, 0, 8, 4, 0), (32, .bipush 20, 2, 0, 0, 0, 0), (34, .if_icmp .ne 34, 3, 0, 0, 0, 0), (37, .aload_n 0, 1, 0, 0, 0, 0), (38, .getfield 41, 3, 0, 8, 4, 0), (41, .istore 4, 2, 0, 0, 0, 0), (43, .aload_n 0, 1, 0, 0, 0, 0), (44, .invokevirtual 34, 3, 2, 133, 0, 0), (47, .aload_n 0, 1, 0, 0, 0, 0), (48, .iload_n 1, 1, 0, 0, 0, 0), (49, .invokevirtual 73, 3, 2, 160, 0, 0), (52, .istore_n 2, 1, 0, 0, 0, 0), (53, .aload_n 0, 1, 0, 0, 0, 0), (54, .getfield 18, 3, 0, 8, 2, 0), (57, .iload 4, 2, 0, 0, 0, 0), (59, .invokevirtual 61, 3, 2, 162, 0, 0), (62, .iinc 3 1, 3, 0, 0, 0, 0), (65, .goto (-57), 3, 0, 0, 0, 0), (68, .iload_n 2, 1, 0, 0, 0, 0), (69, .ireturn, 1, 0, 0, 0, 0)]
set_option maxRecDepth 100000 in
theorem sx_k159 : sx_c159.all (sx_chk 8 prog_10_method_11_code) = true := by decide +kernel
def sx_c160 : List sx_I := [(0, .aload_n 0, 1, 0, 0, 0, 0), (1, .getfield 41, 3, 0, 8, 4, 0), (4, .bipush 15, 2, 0, 0, 0, 0), (6, .if_icmp .ne 20, 3, 0, 0, 0, 0), (9, .aload_n 0, 1, 0, 0, 0, 0), (10, .getfield 18, 3, 0, 8, 2, 0), (13, .aload_n 0, 1, 0, 0, 0, 0), (14, .getfield 76, 3, 0, 8, 6, 0), (17, .invokevirtual 79, 3, 2, 161, 0, 0), (20, .aload_n 0, 1, 0, 0, 0, 0), (21, .invokevirtual 34, 3, 2, 133, 0, 0), (24, .iconst 1, 1, 0, 0, 0, 0), (25, .ireturn, 1, 0, 0, 0, 0), (26, .aload_n 0, 1, 0, 0, 0, 0), (27, .getfield 41, 3, 0, 8, 4, 0), (30, .bipush 9, 2, 0, 0, 0, 0), (32, .if_icmp .ge 20, 3, 0, 0, 0, 0), (35, .aload_n 0, 1, 0, 0, 0, 0), (36, .getfield 18, 3, 0, 8, 2, 0), (39, .aload_n 0, 1, 0, 0, 0, 0), (40, .getfield 41, 3, 0, 8, 4, 0), (43, .invokevirtual 61, 3, 2, 162, 0, 0), (46, .aload_n 0, 1, 0, 0, 0, 0), (47, .invokevirtual 34, 3, 2, 133, 0, 0), (50, .iconst 1, 1, 0, 0, 0, 0), (51, .ireturn, 1, 0, 0, 0, 0), (52, .aload_n 0, 1, 0, 0, 0, 0), (53, .getfield 41, 3, 0, 8, 4, 0), (56, .bipush 16, 2, 0, 0, 0, 0), (58, .if_icmp .ne 8, 3, 0, 0, 0, 0), (61, .iload_n 1, 1, 0, 0, 0, 0), (62, .iconst 4, 1, 0, 0, 0, 0), (63, .if_icmp .lt 5, 3, 0, 0, 0, 0), (66, .iconst 0, 1, 0, 0, 0, 0), (67, .ireturn, 1, 0, 0, 0, 0), (68, .aload_n 0, 1, 0, 0, 0, 0), (69, .invokevirtual 34, 3, 2, 133, 0, 0), (72, .aload_n 0, 1, 0, 0, 0, 0), (73, .iload_n 1, 1, 0, 0, 0, 0), (74, .iconst 1, 1, 0, 0, 0, 0), (75, .iadd, 1, 0, 0, 0, 0), (76, .invokevirtual 51, 3, 2, 155, 0, 0), (79, .ifCond .eq 12, 3, 0, 0, 0, 0), (82, .aload_n 0, 1, 0, 0, 0, 0), (83, .getfield 41, 3, 0, 8, 4, 0), (86, .bipush 17, 2, 0, 0, 0, 0), (88, .if_icmp .eq 5, 3, 0, 0, 0, 0), (91, .iconst 0, 1, 0, 0, 0, 0), (92, .ireturn, 1, 0, 0, 0, 0), (93, .aload_n 0, 1, 0, 0, 0, 0), (94, .invokevirtual 34, 3, 2, 133, 0, 0), (97, .iconst 1, 1, 0, 0, 0, 0), (98, .ireturn, 1, 0, 0, 0, 0)]
set_option maxRecDepth 100000 in
theorem sx_k160 : sx_c160.all (sx_chk 8 prog_10_method_12_code) = true := by decide +kernel
def sx_c161 : List sx_I := [(0, .aload_n 0, 1, 0, 0, 0, 0), (1, .getfield 22, 3, 0, 9, 3, 0), (4, .sipush 160, 3, 0, 0, 0, 0), (7, .if_icmp .ge 23, 3, 0, 0, 0, 0), (10, .aload_n 0, 1, 0, 0, 0, 0), (11, .getfield 9, 3, 0, 9, 1, 0), (14, .aload_n 0, 1, 0, 0, 0, 0), (15, .getfield 22, 3, 0, 9, 3, 0), (18, .iload_n 1, 1, 0, 0, 0, 0), (19, .iastore, 1, 0, 0, 0, 0), (20, .aload_n 0, 1, 0, 0, 0, 0), (21, .dup, 1, 0, 0, 0, 0), (22, .getfield 22, 3, 0, 9, 3, 0), (25, .iconst 1, 1, 0, 0, 0, 0), (26, .iadd, 1, 0, 0, 0, 0), (27, .putfield 22, 3, 0, 9, 3, 0), (30, .return_, 1, 0, 0, 0, 0)]
set_option maxRecDepth 100000 in
theorem sx_k161 : sx_c161.all (sx_chk 9 prog_11_method_4_code) = true := by decide +kernel
def sx_c162 : List sx_I := [(0, .aload_n 0, 1, 0, 0, 0, 0), (1, .iconst (-1), 1, 0, 0, 0, 0), (2, .iload_n 1, 1, 0, 0, 0, 0), (3, .isub, 1, 0, 0, 0, 0), (4, .invokevirtual 32, 3, 2, 161, 0, 0), (7, .return_, 1, 0, 0, 0, 0)]
set_option maxRecDepth 100000 in
theorem sx_k162 : sx_c162.all (sx_chk 9 prog_11_method_5_code) = true := by decide +kernel
def sx_c163 : List sx_I := [(0, .iload_n 1, 1, 0, 0, 0, 0), (1, .iconst 0, 1, 0, 0, 0, 0), (2, .iconst 2, 1, 0, 0, 0, 0), (3, .invokestatic 36, 3, 3, 14, 0, 0), (6, .ifCond .eq 13, 3, 0, 0, 0, 0), (9, .aload_n 0, 1, 0, 0, 0, 0), (10, .getfield 15, 3, 0, 9, 2, 0), (13, .iload_n 1, 1, 0, 0, 0, 0), (14, .aload_n 0, 1, 0, 0, 0, 0), (15, .getfield 22, 3, 0, 9, 3, 0), (18, .iastore, 1, 0, 0, 0, 0), (19, .return_, 1, 0, 0, 0, 0)]
set_option maxRecDepth 100000 in
theorem sx_k163 : sx_c163.all (sx_chk 9 prog_11_method_6_code) = true := by decide +kernel
def sx_c164 : List sx_I := [(0, .aload_n 0, 1, 0, 0, 0, 0), (1, .aload_n 1, 1, 0, 0, 0, 0), (2, .getfield 18, 3, 0, 9, 0, 0), (5, .putfield 18, 3, 0, 9, 0, 0), (8, .aload_n 0, 1, 0, 0, 0, 0), (9, .aload_n 1, 1, 0, 0, 0, 0), (10, .getfield 22, 3, 0, 9, 3, 0), (13, .putfield 22, 3, 0, 9, 3, 0), (16, .aload_n 1, 1, 0, 0, 0, 0), (17, .getfield 9, 3, 0, 9, 1, 0), (20, .iconst 0, 1, 0, 0, 0, 0), (21, .aload_n 0, 1, 0, 0, 0, 0), (22, .getfield 9, 3, 0, 9, 1, 0), (25, .iconst 0, 1, 0, 0, 0, 0), (26, .sipush 160, 3, 0, 0, 0, 0), (29, .invokestatic 26, 3, 9, 0, 0, 0), (32, .aload_n 1, 1, 0, 0, 0, 0), (33, .getfield 15, 3, 0, 9, 2, 0), (36, .iconst 0, 1, 0, 0, 0, 0), (37, .aload_n 0, 1, 0, 0, 0, 0), (38, .getfield 15, 3, 0, 9, 2, 0), (41, .iconst 0, 1, 0, 0, 0, 0), (42, .iconst 3, 1, 0, 0, 0, 0), (43, .invokestatic 26, 3, 9, 0, 0, 0), (46, .return_, 1, 0, 0, 0, 0)]
set_option maxRecDepth 100000 in
theorem sx_k164 : sx_c164.all (sx_chk 9 prog_11_method_2_code) = true := by decide +kernel
def sx_c165 : List sx_I := [(0, .iload_n 1, 1, 0, 0, 0, 0), (1, .invokestatic 319, 3, 2, 85, 0, 0), (4, .ifCond .eq 14, 3, 0, 0, 0, 0), (7, .aload_n 0, 1, 0, 0, 0, 0), (8, .getfield 10, 3, 0, 11, 0, 0), (11, .iload_n 2, 1, 0, 0, 0, 0), (12, .invokevirtual 89, 3, 2, 23, 0, 0), (15, .ifCond .ne 10, 3, 0, 0, 0, 0), (18, .aload_n 0, 1, 0, 0, 0, 0), (19, .ldc 63, 2, 6, 0, 0, -100001), (21, .invokevirtual 64, 3, 2, 15, 0, 0), (24, .ireturn, 1, 0, 0, 0, 0), (25, .aload_n 0, 1, 0, 0, 0, 0), (26, .getfield 10, 3, 0, 11, 0, 0), (29, .iload_n 1, 1, 0, 0, 0, 0), (30, .invokevirtual 325, 3, 2, 84, 0, 0), (33, .getfield 339, 3, 1, 9, 0, 0), (36, .ifCond .eq 17, 3, 0, 0, 0, 0), (39, .aload_n 0, 1, 0, 0, 0, 0), (40, .getfield 10, 3, 0, 11, 0, 0), (43, .iload_n 2, 1, 0, 0, 0, 0), (44, .invokevirtual 92, 3, 2, 20, 0, 0), (47, .getfield 137, 3, 1, 4, 6, 0), (50, .ifCond .eq 10, 3, 0, 0, 0, 0), (53, .aload_n 0, 1, 0, 0, 0, 0), (54, .ldc 140, 2, 6, 0, 0, -100006), (56, .invokevirtual 64, 3, 2, 15, 0, 0), (59, .ireturn, 1, 0, 0, 0, 0), (60, .aload_n 0, 1, 0, 0, 0, 0), (61, .getfield 10, 3, 0, 11, 0, 0), (64, .getfield 215, 3, 1, 10, 7, 0), (67, .getfield 342, 3, 1, 1, 8, 0), (70, .bipush 12, 2, 0, 0, 0, 0), (72, .if_icmp .lt 10, 3, 0, 0, 0, 0), (75, .aload_n 0, 1, 0, 0, 0, 0), (76, .ldc 84, 2, 6, 0, 0, -100005), (78, .invokevirtual 64, 3, 2, 15, 0, 0), (81, .ireturn, 1, 0, 0, 0, 0), (82, .aload_n 0, 1, 0, 0, 0, 0), (83, .getfield 10, 3, 0, 11, 0, 0), (86, .getfield 215, 3, 1, 10, 7, 0), (89, .iload_n 1, 1, 0, 0, 0, 0), (90, .aload_n 0, 1, 0, 0, 0, 0), (91, .getfield 10, 3, 0, 11, 0, 0), (94, .getfield 219, 3, 1, 10, 9, 0), (97, .aload_n 0, 1, 0, 0, 0, 0), (98, .invokevirtual 120, 3, 2, 26, 0, 0), (101, .iload_n 2, 1, 0, 0, 0, 0), (102, .invokevirtual 131, 3, 2, 34, 0, 0), (105, .invokevirtual 345, 3, 2, 166, 0, 0), (108, .ireturn, 1, 0, 0, 0, 0)]
set_option maxRecDepth 100000 in
theorem sx_k165 : sx_c165.all (sx_chk 11 prog_1_method_24_code) = true := by decide +kernel
def sx_c166 : List sx_I := [(0, .aload_n 0, 1, 0, 0, 0, 0), (1, .getfield 43, 3, 0, 1, 8, 0), (4, .istore 4, 2, 0, 0, 0, 0), (6, .iload 4, 2, 0, 0, 0, 0), (8, .bipush 12, 2, 0, 0, 0, 0), (10, .if_icmp .ge 39, 3, 0, 0, 0, 0), (13, .aload_n 0, 1, 0, 0, 0, 0), (14, .getfield 24, 3, 0, 1, 6, 0), (17, .iload 4, 2, 0, 0, 0, 0), (19, .iload_n 1, 1, 0, 0, 0, 0), (20, .iastore, 1, 0, 0, 0, 0), (21, .aload_n 0, 1, 0, 0, 0, 0), (22, .getfield 27, 3, 0, 1, 7, 0), (25, .iload 4, 2, 0, 0, 0, 0), (27, .iload_n 3, 1, 0, 0, 0, 0), (28, .iastore, 1, 0, 0, 0, 0), (29, .aload_n 0, 1, 0, 0, 0, 0), (30, .dup, 1, 0, 0, 0, 0), (31, .getfield 43, 3, 0, 1, 8, 0), (34, .iconst 1, 1, 0, 0, 0, 0), (35, .iadd, 1, 0, 0, 0, 0), (36, .putfield 43, 3, 0, 1, 8, 0), (39, .aload_n 0, 1, 0, 0, 0, 0), (40, .bipush 6, 2, 0, 0, 0, 0), (42, .iload 4, 2, 0, 0, 0, 0), (44, .iload_n 2, 1, 0, 0, 0, 0), (45, .iload_n 3, 1, 0, 0, 0, 0), (46, .invokevirtual 50, 3, 2, 62, 0, 0), (49, .iload 4, 2, 0, 0, 0, 0), (51, .ireturn, 1, 0, 0, 0, 0)]
set_option maxRecDepth 100000 in
theorem sx_k166 : sx_c166.all (sx_chk 1 prog_3_method_6_code) = true := by decide +kernel
def sx_c167 : List sx_I := [(0, .aload_n 0, 1, 0, 0, 0, 0), (1, .getfield 10, 3, 0, 11, 0, 0), (4, .iload_n 1, 1, 0, 0, 0, 0), (5, .invokevirtual 89, 3, 2, 23, 0, 0), (8, .ifCond .ne 10, 3, 0, 0, 0, 0), (11, .aload_n 0, 1, 0, 0, 0, 0), (12, .ldc 63, 2, 6, 0, 0, -100001), (14, .invokevirtual 64, 3, 2, 15, 0, 0), (17, .ireturn, 1, 0, 0, 0, 0), (18, .aload_n 0, 1, 0, 0, 0, 0), (19, .iload_n 1, 1, 0, 0, 0, 0), (20, .invokevirtual 348, 3, 2, 168, 0, 0), (23, .istore_n 2, 1, 0, 0, 0, 0), (24, .iload_n 2, 1, 0, 0, 0, 0), (25, .ifCond .ge 12, 3, 0, 0, 0, 0), (28, .aload_n 0, 1, 0, 0, 0, 0), (29, .ldc 140, 2, 6, 0, 0, -100006), (31, .invokevirtual 64, 3, 2, 15, 0, 0), (34, .goto 4, 3, 0, 0, 0, 0), (37, .iload_n 2, 1, 0, 0, 0, 0), (38, .ireturn, 1, 0, 0, 0, 0)]
set_option maxRecDepth 100000 in
theorem sx_k167 : sx_c167.all (sx_chk 11 prog_1_method_25_code) = true := by decide +kernel
def sx_c168 : List sx_I := [(0, .aload_n 0, 1, 0, 0, 0, 0), (1, .invokevirtual 120, 3, 2, 26, 0, 0), (4, .iload_n 1, 1, 0, 0, 0, 0), (5, .invokevirtual 131, 3, 2, 34, 0, 0), (8, .istore_n 2, 1, 0, 0, 0, 0), (9, .aload_n 0, 1, 0, 0, 0, 0), (10, .getfield 10, 3, 0, 11, 0, 0), (13, .iload_n 1, 1, 0, 0, 0, 0), (14, .invokevirtual 92, 3, 2, 20, 0, 0), (17, .getfield 137, 3, 1, 4, 6, 0), (20, .ifCond .eq 7, 3, 0, 0, 0, 0), (23, .iconst (-1), 1, 0, 0, 0, 0), (24, .goto 14, 3, 0, 0, 0, 0), (27, .aload_n 0, 1, 0, 0, 0, 0), (28, .getfield 10, 3, 0, 11, 0, 0), (31, .getfield 215, 3, 1, 10, 7, 0), (34, .iload_n 2, 1, 0, 0, 0, 0), (35, .invokevirtual 241, 3, 2, 67, 0, 0), (38, .ireturn, 1, 0, 0, 0, 0)]
set_option maxRecDepth 100000 in
theorem sx_k168 : sx_c168.all (sx_chk 11 prog_1_method_44_code) = true := by decide +kernel
def sx_c169 : List sx_I := [(0, .aload_n 0, 1, 0, 0, 0, 0), (1, .getfield 10, 3, 0, 11, 0, 0), (4, .iload_n 1, 1, 0, 0, 0, 0), (5, .invokevirtual 232, 3, 2, 66, 0, 0), (8, .ifCond .eq 10, 3, 0, 0, 0, 0), (11, .iload_n 2, 1, 0, 0, 0, 0), (12, .invokestatic 274, 3, 2, 95, 0, 0), (15, .ifCond .ne 10, 3, 0, 0, 0, 0), (18, .aload_n 0, 1, 0, 0, 0, 0), (19, .ldc 63, 2, 6, 0, 0, -100001), (21, .invokevirtual 64, 3, 2, 15, 0, 0), (24, .ireturn, 1, 0, 0, 0, 0), (25, .aload_n 0, 1, 0, 0, 0, 0), (26, .getfield 10, 3, 0, 11, 0, 0), (29, .iload_n 1, 1, 0, 0, 0, 0), (30, .invokevirtual 205, 3, 2, 31, 0, 0), (33, .astore_n 3, 1, 0, 0, 0, 0), (34, .aload_n 3, 1, 0, 0, 0, 0), (35, .getfield 235, 3, 1, 5, 7, 0), (38, .ifCond .eq 14, 3, 0, 0, 0, 0), (41, .aload_n 0, 1, 0, 0, 0, 0), (42, .aload_n 3, 1, 0, 0, 0, 0), (43, .getfield 238, 3, 1, 5, 0, 0), (46, .invokevirtual 348, 3, 2, 168, 0, 0), (49, .goto 4, 3, 0, 0, 0, 0), (52, .iconst (-1), 1, 0, 0, 0, 0), (53, .istore 4, 2, 0, 0, 0, 0), (55, .aload_n 0, 1, 0, 0, 0, 0), (56, .iload 4, 2, 0, 0, 0, 0), (58, .ifCond .ge 8, 3, 0, 0, 0, 0), (61, .ldc 140, 2, 6, 0, 0, -100006), (63, .goto 11, 3, 0, 0, 0, 0), (66, .aload_n 0, 1, 0, 0, 0, 0), (67, .iload 4, 2, 0, 0, 0, 0), (69, .iload_n 1, 1, 0, 0, 0, 0), (70, .iload_n 2, 1, 0, 0, 0, 0), (71, .invokevirtual 244, 3, 2, 68, 0, 0), (74, .invokevirtual 64, 3, 2, 15, 0, 0), (77, .ireturn, 1, 0, 0, 0, 0)]
set_option maxRecDepth 100000 in
theorem sx_k169 : sx_c169.all (sx_chk 11 prog_1_method_26_code) = true := by decide +kernel
def sx_c170 : List sx_I := [(0, .aload_n 0, 1, 0, 0, 0, 0), (1, .getfield 10, 3, 0, 11, 0, 0), (4, .iload_n 1, 1, 0, 0, 0, 0), (5, .invokevirtual 89, 3, 2, 23, 0, 0), (8, .ifCond .eq 14, 3, 0, 0, 0, 0), (11, .aload_n 0, 1, 0, 0, 0, 0), (12, .getfield 10, 3, 0, 11, 0, 0), (15, .iload_n 2, 1, 0, 0, 0, 0), (16, .invokevirtual 89, 3, 2, 23, 0, 0), (19, .ifCond .ne 10, 3, 0, 0, 0, 0), (22, .aload_n 0, 1, 0, 0, 0, 0), (23, .ldc 63, 2, 6, 0, 0, -100001), (25, .invokevirtual 64, 3, 2, 15, 0, 0), (28, .ireturn, 1, 0, 0, 0, 0), (29, .iload_n 1, 1, 0, 0, 0, 0), (30, .iload_n 2, 1, 0, 0, 0, 0), (31, .if_icmp .ne 10, 3, 0, 0, 0, 0), (34, .aload_n 0, 1, 0, 0, 0, 0), (35, .ldc 148, 2, 6, 0, 0, -100003), (37, .invokevirtual 64, 3, 2, 15, 0, 0), (40, .ireturn, 1, 0, 0, 0, 0), (41, .aload_n 0, 1, 0, 0, 0, 0), (42, .getfield 10, 3, 0, 11, 0, 0), (45, .iload_n 2, 1, 0, 0, 0, 0), (46, .invokevirtual 92, 3, 2, 20, 0, 0), (49, .getfield 137, 3, 1, 4, 6, 0), (52, .ifCond .eq 7, 3, 0, 0, 0, 0), (55, .iconst (-1), 1, 0, 0, 0, 0), (56, .goto 8, 3, 0, 0, 0, 0), (59, .aload_n 0, 1, 0, 0, 0, 0), (60, .iload_n 1, 1, 0, 0, 0, 0), (61, .invokevirtual 348, 3, 2, 168, 0, 0), (64, .istore_n 3, 1, 0, 0, 0, 0), (65, .iload_n 3, 1, 0, 0, 0, 0), (66, .ifCond .ge 10, 3, 0, 0, 0, 0), (69, .aload_n 0, 1, 0, 0, 0, 0), (70, .ldc 140, 2, 6, 0, 0, -100006), (72, .invokevirtual 64, 3, 2, 15, 0, 0), (75, .ireturn, 1, 0, 0, 0, 0), (76, .aload_n 0, 1, 0, 0, 0, 0), (77, .getfield 47, 3, 0, 11, 6, 0), (80, .aload_n 0, 1, 0, 0, 0, 0), (81, .getfield 10, 3, 0, 11, 0, 0), (84, .iload_n 1, 1, 0, 0, 0, 0), (85, .iload_n 2, 1, 0, 0, 0, 0), (86, .aload_n 0, 1, 0, 0, 0, 0), (87, .getfield 40, 3, 0, 11, 5, 0), (90, .iload_n 1, 1, 0, 0, 0, 0), (91, .invokevirtual 131, 3, 2, 34, 0, 0), (94, .aload_n 0, 1, 0, 0, 0, 0), (95, .getfield 40, 3, 0, 11, 5, 0), (98, .iload_n 2, 1, 0, 0, 0, 0), (99, .invokevirtual 131, 3, 2, 34, 0, 0), (102, .ior, 1, 0, 0, 0, 0), (103, .invokevirtual 351, 3, 2, 171, 0, 0), (106, .aload_n 0, 1, 0, 0, 0, 0), (107, .aload_n 0, 1, 0, 0, 0, 0), (108, .getfield 47, 3, 0, 11, 6, 0), (111, .aload_n 0, 1, 0, 0, 0, 0), (112, .getfield 10, 3, 0, 11, 0, 0), (115, .iload_n 3, 1, 0, 0, 0, 0), (116, .invokevirtual 355, 3, 2, 82, 0, 0), (119, .iconst 0, 1, 0, 0, 0, 0), (120, .invokevirtual 358, 3, 2, 86, 0, 0), (123, .invokevirtual 64, 3, 2, 15, 0, 0), (126, .ireturn, 1, 0, 0, 0, 0)]
set_option maxRecDepth 100000 in
theorem sx_k170 : sx_c170.all (sx_chk 11 prog_1_method_27_code) = true := by decide +kernel
def sx_c171 : List sx_I := [(0, .aload_n 0, 1, 0, 0, 0, 0), (1, .invokevirtual 24, 3, 2, 70, 0, 0), (4, .aload_n 0, 1, 0, 0, 0, 0), (5, .getfield 9, 3, 0, 0, 0, 0), (8, .iconst 4, 1, 0, 0, 0, 0), (9, .aload_n 1, 1, 0, 0, 0, 0), (10, .iload_n 2, 1, 0, 0, 0, 0), (11, .iload_n 3, 1, 0, 0, 0, 0), (12, .invokevirtual 52, 3, 2, 74, 0, 0), (15, .iastore, 1, 0, 0, 0, 0), (16, .aload_n 0, 1, 0, 0, 0, 0), (17, .aload_n 1, 1, 0, 0, 0, 0), (18, .iload 4, 2, 0, 0, 0, 0), (20, .invokevirtual 60, 3, 2, 79, 0, 0), (23, .return_, 1, 0, 0, 0, 0)]
set_option maxRecDepth 100000 in
theorem sx_k171 : sx_c171.all (sx_chk 0 prog_2_method_4_code) = true := by decide +kernel
def sx_c172 : List sx_I := [(0, .aload_n 0, 1, 0, 0, 0, 0), (1, .getfield 10, 3, 0, 11, 0, 0), (4, .iload_n 1, 1, 0, 0, 0, 0), (5, .invokevirtual 89, 3, 2, 23, 0, 0), (8, .ifCond .ne 10, 3, 0, 0, 0, 0), (11, .aload_n 0, 1, 0, 0, 0, 0), (12, .ldc 63, 2, 6, 0, 0, -100001), (14, .invokevirtual 64, 3, 2, 15, 0, 0), (17, .ireturn, 1, 0, 0, 0, 0), (18, .aload_n 0, 1, 0, 0, 0, 0), (19, .iload_n 1, 1, 0, 0, 0, 0), (20, .invokevirtual 348, 3, 2, 168, 0, 0), (23, .istore_n 2, 1, 0, 0, 0, 0), (24, .iload_n 2, 1, 0, 0, 0, 0), (25, .ifCond .ge 10, 3, 0, 0, 0, 0), (28, .aload_n 0, 1, 0, 0, 0, 0), (29, .ldc 140, 2, 6, 0, 0, -100006), (31, .invokevirtual 64, 3, 2, 15, 0, 0), (34, .ireturn, 1, 0, 0, 0, 0), (35, .aload_n 0, 1, 0, 0, 0, 0), (36, .getfield 40, 3, 0, 11, 5, 0), (39, .iload_n 1, 1, 0, 0, 0, 0), (40, .invokevirtual 131, 3, 2, 34, 0, 0), (43, .istore_n 3, 1, 0, 0, 0, 0), (44, .iconst (-1), 1, 0, 0, 0, 0), (45, .istore 4, 2, 0, 0, 0, 0), (47, .iconst 0, 1, 0, 0, 0, 0), (48, .istore 5, 2, 0, 0, 0, 0), (50, .iconst 0, 1, 0, 0, 0, 0), (51, .istore 6, 2, 0, 0, 0, 0), (53, .iload 6, 2, 0, 0, 0, 0), (55, .aload_n 0, 1, 0, 0, 0, 0), (56, .getfield 10, 3, 0, 11, 0, 0), (59, .getfield 162, 3, 1, 10, 4, 0), (62, .if_icmp .ge 77, 3, 0, 0, 0, 0), (65, .aload_n 0, 1, 0, 0, 0, 0), (66, .getfield 10, 3, 0, 11, 0, 0), (69, .iload 6, 2, 0, 0, 0, 0), (71, .invokevirtual 171, 3, 2, 30, 0, 0), (74, .iload_n 3, 1, 0, 0, 0, 0), (75, .invokevirtual 362, 3, 2, 76, 0, 0), (78, .ifCond .eq 55, 3, 0, 0, 0, 0), (81, .aload_n 0, 1, 0, 0, 0, 0), (82, .getfield 47, 3, 0, 11, 6, 0), (85, .aload_n 0, 1, 0, 0, 0, 0), (86, .getfield 10, 3, 0, 11, 0, 0), (89, .iload 6, 2, 0, 0, 0, 0), (91, .iload_n 3, 1, 0, 0, 0, 0), (92, .invokevirtual 365, 3, 2, 173, 0, 0), (95, .aload_n 0, 1, 0, 0, 0, 0), (96, .getfield 47, 3, 0, 11, 6, 0), (99, .aload_n 0, 1, 0, 0, 0, 0), (100, .getfield 10, 3, 0, 11, 0, 0), (103, .iload_n 2, 1, 0, 0, 0, 0), (104, .invokevirtual 355, 3, 2, 82, 0, 0), (107, .iconst 2, 1, 0, 0, 0, 0), (108, .invokevirtual 358, 3, 2, 86, 0, 0), (111, .istore 7, 2, 0, 0, 0, 0), (113, .iload 4, 2, 0, 0, 0, 0), (115, .ifCond .lt 10, 3, 0, 0, 0, 0), (118, .iload 7, 2, 0, 0, 0, 0), (120, .iload 5, 2, 0, 0, 0, 0), (122, .if_icmp .le 11, 3, 0, 0, 0, 0), (125, .iload 6, 2, 0, 0, 0, 0), (127, .istore 4, 2, 0, 0, 0, 0), (129, .iload 7, 2, 0, 0, 0, 0), (131, .istore 5, 2, 0, 0, 0, 0), (133, .iinc 6 1, 3, 0, 0, 0, 0), (136, .goto (-83), 3, 0, 0, 0, 0), (139, .iload 4, 2, 0, 0, 0, 0), (141, .ifCond .ge 12, 3, 0, 0, 0, 0), (144, .aload_n 0, 1, 0, 0, 0, 0), (145, .ldc 140, 2, 6, 0, 0, -100006), (147, .invokevirtual 64, 3, 2, 15, 0, 0), (150, .goto 5, 3, 0, 0, 0, 0), (153, .iload 4, 2, 0, 0, 0, 0), (155, .ireturn, 1, 0, 0, 0, 0)]
set_option maxRecDepth 100000 in
theorem sx_k172 : sx_c172.all (sx_chk 11 prog_1_method_28_code) = true := by decide +kernel
def sx_c173 : List sx_I := [(0, .aload_n 0, 1, 0, 0, 0, 0), (1, .invokevirtual 24, 3, 2, 70, 0, 0), (4, .aload_n 0, 1, 0, 0, 0, 0), (5, .getfield 9, 3, 0, 0, 0, 0), (8, .iconst 4, 1, 0, 0, 0, 0), (9, .aload_n 1, 1, 0, 0, 0, 0), (10, .iload_n 2, 1, 0, 0, 0, 0), (11, .invokevirtual 64, 3, 2, 53, 0, 0), (14, .aload_n 1, 1, 0, 0, 0, 0), (15, .iload_n 3, 1, 0, 0, 0, 0), (16, .invokevirtual 67, 3, 2, 75, 0, 0), (19, .iand, 1, 0, 0, 0, 0), (20, .invokestatic 70, 3, 2, 78, 0, 0), (23, .iastore, 1, 0, 0, 0, 0), (24, .aload_n 0, 1, 0, 0, 0, 0), (25, .aload_n 1, 1, 0, 0, 0, 0), (26, .iload_n 3, 1, 0, 0, 0, 0), (27, .invokevirtual 60, 3, 2, 79, 0, 0), (30, .aload_n 0, 1, 0, 0, 0, 0), (31, .getfield 9, 3, 0, 0, 0, 0), (34, .bipush 8, 2, 0, 0, 0, 0), (36, .aload_n 1, 1, 0, 0, 0, 0), (37, .iload_n 2, 1, 0, 0, 0, 0), (38, .invokevirtual 75, 3, 2, 30, 0, 0), (41, .getfield 79, 3, 1, 3, 1, 0), (44, .iastore, 1, 0, 0, 0, 0), (45, .return_, 1, 0, 0, 0, 0)]
set_option maxRecDepth 100000 in
theorem sx_k173 : sx_c173.all (sx_chk 0 prog_2_method_5_code) = true := by decide +kernel
def sx_c174 : List sx_I := [(0, .iload_n 1, 1, 0, 0, 0, 0), (1, .iconst (-1), 1, 0, 0, 0, 0), (2, .if_icmp .ne 14, 3, 0, 0, 0, 0), (5, .aload_n 0, 1, 0, 0, 0, 0), (6, .getfield 10, 3, 0, 11, 0, 0), (9, .getfield 215, 3, 1, 10, 7, 0), (12, .getfield 369, 3, 1, 1, 5, 0), (15, .ireturn, 1, 0, 0, 0, 0), (16, .aload_n 0, 1, 0, 0, 0, 0), (17, .getfield 10, 3, 0, 11, 0, 0), (20, .iload_n 1, 1, 0, 0, 0, 0), (21, .invokevirtual 89, 3, 2, 23, 0, 0), (24, .ifCond .ne 10, 3, 0, 0, 0, 0), (27, .aload_n 0, 1, 0, 0, 0, 0), (28, .ldc 63, 2, 6, 0, 0, -100001), (30, .invokevirtual 64, 3, 2, 15, 0, 0), (33, .ireturn, 1, 0, 0, 0, 0), (34, .aload_n 0, 1, 0, 0, 0, 0), (35, .getfield 10, 3, 0, 11, 0, 0), (38, .getfield 215, 3, 1, 10, 7, 0), (41, .iconst 1, 1, 0, 0, 0, 0), (42, .iload_n 1, 1, 0, 0, 0, 0), (43, .ishl, 1, 0, 0, 0, 0), (44, .invokevirtual 372, 3, 2, 175, 0, 0), (47, .ireturn, 1, 0, 0, 0, 0)]
set_option maxRecDepth 100000 in
theorem sx_k174 : sx_c174.all (sx_chk 11 prog_1_method_29_code) = true := by decide +kernel
def sx_c175 : List sx_I := [(0, .iconst 0, 1, 0, 0, 0, 0), (1, .istore_n 2, 1, 0, 0, 0, 0), (2, .iconst 0, 1, 0, 0, 0, 0), (3, .istore_n 3, 1, 0, 0, 0, 0), (4, .iload_n 3, 1, 0, 0, 0, 0), (5, .bipush 40, 2, 0, 0, 0, 0), (7, .if_icmp .ge 23, 3, 0, 0, 0, 0), (10, .aload_n 0, 1, 0, 0, 0, 0), (11, .getfield 21, 3, 0, 1, 3, 0), (14, .iload_n 3, 1, 0, 0, 0, 0), (15, .iaload, 1, 0, 0, 0, 0), (16, .iload_n 1, 1, 0, 0, 0, 0), (17, .iand, 1, 0, 0, 0, 0), (18, .ifCond .eq 6, 3, 0, 0, 0, 0), (21, .iinc 2 1, 3, 0, 0, 0, 0), (24, .iinc 3 1, 3, 0, 0, 0, 0), (27, .goto (-23), 3, 0, 0, 0, 0), (30, .iload_n 2, 1, 0, 0, 0, 0), (31, .ireturn, 1, 0, 0, 0, 0)]
set_option maxRecDepth 100000 in
theorem sx_k175 : sx_c175.all (sx_chk 1 prog_3_method_8_code) = true := by decide +kernel
def sx_c176 : List sx_I := [(0, .iload_n 1, 1, 0, 0, 0, 0), (1, .iconst 0, 1, 0, 0, 0, 0), (2, .aload_n 0, 1, 0, 0, 0, 0), (3, .getfield 10, 3, 0, 11, 0, 0), (6, .getfield 215, 3, 1, 10, 7, 0), (9, .getfield 369, 3, 1, 1, 5, 0), (12, .iconst 1, 1, 0, 0, 0, 0), (13, .isub, 1, 0, 0, 0, 0), (14, .invokestatic 59, 3, 2, 14, 0, 0), (17, .ifCond .eq 12, 3, 0, 0, 0, 0), (20, .iload_n 2, 1, 0, 0, 0, 0), (21, .iconst 0, 1, 0, 0, 0, 0), (22, .iconst 3, 1, 0, 0, 0, 0), (23, .invokestatic 59, 3, 2, 14, 0, 0), (26, .ifCond .ne 10, 3, 0, 0, 0, 0), (29, .aload_n 0, 1, 0, 0, 0, 0), (30, .ldc 63, 2, 6, 0, 0, -100001), (32, .invokevirtual 64, 3, 2, 15, 0, 0), (35, .ireturn, 1, 0, 0, 0, 0), (36, .aload_n 0, 1, 0, 0, 0, 0), (37, .getfield 10, 3, 0, 11, 0, 0), (40, .getfield 215, 3, 1, 10, 7, 0), (43, .iload_n 1, 1, 0, 0, 0, 0), (44, .iload_n 2, 1, 0, 0, 0, 0), (45, .invokevirtual 375, 3, 2, 177, 0, 0), (48, .ireturn, 1, 0, 0, 0, 0)]
set_option maxRecDepth 100000 in
theorem sx_k176 : sx_c176.all (sx_chk 11 prog_1_method_30_code) = true := by decide +kernel
def sx_c177 : List sx_I := [(0, .aload_n 0, 1, 0, 0, 0, 0), (1, .iload_n 1, 1, 0, 0, 0, 0), (2, .invokevirtual 46, 3, 2, 63, 0, 0), (5, .istore_n 3, 1, 0, 0, 0, 0), (6, .iload_n 2, 1, 0, 0, 0, 0), (7, .tableswitch 46 0 2 #[25, 32, 39], 25, 0, 0, 0, 0), (32, .aload_n 0, 1, 0, 0, 0, 0), (33, .getfield 9, 3, 0, 1, 0, 0), (36, .iload_n 3, 1, 0, 0, 0, 0), (37, .iaload, 1, 0, 0, 0, 0), (38, .ireturn, 1, 0, 0, 0, 0), (39, .aload_n 0, 1, 0, 0, 0, 0), (40, .getfield 15, 3, 0, 1, 1, 0), (43, .iload_n 3, 1, 0, 0, 0, 0), (44, .iaload, 1, 0, 0, 0, 0), (45, .ireturn, 1, 0, 0, 0, 0), (46, .aload_n 0, 1, 0, 0, 0, 0), (47, .getfield 18, 3, 0, 1, 2, 0), (50, .iload_n 3, 1, 0, 0, 0, 0), (51, .iaload, 1, 0, 0, 0, 0), (52, .ireturn, 1, 0, 0, 0, 0), (53, .aload_n 0, 1, 0, 0, 0, 0), (54, .getfield 21, 3, 0, 1, 3, 0), (57, .iload_n 3, 1, 0, 0, 0, 0), (58, .iaload, 1, 0, 0, 0, 0), (59, .ireturn, 1, 0, 0, 0, 0)]
set_option maxRecDepth 100000 in
theorem sx_k177 : sx_c177.all (sx_chk 1 prog_3_method_4_code) = true := by decide +kernel
def sx_c178 : List sx_I := [(0, .aload_n 0, 1, 0, 0, 0, 0), (1, .getfield 10, 3, 0, 11, 0, 0), (4, .iload_n 1, 1, 0, 0, 0, 0), (5, .invokevirtual 89, 3, 2, 23, 0, 0), (8, .ifCond .eq 10, 3, 0, 0, 0, 0), (11, .iload_n 2, 1, 0, 0, 0, 0), (12, .invokestatic 274, 3, 2, 95, 0, 0), (15, .ifCond .ne 10, 3, 0, 0, 0, 0), (18, .aload_n 0, 1, 0, 0, 0, 0), (19, .ldc 63, 2, 6, 0, 0, -100001), (21, .invokevirtual 64, 3, 2, 15, 0, 0), (24, .ireturn, 1, 0, 0, 0, 0), (25, .aload_n 0, 1, 0, 0, 0, 0), (26, .getfield 10, 3, 0, 11, 0, 0), (29, .iload_n 1, 1, 0, 0, 0, 0), (30, .invokevirtual 92, 3, 2, 20, 0, 0), (33, .getfield 137, 3, 1, 4, 6, 0), (36, .ifCond .eq 10, 3, 0, 0, 0, 0), (39, .aload_n 0, 1, 0, 0, 0, 0), (40, .ldc 140, 2, 6, 0, 0, -100006), (42, .invokevirtual 64, 3, 2, 15, 0, 0), (45, .ireturn, 1, 0, 0, 0, 0), (46, .aload_n 0, 1, 0, 0, 0, 0), (47, .invokevirtual 120, 3, 2, 26, 0, 0), (50, .iconst 1, 1, 0, 0, 0, 0), (51, .iload_n 1, 1, 0, 0, 0, 0), (52, .ishl, 1, 0, 0, 0, 0), (53, .iload_n 2, 1, 0, 0, 0, 0), (54, .invokevirtual 378, 3, 2, 179, 0, 0), (57, .istore_n 3, 1, 0, 0, 0, 0), (58, .iload_n 3, 1, 0, 0, 0, 0), (59, .ifCond .ge 12, 3, 0, 0, 0, 0), (62, .aload_n 0, 1, 0, 0, 0, 0), (63, .ldc 140, 2, 6, 0, 0, -100006), (65, .invokevirtual 64, 3, 2, 15, 0, 0), (68, .goto 4, 3, 0, 0, 0, 0), (71, .iload_n 3, 1, 0, 0, 0, 0), (72, .ireturn, 1, 0, 0, 0, 0)]
set_option maxRecDepth 100000 in
theorem sx_k178 : sx_c178.all (sx_chk 11 prog_1_method_31_code) = true := by decide +kernel
def sx_c179 : List sx_I := [(0, .aload_n 0, 1, 0, 0, 0, 0), (1, .iload_n 1, 1, 0, 0, 0, 0), (2, .aload_n 0, 1, 0, 0, 0, 0), (3, .getfield 64, 3, 0, 2, 4, 0), (6, .invokevirtual 94, 3, 2, 35, 0, 0), (9, .istore_n 3, 1, 0, 0, 0, 0), (10, .aload_n 0, 1, 0, 0, 0, 0), (11, .iload_n 3, 1, 0, 0, 0, 0), (12, .invokevirtual 123, 3, 2, 180, 0, 0), (15, .istore 4, 2, 0, 0, 0, 0), (17, .iload 4, 2, 0, 0, 0, 0), (19, .aload_n 0, 1, 0, 0, 0, 0), (20, .iload_n 2, 1, 0, 0, 0, 0), (21, .invokevirtual 126, 3, 2, 181, 0, 0), (24, .iconst (-1), 1, 0, 0, 0, 0), (25, .ixor, 1, 0, 0, 0, 0), (26, .iand, 1, 0, 0, 0, 0), (27, .istore 5, 2, 0, 0, 0, 0), (29, .aload_n 0, 1, 0, 0, 0, 0), (30, .iload 4, 2, 0, 0, 0, 0), (32, .invokevirtual 129, 3, 2, 184, 0, 0), (35, .istore 6, 2, 0, 0, 0, 0), (37, .bipush 13, 2, 0, 0, 0, 0), (39, .istore 7, 2, 0, 0, 0, 0), (41, .iconst (-1), 1, 0, 0, 0, 0), (42, .istore 8, 2, 0, 0, 0, 0), (44, .iconst 0, 1, 0, 0, 0, 0), (45, .istore 9, 2, 0, 0, 0, 0), (47, .iload 9, 2, 0, 0, 0, 0), (49, .iload 5, 2, 0, 0, 0, 0), (51, .if_icmp .gt 72, 3, 0, 0, 0, 0), (54, .iload 9, 2, 0, 0, 0, 0), (56, .invokestatic 132, 3, 2, 78, 0, 0), (59, .istore 10, 2, 0, 0, 0, 0), (61, .iload 9, 2, 0, 0, 0, 0), (63, .iload 5, 2, 0, 0, 0, 0), (65, .iconst (-1), 1, 0, 0, 0, 0), (66, .ixor, 1, 0, 0, 0, 0), (67, .iand, 1, 0, 0, 0, 0), (68, .ifCond .ne 49, 3, 0, 0, 0, 0), (71, .iload 6, 2, 0, 0, 0, 0), (73, .iload 9, 2, 0, 0, 0, 0), (75, .iconst (-1), 1, 0, 0, 0, 0), (76, .ixor, 1, 0, 0, 0, 0), (77, .iand, 1, 0, 0, 0, 0), (78, .ifCond .ne 39, 3, 0, 0, 0, 0), (81, .iload 10, 2, 0, 0, 0, 0), (83, .iload 7, 2, 0, 0, 0, 0), (85, .if_icmp .ge 32, 3, 0, 0, 0, 0), (88, .aload_n 0, 1, 0, 0, 0, 0), (89, .iload_n 1, 1, 0, 0, 0, 0), (90, .iload 9, 2, 0, 0, 0, 0), (92, .invokevirtual 94, 3, 2, 35, 0, 0), (95, .iload_n 3, 1, 0, 0, 0, 0), (96, .if_icmp .ne 21, 3, 0, 0, 0, 0), (99, .aload_n 0, 1, 0, 0, 0, 0), (100, .iload 9, 2, 0, 0, 0, 0), (102, .iload_n 2, 1, 0, 0, 0, 0), (103, .invokevirtual 137, 3, 2, 185, 0, 0), (106, .ifCond .eq 11, 3, 0, 0, 0, 0), (109, .iload 10, 2, 0, 0, 0, 0), (111, .istore 7, 2, 0, 0, 0, 0), (113, .iload 9, 2, 0, 0, 0, 0), (115, .istore 8, 2, 0, 0, 0, 0), (117, .iinc 9 1, 3, 0, 0, 0, 0), (120, .goto (-73), 3, 0, 0, 0, 0), (123, .iload 8, 2, 0, 0, 0, 0), (125, .ireturn, 1, 0, 0, 0, 0)]
set_option maxRecDepth 100000 in
theorem sx_k179 : sx_c179.all (sx_chk 2 prog_4_method_21_code) = true := by decide +kernel
end
section
/-! ===== printed by wip/gen_code.py: the methods' instructions ===== -/
def sx_c180 : List sx_I := [(0, .iconst 0, 1, 0, 0, 0, 0), (1, .istore_n 2, 1, 0, 0, 0, 0), (2, .iconst 0, 1, 0, 0, 0, 0), (3, .istore_n 3, 1, 0, 0, 0, 0), (4, .iload_n 3, 1, 0, 0, 0, 0), (5, .bipush 12, 2, 0, 0, 0, 0), (7, .if_icmp .ge 37, 3, 0, 0, 0, 0), (10, .aload_n 0, 1, 0, 0, 0, 0), (11, .getfield 64, 3, 0, 2, 4, 0), (14, .iload_n 3, 1, 0, 0, 0, 0), (15, .invokestatic 100, 3, 3, 44, 0, 0), (18, .ifCond .eq 20, 3, 0, 0, 0, 0), (21, .aload_n 0, 1, 0, 0, 0, 0), (22, .getfield 9, 3, 0, 2, 0, 0), (25, .iload_n 3, 1, 0, 0, 0, 0), (26, .iaload, 1, 0, 0, 0, 0), (27, .iload_n 1, 1, 0, 0, 0, 0), (28, .iand, 1, 0, 0, 0, 0), (29, .ifCond .eq 9, 3, 0, 0, 0, 0), (32, .iload_n 2, 1, 0, 0, 0, 0), (33, .iconst 1, 1, 0, 0, 0, 0), (34, .iload_n 3, 1, 0, 0, 0, 0), (35, .ishl, 1, 0, 0, 0, 0), (36, .ior, 1, 0, 0, 0, 0), (37, .istore_n 2, 1, 0, 0, 0, 0), (38, .iinc 3 1, 3, 0, 0, 0, 0), (41, .goto (-37), 3, 0, 0, 0, 0), (44, .iload_n 2, 1, 0, 0, 0, 0), (45, .ireturn, 1, 0, 0, 0, 0)]
set_option maxRecDepth 100000 in
theorem sx_k180 : sx_c180.all (sx_chk 2 prog_4_method_20_code) = true := by decide +kernel
def sx_c181 : List sx_I := [(0, .iconst 0, 1, 0, 0, 0, 0), (1, .istore_n 2, 1, 0, 0, 0, 0), (2, .iconst 0, 1, 0, 0, 0, 0), (3, .istore_n 3, 1, 0, 0, 0, 0), (4, .iload_n 3, 1, 0, 0, 0, 0), (5, .bipush 12, 2, 0, 0, 0, 0), (7, .if_icmp .ge 37, 3, 0, 0, 0, 0), (10, .aload_n 0, 1, 0, 0, 0, 0), (11, .aload_n 0, 1, 0, 0, 0, 0), (12, .getfield 64, 3, 0, 2, 4, 0), (15, .iload_n 2, 1, 0, 0, 0, 0), (16, .iconst (-1), 1, 0, 0, 0, 0), (17, .ixor, 1, 0, 0, 0, 0), (18, .iand, 1, 0, 0, 0, 0), (19, .iload_n 1, 1, 0, 0, 0, 0), (20, .invokevirtual 120, 3, 2, 182, 0, 0), (23, .istore 4, 2, 0, 0, 0, 0), (25, .iload 4, 2, 0, 0, 0, 0), (27, .ifCond .ne 6, 3, 0, 0, 0, 0), (30, .goto 14, 3, 0, 0, 0, 0), (33, .iload_n 2, 1, 0, 0, 0, 0), (34, .iload 4, 2, 0, 0, 0, 0), (36, .ior, 1, 0, 0, 0, 0), (37, .istore_n 2, 1, 0, 0, 0, 0), (38, .iinc 3 1, 3, 0, 0, 0, 0), (41, .goto (-37), 3, 0, 0, 0, 0), (44, .iload_n 2, 1, 0, 0, 0, 0), (45, .ireturn, 1, 0, 0, 0, 0)]
set_option maxRecDepth 100000 in
theorem sx_k181 : sx_c181.all (sx_chk 2 prog_4_method_18_code) = true := by decide +kernel
def sx_c182 : List sx_I := [(0, .iconst 0, 1, 0, 0, 0, 0), (1, .istore_n 3, 1, 0, 0, 0, 0), (2, .iconst 0, 1, 0, 0, 0, 0), (3, .istore 4, 2, 0, 0, 0, 0), (5, .iload 4, 2, 0, 0, 0, 0), (7, .bipush 12, 2, 0, 0, 0, 0), (9, .if_icmp .ge 93, 3, 0, 0, 0, 0), (12, .iload_n 2, 1, 0, 0, 0, 0), (13, .aload_n 0, 1, 0, 0, 0, 0), (14, .getfield 18, 3, 0, 2, 2, 0), (17, .iload 4, 2, 0, 0, 0, 0), (19, .iaload, 1, 0, 0, 0, 0), (20, .imul, 1, 0, 0, 0, 0), (21, .bipush 8, 2, 0, 0, 0, 0), (23, .idiv, 1, 0, 0, 0, 0), (24, .aload_n 0, 1, 0, 0, 0, 0), (25, .getfield 15, 3, 0, 2, 1, 0), (28, .iload 4, 2, 0, 0, 0, 0), (30, .iaload, 1, 0, 0, 0, 0), (31, .if_icmp .gt 7, 3, 0, 0, 0, 0), (34, .iconst 1, 1, 0, 0, 0, 0), (35, .goto 4, 3, 0, 0, 0, 0), (38, .iconst 0, 1, 0, 0, 0, 0), (39, .istore 5, 2, 0, 0, 0, 0), (41, .iload_n 1, 1, 0, 0, 0, 0), (42, .iload 4, 2, 0, 0, 0, 0), (44, .invokestatic 100, 3, 3, 44, 0, 0), (47, .ifCond .eq 49, 3, 0, 0, 0, 0), (50, .iload 5, 2, 0, 0, 0, 0), (52, .ifCond .ne 44, 3, 0, 0, 0, 0), (55, .iload_n 2, 1, 0, 0, 0, 0), (56, .aload_n 0, 1, 0, 0, 0, 0), (57, .getfield 18, 3, 0, 2, 2, 0), (60, .iload 4, 2, 0, 0, 0, 0), (62, .iaload, 1, 0, 0, 0, 0), (63, .iconst 2, 1, 0, 0, 0, 0), (64, .idiv, 1, 0, 0, 0, 0), (65, .imul, 1, 0, 0, 0, 0), (66, .bipush 8, 2, 0, 0, 0, 0), (68, .idiv, 1, 0, 0, 0, 0), (69, .aload_n 0, 1, 0, 0, 0, 0), (70, .getfield 15, 3, 0, 2, 1, 0), (73, .iload 4, 2, 0, 0, 0, 0), (75, .iaload, 1, 0, 0, 0, 0), (76, .if_icmp .gt 13, 3, 0, 0, 0, 0), (79, .aload_n 0, 1, 0, 0, 0, 0), (80, .iload 4, 2, 0, 0, 0, 0), (82, .iload_n 1, 1, 0, 0, 0, 0), (83, .invokevirtual 117, 3, 2, 183, 0, 0), (86, .ifCond .eq 10, 3, 0, 0, 0, 0), (89, .iload_n 3, 1, 0, 0, 0, 0), (90, .iconst 1, 1, 0, 0, 0, 0), (91, .iload 4, 2, 0, 0, 0, 0), (93, .ishl, 1, 0, 0, 0, 0), (94, .ior, 1, 0, 0, 0, 0), (95, .istore_n 3, 1, 0, 0, 0, 0), (96, .iinc 4 1, 3, 0, 0, 0, 0), (99, .goto (-94), 3, 0, 0, 0, 0), (102, .iload_n 3, 1, 0, 0, 0, 0), (103, .ireturn, 1, 0, 0, 0, 0)]
set_option maxRecDepth 100000 in
theorem sx_k182 : sx_c182.all (sx_chk 2 prog_4_method_19_code) = true := by decide +kernel
def sx_c183 : List sx_I := [(0, .iload_n 1, 1, 0, 0, 0, 0), (1, .iconst 0, 1, 0, 0, 0, 0), (2, .bipush 11, 2, 0, 0, 0, 0), (4, .invokestatic 60, 3, 3, 14, 0, 0), (7, .ifCond .eq 12, 3, 0, 0, 0, 0), (10, .aload_n 0, 1, 0, 0, 0, 0), (11, .getfield 9, 3, 0, 2, 0, 0), (14, .iload_n 1, 1, 0, 0, 0, 0), (15, .iaload, 1, 0, 0, 0, 0), (16, .goto 4, 3, 0, 0, 0, 0), (19, .iconst 0, 1, 0, 0, 0, 0), (20, .istore_n 3, 1, 0, 0, 0, 0), (21, .aload_n 0, 1, 0, 0, 0, 0), (22, .iload_n 3, 1, 0, 0, 0, 0), (23, .iload_n 3, 1, 0, 0, 0, 0), (24, .ineg, 1, 0, 0, 0, 0), (25, .iand, 1, 0, 0, 0, 0), (26, .iload_n 2, 1, 0, 0, 0, 0), (27, .iconst 1, 1, 0, 0, 0, 0), (28, .iload_n 1, 1, 0, 0, 0, 0), (29, .ishl, 1, 0, 0, 0, 0), (30, .iconst (-1), 1, 0, 0, 0, 0), (31, .ixor, 1, 0, 0, 0, 0), (32, .iand, 1, 0, 0, 0, 0), (33, .invokevirtual 94, 3, 2, 35, 0, 0), (36, .iload_n 3, 1, 0, 0, 0, 0), (37, .iand, 1, 0, 0, 0, 0), (38, .iload_n 3, 1, 0, 0, 0, 0), (39, .if_icmp .eq 7, 3, 0, 0, 0, 0), (42, .iconst 1, 1, 0, 0, 0, 0), (43, .goto 4, 3, 0, 0, 0, 0), (46, .iconst 0, 1, 0, 0, 0, 0), (47, .ireturn, 1, 0, 0, 0, 0)]
set_option maxRecDepth 100000 in
theorem sx_k183 : sx_c183.all (sx_chk 2 prog_4_method_16_code) = true := by decide +kernel
def sx_c184 : List sx_I := [(0, .iconst 0, 1, 0, 0, 0, 0), (1, .istore_n 2, 1, 0, 0, 0, 0), (2, .iconst 0, 1, 0, 0, 0, 0), (3, .istore_n 3, 1, 0, 0, 0, 0), (4, .iload_n 3, 1, 0, 0, 0, 0), (5, .bipush 12, 2, 0, 0, 0, 0), (7, .if_icmp .ge 32, 3, 0, 0, 0, 0), (10, .iload_n 1, 1, 0, 0, 0, 0), (11, .iload_n 3, 1, 0, 0, 0, 0), (12, .invokestatic 100, 3, 3, 44, 0, 0), (15, .ifCond .eq 18, 3, 0, 0, 0, 0), (18, .aload_n 0, 1, 0, 0, 0, 0), (19, .iload_n 3, 1, 0, 0, 0, 0), (20, .iload_n 1, 1, 0, 0, 0, 0), (21, .invokevirtual 117, 3, 2, 183, 0, 0), (24, .ifCond .eq 9, 3, 0, 0, 0, 0), (27, .iload_n 2, 1, 0, 0, 0, 0), (28, .iconst 1, 1, 0, 0, 0, 0), (29, .iload_n 3, 1, 0, 0, 0, 0), (30, .ishl, 1, 0, 0, 0, 0), (31, .ior, 1, 0, 0, 0, 0), (32, .istore_n 2, 1, 0, 0, 0, 0), (33, .iinc 3 1, 3, 0, 0, 0, 0), (36, .goto (-32), 3, 0, 0, 0, 0), (39, .iload_n 2, 1, 0, 0, 0, 0), (40, .ireturn, 1, 0, 0, 0, 0)]
set_option maxRecDepth 100000 in
theorem sx_k184 : sx_c184.all (sx_chk 2 prog_4_method_17_code) = true := by decide +kernel
def sx_c185 : List sx_I := [(0, .iconst 0, 1, 0, 0, 0, 0), (1, .istore_n 3, 1, 0, 0, 0, 0), (2, .iload_n 3, 1, 0, 0, 0, 0), (3, .bipush 12, 2, 0, 0, 0, 0), (5, .if_icmp .ge 35, 3, 0, 0, 0, 0), (8, .iload_n 1, 1, 0, 0, 0, 0), (9, .iload_n 3, 1, 0, 0, 0, 0), (10, .invokestatic 100, 3, 3, 44, 0, 0), (13, .ifCond .eq 21, 3, 0, 0, 0, 0), (16, .aload_n 0, 1, 0, 0, 0, 0), (17, .iload_n 3, 1, 0, 0, 0, 0), (18, .iload_n 1, 1, 0, 0, 0, 0), (19, .iload_n 2, 1, 0, 0, 0, 0), (20, .invokevirtual 110, 3, 2, 71, 0, 0), (23, .aload_n 0, 1, 0, 0, 0, 0), (24, .getfield 15, 3, 0, 2, 1, 0), (27, .iload_n 3, 1, 0, 0, 0, 0), (28, .iaload, 1, 0, 0, 0, 0), (29, .if_icmp .le 5, 3, 0, 0, 0, 0), (32, .iconst 0, 1, 0, 0, 0, 0), (33, .ireturn, 1, 0, 0, 0, 0), (34, .iinc 3 1, 3, 0, 0, 0, 0), (37, .goto (-35), 3, 0, 0, 0, 0), (40, .iconst 1, 1, 0, 0, 0, 0), (41, .ireturn, 1, 0, 0, 0, 0)]
set_option maxRecDepth 100000 in
theorem sx_k185 : sx_c185.all (sx_chk 2 prog_4_method_15_code) = true := by decide +kernel
def sx_c186 : List sx_I := [(0, .iload_n 1, 1, 0, 0, 0, 0), (1, .invokestatic 274, 3, 2, 95, 0, 0), (4, .ifCond .ne 10, 3, 0, 0, 0, 0), (7, .aload_n 0, 1, 0, 0, 0, 0), (8, .ldc 63, 2, 6, 0, 0, -100001), (10, .invokevirtual 64, 3, 2, 15, 0, 0), (13, .ireturn, 1, 0, 0, 0, 0), (14, .aload_n 0, 1, 0, 0, 0, 0), (15, .invokevirtual 120, 3, 2, 26, 0, 0), (18, .iload_n 1, 1, 0, 0, 0, 0), (19, .invokevirtual 381, 3, 2, 187, 0, 0), (22, .istore_n 3, 1, 0, 0, 0, 0), (23, .iload_n 2, 1, 0, 0, 0, 0), (24, .ifCond .eq 17, 3, 0, 0, 0, 0), (27, .aload_n 0, 1, 0, 0, 0, 0), (28, .getfield 40, 3, 0, 11, 5, 0), (31, .iload_n 3, 1, 0, 0, 0, 0), (32, .iload_n 1, 1, 0, 0, 0, 0), (33, .bipush 12, 2, 0, 0, 0, 0), (35, .invokevirtual 384, 3, 2, 189, 0, 0), (38, .goto 4, 3, 0, 0, 0, 0), (41, .iload_n 3, 1, 0, 0, 0, 0), (42, .ireturn, 1, 0, 0, 0, 0)]
set_option maxRecDepth 100000 in
theorem sx_k186 : sx_c186.all (sx_chk 11 prog_1_method_32_code) = true := by decide +kernel
def sx_c187 : List sx_I := [(0, .aload_n 0, 1, 0, 0, 0, 0), (1, .iload_n 1, 1, 0, 0, 0, 0), (2, .invokevirtual 126, 3, 2, 181, 0, 0), (5, .istore_n 2, 1, 0, 0, 0, 0), (6, .aload_n 0, 1, 0, 0, 0, 0), (7, .getfield 64, 3, 0, 2, 4, 0), (10, .invokestatic 132, 3, 2, 78, 0, 0), (13, .aload_n 0, 1, 0, 0, 0, 0), (14, .aload_n 0, 1, 0, 0, 0, 0), (15, .getfield 64, 3, 0, 2, 4, 0), (18, .iload_n 2, 1, 0, 0, 0, 0), (19, .iconst (-1), 1, 0, 0, 0, 0), (20, .ixor, 1, 0, 0, 0, 0), (21, .iand, 1, 0, 0, 0, 0), (22, .iload_n 1, 1, 0, 0, 0, 0), (23, .invokevirtual 143, 3, 2, 188, 0, 0), (26, .isub, 1, 0, 0, 0, 0), (27, .istore_n 3, 1, 0, 0, 0, 0), (28, .iconst 0, 1, 0, 0, 0, 0), (29, .istore 4, 2, 0, 0, 0, 0), (31, .iload 4, 2, 0, 0, 0, 0), (33, .aload_n 0, 1, 0, 0, 0, 0), (34, .getfield 64, 3, 0, 2, 4, 0), (37, .if_icmp .ge 49, 3, 0, 0, 0, 0), (40, .iload 4, 2, 0, 0, 0, 0), (42, .aload_n 0, 1, 0, 0, 0, 0), (43, .getfield 64, 3, 0, 2, 4, 0), (46, .iconst (-1), 1, 0, 0, 0, 0), (47, .ixor, 1, 0, 0, 0, 0), (48, .iand, 1, 0, 0, 0, 0), (49, .ifCond .ne 31, 3, 0, 0, 0, 0), (52, .iload 4, 2, 0, 0, 0, 0), (54, .iload_n 2, 1, 0, 0, 0, 0), (55, .ior, 1, 0, 0, 0, 0), (56, .invokestatic 132, 3, 2, 78, 0, 0), (59, .iload_n 3, 1, 0, 0, 0, 0), (60, .if_icmp .gt 20, 3, 0, 0, 0, 0), (63, .aload_n 0, 1, 0, 0, 0, 0), (64, .iload 4, 2, 0, 0, 0, 0), (66, .iload_n 1, 1, 0, 0, 0, 0), (67, .iload_n 3, 1, 0, 0, 0, 0), (68, .iconst 1, 1, 0, 0, 0, 0), (69, .iadd, 1, 0, 0, 0, 0), (70, .invokevirtual 146, 3, 2, 189, 0, 0), (73, .iload_n 3, 1, 0, 0, 0, 0), (74, .if_icmp .ne 6, 3, 0, 0, 0, 0), (77, .iload 4, 2, 0, 0, 0, 0), (79, .ireturn, 1, 0, 0, 0, 0), (80, .iinc 4 1, 3, 0, 0, 0, 0), (83, .goto (-52), 3, 0, 0, 0, 0), (86, .aload_n 0, 1, 0, 0, 0, 0), (87, .getfield 64, 3, 0, 2, 4, 0), (90, .ireturn, 1, 0, 0, 0, 0)]
set_option maxRecDepth 100000 in
theorem sx_k187 : sx_c187.all (sx_chk 2 prog_4_method_24_code) = true := by decide +kernel
def sx_c188 : List sx_I := [(0, .iconst 0, 1, 0, 0, 0, 0), (1, .istore_n 3, 1, 0, 0, 0, 0), (2, .iload_n 1, 1, 0, 0, 0, 0), (3, .istore 4, 2, 0, 0, 0, 0), (5, .iload 4, 2, 0, 0, 0, 0), (7, .ifCond .le 44, 3, 0, 0, 0, 0), (10, .iload 4, 2, 0, 0, 0, 0), (12, .invokestatic 132, 3, 2, 78, 0, 0), (15, .istore 5, 2, 0, 0, 0, 0), (17, .iload 4, 2, 0, 0, 0, 0), (19, .iload_n 1, 1, 0, 0, 0, 0), (20, .iconst (-1), 1, 0, 0, 0, 0), (21, .ixor, 1, 0, 0, 0, 0), (22, .iand, 1, 0, 0, 0, 0), (23, .ifCond .ne 22, 3, 0, 0, 0, 0), (26, .iload 5, 2, 0, 0, 0, 0), (28, .iload_n 3, 1, 0, 0, 0, 0), (29, .if_icmp .le 16, 3, 0, 0, 0, 0), (32, .aload_n 0, 1, 0, 0, 0, 0), (33, .iload 4, 2, 0, 0, 0, 0), (35, .iload_n 2, 1, 0, 0, 0, 0), (36, .invokevirtual 137, 3, 2, 185, 0, 0), (39, .ifCond .eq 6, 3, 0, 0, 0, 0), (42, .iload 5, 2, 0, 0, 0, 0), (44, .istore_n 3, 1, 0, 0, 0, 0), (45, .iinc 4 (-1), 3, 0, 0, 0, 0), (48, .goto (-43), 3, 0, 0, 0, 0), (51, .iload_n 3, 1, 0, 0, 0, 0), (52, .ireturn, 1, 0, 0, 0, 0)]
set_option maxRecDepth 100000 in
theorem sx_k188 : sx_c188.all (sx_chk 2 prog_4_method_22_code) = true := by decide +kernel
def sx_c189 : List sx_I := [(0, .iload_n 1, 1, 0, 0, 0, 0), (1, .invokestatic 132, 3, 2, 78, 0, 0), (4, .istore 4, 2, 0, 0, 0, 0), (6, .iload 4, 2, 0, 0, 0, 0), (8, .aload_n 0, 1, 0, 0, 0, 0), (9, .aload_n 0, 1, 0, 0, 0, 0), (10, .getfield 64, 3, 0, 2, 4, 0), (13, .iload_n 1, 1, 0, 0, 0, 0), (14, .iconst (-1), 1, 0, 0, 0, 0), (15, .ixor, 1, 0, 0, 0, 0), (16, .iand, 1, 0, 0, 0, 0), (17, .iload_n 2, 1, 0, 0, 0, 0), (18, .iload_n 3, 1, 0, 0, 0, 0), (19, .iload 4, 2, 0, 0, 0, 0), (21, .isub, 1, 0, 0, 0, 0), (22, .invokevirtual 140, 3, 2, 99, 0, 0), (25, .iadd, 1, 0, 0, 0, 0), (26, .ireturn, 1, 0, 0, 0, 0)]
set_option maxRecDepth 100000 in
theorem sx_k189 : sx_c189.all (sx_chk 2 prog_4_method_23_code) = true := by decide +kernel
def sx_c190 : List sx_I := [(0, .aload_n 0, 1, 0, 0, 0, 0), (1, .invokevirtual 120, 3, 2, 26, 0, 0), (4, .pop, 1, 0, 0, 0, 0), (5, .iload_n 1, 1, 0, 0, 0, 0), (6, .aload_n 0, 1, 0, 0, 0, 0), (7, .getfield 40, 3, 0, 11, 5, 0), (10, .getfield 261, 3, 1, 2, 4, 0), (13, .iconst (-1), 1, 0, 0, 0, 0), (14, .ixor, 1, 0, 0, 0, 0), (15, .iand, 1, 0, 0, 0, 0), (16, .ifCond .ne 17, 3, 0, 0, 0, 0), (19, .iload_n 2, 1, 0, 0, 0, 0), (20, .invokestatic 274, 3, 2, 95, 0, 0), (23, .ifCond .eq 10, 3, 0, 0, 0, 0), (26, .iload_n 3, 1, 0, 0, 0, 0), (27, .invokestatic 293, 3, 2, 122, 0, 0), (30, .ifCond .ne 10, 3, 0, 0, 0, 0), (33, .aload_n 0, 1, 0, 0, 0, 0), (34, .ldc 63, 2, 6, 0, 0, -100001), (36, .invokevirtual 64, 3, 2, 15, 0, 0), (39, .ireturn, 1, 0, 0, 0, 0), (40, .aload_n 0, 1, 0, 0, 0, 0), (41, .getfield 25, 3, 0, 11, 3, 0), (44, .iload_n 3, 1, 0, 0, 0, 0), (45, .aaload, 1, 0, 0, 0, 0), (46, .astore 4, 2, 0, 0, 0, 0), (48, .aload 4, 2, 0, 0, 0, 0), (50, .invokevirtual 296, 3, 2, 123, 0, 0), (53, .ifCond .eq 10, 3, 0, 0, 0, 0), (56, .aload_n 0, 1, 0, 0, 0, 0), (57, .ldc 158, 2, 6, 0, 0, -100002), (59, .invokevirtual 64, 3, 2, 15, 0, 0), (62, .ireturn, 1, 0, 0, 0, 0), (63, .iload_n 1, 1, 0, 0, 0, 0), (64, .invokestatic 387, 3, 2, 78, 0, 0), (67, .istore 5, 2, 0, 0, 0, 0), (69, .aload 4, 2, 0, 0, 0, 0), (71, .getfield 392, 3, 1, 7, 1, 0), (74, .iload 5, 2, 0, 0, 0, 0), (76, .if_icmp .ne 17, 3, 0, 0, 0, 0), (79, .aload_n 0, 1, 0, 0, 0, 0), (80, .getfield 40, 3, 0, 11, 5, 0), (83, .iload_n 1, 1, 0, 0, 0, 0), (84, .iload_n 2, 1, 0, 0, 0, 0), (85, .aload 4, 2, 0, 0, 0, 0), (87, .invokevirtual 395, 3, 2, 191, 0, 0), (90, .goto 5, 3, 0, 0, 0, 0), (93, .iload 5, 2, 0, 0, 0, 0), (95, .ireturn, 1, 0, 0, 0, 0)]
set_option maxRecDepth 100000 in
theorem sx_k190 : sx_c190.all (sx_chk 11 prog_1_method_33_code) = true := by decide +kernel
def sx_c191 : List sx_I := [(0, .iconst 0, 1, 0, 0, 0, 0), (1, .istore 4, 2, 0, 0, 0, 0), (3, .iconst 0, 1, 0, 0, 0, 0), (4, .istore 5, 2, 0, 0, 0, 0), (6, .iload 5, 2, 0, 0, 0, 0), (8, .bipush 12, 2, 0, 0, 0, 0), (10, .if_icmp .ge 58, 3, 0, 0, 0, 0), (13, .iload_n 1, 1, 0, 0, 0, 0), (14, .iload 5, 2, 0, 0, 0, 0), (16, .invokestatic 100, 3, 3, 44, 0, 0), (19, .ifCond .eq 43, 3, 0, 0, 0, 0), (22, .aload_n 0, 1, 0, 0, 0, 0), (23, .iload 5, 2, 0, 0, 0, 0), (25, .iload_n 1, 1, 0, 0, 0, 0), (26, .iload_n 2, 1, 0, 0, 0, 0), (27, .invokevirtual 110, 3, 2, 71, 0, 0), (30, .istore 6, 2, 0, 0, 0, 0), (32, .aload_n 3, 1, 0, 0, 0, 0), (33, .iload 4, 2, 0, 0, 0, 0), (35, .iconst (-1), 1, 0, 0, 0, 0), (36, .invokevirtual 149, 3, 2, 124, 0, 0), (39, .iload 6, 2, 0, 0, 0, 0), (41, .if_icmp .ne 15, 3, 0, 0, 0, 0), (44, .iload 6, 2, 0, 0, 0, 0), (46, .aload_n 0, 1, 0, 0, 0, 0), (47, .getfield 15, 3, 0, 2, 1, 0), (50, .iload 5, 2, 0, 0, 0, 0), (52, .iaload, 1, 0, 0, 0, 0), (53, .if_icmp .le 6, 3, 0, 0, 0, 0), (56, .iload 4, 2, 0, 0, 0, 0), (58, .ireturn, 1, 0, 0, 0, 0), (59, .iinc 4 1, 3, 0, 0, 0, 0), (62, .iinc 5 1, 3, 0, 0, 0, 0), (65, .goto (-59), 3, 0, 0, 0, 0), (68, .iconst (-1), 1, 0, 0, 0, 0), (69, .ireturn, 1, 0, 0, 0, 0)]
set_option maxRecDepth 100000 in
theorem sx_k191 : sx_c191.all (sx_chk 2 prog_4_method_25_code) = true := by decide +kernel
def sx_c192 : List sx_I := [(0, .aload_n 0, 1, 0, 0, 0, 0), (1, .getfield 10, 3, 0, 11, 0, 0), (4, .iload_n 1, 1, 0, 0, 0, 0), (5, .invokevirtual 89, 3, 2, 23, 0, 0), (8, .ifCond .eq 13, 3, 0, 0, 0, 0), (11, .iload_n 2, 1, 0, 0, 0, 0), (12, .iconst 0, 1, 0, 0, 0, 0), (13, .bipush 30, 2, 0, 0, 0, 0), (15, .invokestatic 59, 3, 2, 14, 0, 0), (18, .ifCond .ne 10, 3, 0, 0, 0, 0), (21, .aload_n 0, 1, 0, 0, 0, 0), (22, .ldc 63, 2, 6, 0, 0, -100001), (24, .invokevirtual 64, 3, 2, 15, 0, 0), (27, .ireturn, 1, 0, 0, 0, 0), (28, .aload_n 0, 1, 0, 0, 0, 0), (29, .getfield 10, 3, 0, 11, 0, 0), (32, .iload_n 1, 1, 0, 0, 0, 0), (33, .invokevirtual 92, 3, 2, 20, 0, 0), (36, .astore_n 3, 1, 0, 0, 0, 0), (37, .aload_n 3, 1, 0, 0, 0, 0), (38, .getfield 137, 3, 1, 4, 6, 0), (41, .ifCond .eq 10, 3, 0, 0, 0, 0), (44, .aload_n 0, 1, 0, 0, 0, 0), (45, .ldc 140, 2, 6, 0, 0, -100006), (47, .invokevirtual 64, 3, 2, 15, 0, 0), (50, .ireturn, 1, 0, 0, 0, 0), (51, .aload_n 0, 1, 0, 0, 0, 0), (52, .getfield 10, 3, 0, 11, 0, 0), (55, .getfield 68, 3, 1, 10, 0, 0), (58, .aload_n 3, 1, 0, 0, 0, 0), (59, .getfield 105, 3, 1, 4, 1, 0), (62, .iload_n 2, 1, 0, 0, 0, 0), (63, .aload_n 0, 1, 0, 0, 0, 0), (64, .iload_n 1, 1, 0, 0, 0, 0), (65, .invokevirtual 399, 3, 2, 193, 0, 0), (68, .invokevirtual 402, 3, 2, 194, 0, 0), (71, .ireturn, 1, 0, 0, 0, 0)]
set_option maxRecDepth 100000 in
theorem sx_k192 : sx_c192.all (sx_chk 11 prog_1_method_34_code) = true := by decide +kernel
def sx_c193 : List sx_I := [(0, .aload_n 0, 1, 0, 0, 0, 0), (1, .getfield 10, 3, 0, 11, 0, 0), (4, .aload_n 0, 1, 0, 0, 0, 0), (5, .invokevirtual 120, 3, 2, 26, 0, 0), (8, .iload_n 1, 1, 0, 0, 0, 0), (9, .invokevirtual 131, 3, 2, 34, 0, 0), (12, .iconst 4, 1, 0, 0, 0, 0), (13, .invokevirtual 306, 3, 2, 126, 0, 0), (16, .ifCond .le 7, 3, 0, 0, 0, 0), (19, .iconst 1, 1, 0, 0, 0, 0), (20, .goto 4, 3, 0, 0, 0, 0), (23, .iconst 0, 1, 0, 0, 0, 0), (24, .ireturn, 1, 0, 0, 0, 0)]
set_option maxRecDepth 100000 in
theorem sx_k193 : sx_c193.all (sx_chk 11 prog_1_method_46_code) = true := by decide +kernel
def sx_c194 : List sx_I := [(0, .iconst 0, 1, 0, 0, 0, 0), (1, .istore 4, 2, 0, 0, 0, 0), (3, .iload 4, 2, 0, 0, 0, 0), (5, .bipush 36, 2, 0, 0, 0, 0), (7, .if_icmp .ge 86, 3, 0, 0, 0, 0), (10, .lconst 1, 1, 0, 0, 0, 0), (11, .aload_n 0, 1, 0, 0, 0, 0), (12, .iload 4, 2, 0, 0, 0, 0), (14, .invokevirtual 44, 3, 2, 118, 0, 0), (17, .lshl, 1, 0, 0, 0, 0), (18, .iload_n 3, 1, 0, 0, 0, 0), (19, .ifCond .eq 10, 3, 0, 0, 0, 0), (22, .lconst 1, 1, 0, 0, 0, 0), (23, .iload 4, 2, 0, 0, 0, 0), (25, .lshl, 1, 0, 0, 0, 0), (26, .goto 4, 3, 0, 0, 0, 0), (29, .lconst 0, 1, 0, 0, 0, 0), (30, .lor, 1, 0, 0, 0, 0), (31, .lstore 5, 2, 0, 0, 0, 0), (33, .iconst 0, 1, 0, 0, 0, 0), (34, .istore 7, 2, 0, 0, 0, 0), (36, .iload 7, 2, 0, 0, 0, 0), (38, .iconst 4, 1, 0, 0, 0, 0), (39, .if_icmp .ge 39, 3, 0, 0, 0, 0), (42, .lload 5, 2, 0, 0, 0, 0), (44, .lconst 1, 1, 0, 0, 0, 0), (45, .aload_n 0, 1, 0, 0, 0, 0), (46, .iload 4, 2, 0, 0, 0, 0), (48, .getstatic 48, 3, 11, 7, 0, 0), (51, .iload 7, 2, 0, 0, 0, 0), (53, .iaload, 1, 0, 0, 0, 0), (54, .getstatic 51, 3, 11, 8, 0, 0), (57, .iload 7, 2, 0, 0, 0, 0), (59, .iaload, 1, 0, 0, 0, 0), (60, .invokestatic 36, 3, 2, 120, 0, 0), (63, .iload 4, 2, 0, 0, 0, 0), (65, .invokevirtual 40, 3, 2, 119, 0, 0), (68, .lshl, 1, 0, 0, 0, 0), (69, .lor, 1, 0, 0, 0, 0), (70, .lstore 5, 2, 0, 0, 0, 0), (72, .iinc 7 1, 3, 0, 0, 0, 0), (75, .goto (-39), 3, 0, 0, 0, 0), (78, .aload_n 0, 1, 0, 0, 0, 0), (79, .getfield 18, 3, 0, 6, 2, 0), (82, .iload 4, 2, 0, 0, 0, 0), (84, .lload 5, 2, 0, 0, 0, 0), (86, .lastore, 1, 0, 0, 0, 0), (87, .iinc 4 1, 3, 0, 0, 0, 0), (90, .goto (-87), 3, 0, 0, 0, 0), (93, .lconst 1, 1, 0, 0, 0, 0), (94, .iload_n 1, 1, 0, 0, 0, 0), (95, .lshl, 1, 0, 0, 0, 0), (96, .lstore 4, 2, 0, 0, 0, 0), (98, .iconst 0, 1, 0, 0, 0, 0), (99, .istore 6, 2, 0, 0, 0, 0), (101, .iload 6, 2, 0, 0, 0, 0), (103, .iload_n 2, 1, 0, 0, 0, 0), (104, .if_icmp .ge 17, 3, 0, 0, 0, 0), (107, .aload_n 0, 1, 0, 0, 0, 0), (108, .lload 4, 2, 0, 0, 0, 0), (110, .invokevirtual 54, 3, 2, 195, 0, 0), (113, .lstore 4, 2, 0, 0, 0, 0), (115, .iinc 6 1, 3, 0, 0, 0, 0), (118, .goto (-17), 3, 0, 0, 0, 0), (121, .lload 4, 2, 0, 0, 0, 0), (123, .invokestatic 58, 3, 2, 196, 0, 0), (126, .ireturn, 1, 0, 0, 0, 0)]
set_option maxRecDepth 100000 in
theorem sx_k194 : sx_c194.all (sx_chk 6 prog_8_method_7_code) = true := by decide +kernel
def sx_c195 : List sx_I := [(0, .lconst 0, 1, 0, 0, 0, 0), (1, .lstore_n 3, 1, 0, 0, 0, 0), (2, .iconst 0, 1, 0, 0, 0, 0), (3, .istore 5, 2, 0, 0, 0, 0), (5, .iload 5, 2, 0, 0, 0, 0), (7, .bipush 36, 2, 0, 0, 0, 0), (9, .if_icmp .ge 30, 3, 0, 0, 0, 0), (12, .lload_n 1, 1, 0, 0, 0, 0), (13, .iload 5, 2, 0, 0, 0, 0), (15, .lshr, 1, 0, 0, 0, 0), (16, .lconst 1, 1, 0, 0, 0, 0), (17, .land, 1, 0, 0, 0, 0), (18, .lconst 0, 1, 0, 0, 0, 0), (19, .lcmp, 1, 0, 0, 0, 0), (20, .ifCond .eq 13, 3, 0, 0, 0, 0), (23, .lload_n 3, 1, 0, 0, 0, 0), (24, .aload_n 0, 1, 0, 0, 0, 0), (25, .getfield 18, 3, 0, 6, 2, 0), (28, .iload 5, 2, 0, 0, 0, 0), (30, .laload, 1, 0, 0, 0, 0), (31, .lor, 1, 0, 0, 0, 0), (32, .lstore_n 3, 1, 0, 0, 0, 0), (33, .iinc 5 1, 3, 0, 0, 0, 0), (36, .goto (-31), 3, 0, 0, 0, 0), (39, .lload_n 3, 1, 0, 0, 0, 0), (40, .lreturn, 1, 0, 0, 0, 0)]
set_option maxRecDepth 100000 in
theorem sx_k195 : sx_c195.all (sx_chk 6 prog_8_method_9_code) = true := by decide +kernel
def sx_c196 : List sx_I := [(0, .lload_n 0, 1, 0, 0, 0, 0), (1, .lload_n 0, 1, 0, 0, 0, 0), (2, .iconst 1, 1, 0, 0, 0, 0), (3, .lushr, 1, 0, 0, 0, 0), (4, .ldc2_w 314, 3, 7, 0, 0, 6148914691236517205), (7, .land, 1, 0, 0, 0, 0), (8, .lsub, 1, 0, 0, 0, 0), (9, .lstore_n 0, 1, 0, 0, 0, 0), (10, .lload_n 0, 1, 0, 0, 0, 0), (11, .ldc2_w 316, 3, 7, 0, 0, 3689348814741910323), (14, .land, 1, 0, 0, 0, 0), (15, .lload_n 0, 1, 0, 0, 0, 0), (16, .iconst 2, 1, 0, 0, 0, 0), (17, .lushr, 1, 0, 0, 0, 0), (18, .ldc2_w 316, 3, 7, 0, 0, 3689348814741910323), (21, .land, 1, 0, 0, 0, 0), (22, .ladd, 1, 0, 0, 0, 0), (23, .lstore_n 0, 1, 0, 0, 0, 0), (24, .lload_n 0, 1, 0, 0, 0, 0), (25, .lload_n 0, 1, 0, 0, 0, 0), (26, .iconst 4, 1, 0, 0, 0, 0), (27, .lushr, 1, 0, 0, 0, 0), (28, .ladd, 1, 0, 0, 0, 0), (29, .ldc2_w 318, 3, 7, 0, 0, 1085102592571150095), (32, .land, 1, 0, 0, 0, 0), (33, .lstore_n 0, 1, 0, 0, 0, 0), (34, .lload_n 0, 1, 0, 0, 0, 0), (35, .lload_n 0, 1, 0, 0, 0, 0), (36, .bipush 8, 2, 0, 0, 0, 0), (38, .lushr, 1, 0, 0, 0, 0), (39, .ladd, 1, 0, 0, 0, 0), (40, .lstore_n 0, 1, 0, 0, 0, 0), (41, .lload_n 0, 1, 0, 0, 0, 0), (42, .lload_n 0, 1, 0, 0, 0, 0), (43, .bipush 16, 2, 0, 0, 0, 0), (45, .lushr, 1, 0, 0, 0, 0), (46, .ladd, 1, 0, 0, 0, 0), (47, .lstore_n 0, 1, 0, 0, 0, 0), (48, .lload_n 0, 1, 0, 0, 0, 0), (49, .lload_n 0, 1, 0, 0, 0, 0), (50, .bipush 32, 2, 0, 0, 0, 0), (52, .lushr, 1, 0, 0, 0, 0), (53, .ladd, 1, 0, 0, 0, 0), (54, .lstore_n 0, 1, 0, 0, 0, 0), (55, .lload_n 0, 1, 0, 0, 0, 0), (56, .l2i, 1, 0, 0, 0, 0), (57, .bipush 127, 2, 0, 0, 0, 0), (59, .iand, 1, 0, 0, 0, 0), (60, .ireturn, 1, 0, 0, 0, 0)]
set_option maxRecDepth 100000 in
theorem sx_k196 : sx_c196.all (sx_chk 19 prog_16_method_50_code) = true := by decide +kernel
def sx_c197 : List sx_I := [(0, .aload_n 0, 1, 0, 0, 0, 0), (1, .getfield 10, 3, 0, 11, 0, 0), (4, .iload_n 1, 1, 0, 0, 0, 0), (5, .invokevirtual 89, 3, 2, 23, 0, 0), (8, .ifCond .eq 14, 3, 0, 0, 0, 0), (11, .aload_n 0, 1, 0, 0, 0, 0), (12, .getfield 10, 3, 0, 11, 0, 0), (15, .iload_n 2, 1, 0, 0, 0, 0), (16, .invokevirtual 89, 3, 2, 23, 0, 0), (19, .ifCond .ne 10, 3, 0, 0, 0, 0), (22, .aload_n 0, 1, 0, 0, 0, 0), (23, .ldc 63, 2, 6, 0, 0, -100001), (25, .invokevirtual 64, 3, 2, 15, 0, 0), (28, .ireturn, 1, 0, 0, 0, 0), (29, .aload_n 0, 1, 0, 0, 0, 0), (30, .getfield 10, 3, 0, 11, 0, 0), (33, .iload_n 1, 1, 0, 0, 0, 0), (34, .invokevirtual 92, 3, 2, 20, 0, 0), (37, .astore_n 3, 1, 0, 0, 0, 0), (38, .aload_n 0, 1, 0, 0, 0, 0), (39, .getfield 10, 3, 0, 11, 0, 0), (42, .iload_n 2, 1, 0, 0, 0, 0), (43, .invokevirtual 92, 3, 2, 20, 0, 0), (46, .astore 4, 2, 0, 0, 0, 0), (48, .aload_n 3, 1, 0, 0, 0, 0), (49, .getfield 137, 3, 1, 4, 6, 0), (52, .ifCond .ne 11, 3, 0, 0, 0, 0), (55, .aload 4, 2, 0, 0, 0, 0), (57, .getfield 137, 3, 1, 4, 6, 0), (60, .ifCond .eq 10, 3, 0, 0, 0, 0), (63, .aload_n 0, 1, 0, 0, 0, 0), (64, .ldc 140, 2, 6, 0, 0, -100006), (66, .invokevirtual 64, 3, 2, 15, 0, 0), (69, .ireturn, 1, 0, 0, 0, 0), (70, .aload_n 0, 1, 0, 0, 0, 0), (71, .getfield 10, 3, 0, 11, 0, 0), (74, .getfield 68, 3, 1, 10, 0, 0), (77, .aload_n 3, 1, 0, 0, 0, 0), (78, .getfield 105, 3, 1, 4, 1, 0), (81, .aload 4, 2, 0, 0, 0, 0), (83, .getfield 105, 3, 1, 4, 1, 0), (86, .aload_n 0, 1, 0, 0, 0, 0), (87, .iload_n 1, 1, 0, 0, 0, 0), (88, .invokevirtual 399, 3, 2, 193, 0, 0), (91, .invokevirtual 406, 3, 2, 198, 0, 0), (94, .istore 5, 2, 0, 0, 0, 0), (96, .iload 5, 2, 0, 0, 0, 0), (98, .ifCond .ge 12, 3, 0, 0, 0, 0), (101, .aload_n 0, 1, 0, 0, 0, 0), (102, .ldc 140, 2, 6, 0, 0, -100006), (104, .invokevirtual 64, 3, 2, 15, 0, 0), (107, .goto 5, 3, 0, 0, 0, 0), (110, .iload 5, 2, 0, 0, 0, 0), (112, .ireturn, 1, 0, 0, 0, 0)]
set_option maxRecDepth 100000 in
theorem sx_k197 : sx_c197.all (sx_chk 11 prog_1_method_35_code) = true := by decide +kernel
def sx_c198 : List sx_I := [(0, .iconst 0, 1, 0, 0, 0, 0), (1, .istore 4, 2, 0, 0, 0, 0), (3, .iload 4, 2, 0, 0, 0, 0), (5, .bipush 36, 2, 0, 0, 0, 0), (7, .if_icmp .ge 75, 3, 0, 0, 0, 0), (10, .aload_n 0, 1, 0, 0, 0, 0), (11, .iload 4, 2, 0, 0, 0, 0), (13, .invokevirtual 44, 3, 2, 118, 0, 0), (16, .istore 5, 2, 0, 0, 0, 0), (18, .lconst 1, 1, 0, 0, 0, 0), (19, .iload 5, 2, 0, 0, 0, 0), (21, .lshl, 1, 0, 0, 0, 0), (22, .lstore 6, 2, 0, 0, 0, 0), (24, .iconst 0, 1, 0, 0, 0, 0), (25, .istore 8, 2, 0, 0, 0, 0), (27, .iload_n 3, 1, 0, 0, 0, 0), (28, .ifCond .eq 39, 3, 0, 0, 0, 0), (31, .iload 8, 2, 0, 0, 0, 0), (33, .iconst 4, 1, 0, 0, 0, 0), (34, .if_icmp .ge 33, 3, 0, 0, 0, 0), (37, .lload 6, 2, 0, 0, 0, 0), (39, .lconst 1, 1, 0, 0, 0, 0), (40, .iload 5, 2, 0, 0, 0, 0), (42, .getstatic 48, 3, 11, 7, 0, 0), (45, .iload 8, 2, 0, 0, 0, 0), (47, .iaload, 1, 0, 0, 0, 0), (48, .getstatic 51, 3, 11, 8, 0, 0), (51, .iload 8, 2, 0, 0, 0, 0), (53, .iaload, 1, 0, 0, 0, 0), (54, .invokestatic 36, 3, 2, 120, 0, 0), (57, .lshl, 1, 0, 0, 0, 0), (58, .lor, 1, 0, 0, 0, 0), (59, .lstore 6, 2, 0, 0, 0, 0), (61, .iinc 8 1, 3, 0, 0, 0, 0), (64, .goto (-37), 3, 0, 0, 0, 0), (67, .aload_n 0, 1, 0, 0, 0, 0), (68, .getfield 18, 3, 0, 6, 2, 0), (71, .iload 4, 2, 0, 0, 0, 0), (73, .lload 6, 2, 0, 0, 0, 0), (75, .lastore, 1, 0, 0, 0, 0), (76, .iinc 4 1, 3, 0, 0, 0, 0), (79, .goto (-76), 3, 0, 0, 0, 0), (82, .lconst 1, 1, 0, 0, 0, 0), (83, .iload_n 1, 1, 0, 0, 0, 0), (84, .lshl, 1, 0, 0, 0, 0), (85, .lstore 4, 2, 0, 0, 0, 0), (87, .iload_n 2, 1, 0, 0, 0, 0), (88, .istore 6, 2, 0, 0, 0, 0), (90, .iconst 0, 1, 0, 0, 0, 0), (91, .istore 7, 2, 0, 0, 0, 0), (93, .iload 7, 2, 0, 0, 0, 0), (95, .bipush 30, 2, 0, 0, 0, 0), (97, .if_icmp .gt 40, 3, 0, 0, 0, 0), (100, .lload 4, 2, 0, 0, 0, 0), (102, .iload 6, 2, 0, 0, 0, 0), (104, .lshr, 1, 0, 0, 0, 0), (105, .lconst 1, 1, 0, 0, 0, 0), (106, .land, 1, 0, 0, 0, 0), (107, .lconst 0, 1, 0, 0, 0, 0), (108, .lcmp, 1, 0, 0, 0, 0), (109, .ifCond .eq 6, 3, 0, 0, 0, 0), (112, .iload 7, 2, 0, 0, 0, 0), (114, .ireturn, 1, 0, 0, 0, 0), (115, .aload_n 0, 1, 0, 0, 0, 0), (116, .lload 4, 2, 0, 0, 0, 0), (118, .invokevirtual 54, 3, 2, 195, 0, 0), (121, .lstore 4, 2, 0, 0, 0, 0), (123, .aload_n 0, 1, 0, 0, 0, 0), (124, .iload 6, 2, 0, 0, 0, 0), (126, .invokevirtual 44, 3, 2, 118, 0, 0), (129, .istore 6, 2, 0, 0, 0, 0), (131, .iinc 7 1, 3, 0, 0, 0, 0), (134, .goto (-41), 3, 0, 0, 0, 0), (137, .iconst (-1), 1, 0, 0, 0, 0), (138, .ireturn, 1, 0, 0, 0, 0)]
set_option maxRecDepth 100000 in
theorem sx_k198 : sx_c198.all (sx_chk 6 prog_8_method_8_code) = true := by decide +kernel
def sx_c199 : List sx_I := [(0, .iload_n 1, 1, 0, 0, 0, 0), (1, .invokestatic 293, 3, 2, 122, 0, 0), (4, .ifCond .eq 25, 3, 0, 0, 0, 0), (7, .iload_n 2, 1, 0, 0, 0, 0), (8, .ifCond .eq 28, 3, 0, 0, 0, 0), (11, .iload_n 2, 1, 0, 0, 0, 0), (12, .bipush 8, 2, 0, 0, 0, 0), (14, .if_icmp .eq 22, 3, 0, 0, 0, 0), (17, .iload_n 2, 1, 0, 0, 0, 0), (18, .bipush 16, 2, 0, 0, 0, 0), (20, .if_icmp .eq 16, 3, 0, 0, 0, 0), (23, .iload_n 2, 1, 0, 0, 0, 0), (24, .bipush 32, 2, 0, 0, 0, 0), (26, .if_icmp .eq 10, 3, 0, 0, 0, 0), (29, .aload_n 0, 1, 0, 0, 0, 0), (30, .ldc 63, 2, 6, 0, 0, -100001), (32, .invokevirtual 64, 3, 2, 15, 0, 0), (35, .ireturn, 1, 0, 0, 0, 0), (36, .iload_n 3, 1, 0, 0, 0, 0), (37, .ifCond .ge 10, 3, 0, 0, 0, 0), (40, .aload_n 0, 1, 0, 0, 0, 0), (41, .ldc 148, 2, 6, 0, 0, -100003), (43, .invokevirtual 64, 3, 2, 15, 0, 0), (46, .ireturn, 1, 0, 0, 0, 0), (47, .iload_n 3, 1, 0, 0, 0, 0), (48, .bipush 20, 2, 0, 0, 0, 0), (50, .if_icmp .le 10, 3, 0, 0, 0, 0), (53, .aload_n 0, 1, 0, 0, 0, 0), (54, .ldc 63, 2, 6, 0, 0, -100001), (56, .invokevirtual 64, 3, 2, 15, 0, 0), (59, .ireturn, 1, 0, 0, 0, 0), (60, .aload_n 0, 1, 0, 0, 0, 0), (61, .getfield 25, 3, 0, 11, 3, 0), (64, .iload_n 1, 1, 0, 0, 0, 0), (65, .aaload, 1, 0, 0, 0, 0), (66, .iload_n 2, 1, 0, 0, 0, 0), (67, .iload_n 3, 1, 0, 0, 0, 0), (68, .invokevirtual 409, 3, 2, 200, 0, 0), (71, .ireturn, 1, 0, 0, 0, 0)]
set_option maxRecDepth 100000 in
theorem sx_k199 : sx_c199.all (sx_chk 11 prog_1_method_36_code) = true := by decide +kernel
def sx_c200 : List sx_I := [(0, .aload_n 0, 1, 0, 0, 0, 0), (1, .iload_n 1, 1, 0, 0, 0, 0), (2, .putfield 15, 3, 0, 7, 0, 0), (5, .aload_n 0, 1, 0, 0, 0, 0), (6, .iload_n 1, 1, 0, 0, 0, 0), (7, .ifCond .ne 7, 3, 0, 0, 0, 0), (10, .iconst 0, 1, 0, 0, 0, 0), (11, .goto 4, 3, 0, 0, 0, 0), (14, .iload_n 2, 1, 0, 0, 0, 0), (15, .putfield 19, 3, 0, 7, 1, 0), (18, .iconst 0, 1, 0, 0, 0, 0), (19, .istore_n 3, 1, 0, 0, 0, 0), (20, .iload_n 3, 1, 0, 0, 0, 0), (21, .bipush 20, 2, 0, 0, 0, 0), (23, .if_icmp .ge 16, 3, 0, 0, 0, 0), (26, .aload_n 0, 1, 0, 0, 0, 0), (27, .getfield 9, 3, 0, 7, 2, 0), (30, .iload_n 3, 1, 0, 0, 0, 0), (31, .iconst 0, 1, 0, 0, 0, 0), (32, .iastore, 1, 0, 0, 0, 0), (33, .iinc 3 1, 3, 0, 0, 0, 0), (36, .goto (-16), 3, 0, 0, 0, 0), (39, .aload_n 0, 1, 0, 0, 0, 0), (40, .getfield 19, 3, 0, 7, 1, 0), (43, .ireturn, 1, 0, 0, 0, 0)]
set_option maxRecDepth 100000 in
theorem sx_k200 : sx_c200.all (sx_chk 7 prog_9_method_3_code) = true := by decide +kernel
def sx_c201 : List sx_I := [(0, .iload_n 1, 1, 0, 0, 0, 0), (1, .invokestatic 293, 3, 2, 122, 0, 0), (4, .ifCond .ne 10, 3, 0, 0, 0, 0), (7, .aload_n 0, 1, 0, 0, 0, 0), (8, .ldc 63, 2, 6, 0, 0, -100001), (10, .invokevirtual 64, 3, 2, 15, 0, 0), (13, .ireturn, 1, 0, 0, 0, 0), (14, .aload_n 0, 1, 0, 0, 0, 0), (15, .getfield 25, 3, 0, 11, 3, 0), (18, .iload_n 1, 1, 0, 0, 0, 0), (19, .aaload, 1, 0, 0, 0, 0), (20, .astore 4, 2, 0, 0, 0, 0), (22, .aload 4, 2, 0, 0, 0, 0), (24, .invokevirtual 296, 3, 2, 123, 0, 0), (27, .ifCond .eq 10, 3, 0, 0, 0, 0), (30, .aload_n 0, 1, 0, 0, 0, 0), (31, .ldc 158, 2, 6, 0, 0, -100002), (33, .invokevirtual 64, 3, 2, 15, 0, 0), (36, .ireturn, 1, 0, 0, 0, 0), (37, .iload_n 2, 1, 0, 0, 0, 0), (38, .iconst 0, 1, 0, 0, 0, 0), (39, .aload 4, 2, 0, 0, 0, 0), (41, .getfield 392, 3, 1, 7, 1, 0), (44, .iconst 1, 1, 0, 0, 0, 0), (45, .isub, 1, 0, 0, 0, 0), (46, .invokestatic 59, 3, 2, 14, 0, 0), (49, .ifCond .ne 10, 3, 0, 0, 0, 0), (52, .aload_n 0, 1, 0, 0, 0, 0), (53, .ldc 63, 2, 6, 0, 0, -100001), (55, .invokevirtual 64, 3, 2, 15, 0, 0), (58, .ireturn, 1, 0, 0, 0, 0), (59, .aload 4, 2, 0, 0, 0, 0), (61, .iload_n 2, 1, 0, 0, 0, 0), (62, .iload_n 3, 1, 0, 0, 0, 0), (63, .invokevirtual 412, 3, 2, 202, 0, 0), (66, .iconst 0, 1, 0, 0, 0, 0), (67, .ireturn, 1, 0, 0, 0, 0)]
set_option maxRecDepth 100000 in
theorem sx_k201 : sx_c201.all (sx_chk 11 prog_1_method_37_code) = true := by decide +kernel
def sx_c202 : List sx_I := [(0, .iload_n 1, 1, 0, 0, 0, 0), (1, .iconst 0, 1, 0, 0, 0, 0), (2, .bipush 19, 2, 0, 0, 0, 0), (4, .invokestatic 22, 3, 3, 14, 0, 0), (7, .ifCond .eq 43, 3, 0, 0, 0, 0), (10, .aload_n 0, 1, 0, 0, 0, 0), (11, .getfield 9, 3, 0, 7, 2, 0), (14, .iload_n 1, 1, 0, 0, 0, 0), (15, .aload_n 0, 1, 0, 0, 0, 0), (16, .getfield 15, 3, 0, 7, 0, 0), (19, .bipush 8, 2, 0, 0, 0, 0), (21, .if_icmp .ne 11, 3, 0, 0, 0, 0), (24, .iload_n 2, 1, 0, 0, 0, 0), (25, .sipush 255, 3, 0, 0, 0, 0), (28, .iand, 1, 0, 0, 0, 0), (29, .goto 20, 3, 0, 0, 0, 0), (32, .aload_n 0, 1, 0, 0, 0, 0), (33, .getfield 15, 3, 0, 7, 0, 0), (36, .bipush 16, 2, 0, 0, 0, 0), (38, .if_icmp .ne 10, 3, 0, 0, 0, 0), (41, .iload_n 2, 1, 0, 0, 0, 0), (42, .ldc 26, 2, 6, 0, 0, 65535), (44, .iand, 1, 0, 0, 0, 0), (45, .goto 4, 3, 0, 0, 0, 0), (48, .iload_n 2, 1, 0, 0, 0, 0), (49, .iastore, 1, 0, 0, 0, 0), (50, .return_, 1, 0, 0, 0, 0)]
set_option maxRecDepth 100000 in
theorem sx_k202 : sx_c202.all (sx_chk 7 prog_9_method_4_code) = true := by decide +kernel
def sx_c203 : List sx_I := [(0, .iload_n 1, 1, 0, 0, 0, 0), (1, .invokestatic 293, 3, 2, 122, 0, 0), (4, .ifCond .eq 10, 3, 0, 0, 0, 0), (7, .iload_n 3, 1, 0, 0, 0, 0), (8, .invokestatic 293, 3, 2, 122, 0, 0), (11, .ifCond .ne 10, 3, 0, 0, 0, 0), (14, .aload_n 0, 1, 0, 0, 0, 0), (15, .ldc 63, 2, 6, 0, 0, -100001), (17, .invokevirtual 64, 3, 2, 15, 0, 0), (20, .ireturn, 1, 0, 0, 0, 0), (21, .aload_n 0, 1, 0, 0, 0, 0), (22, .getfield 25, 3, 0, 11, 3, 0), (25, .iload_n 1, 1, 0, 0, 0, 0), (26, .aaload, 1, 0, 0, 0, 0), (27, .astore 6, 2, 0, 0, 0, 0), (29, .aload_n 0, 1, 0, 0, 0, 0), (30, .getfield 25, 3, 0, 11, 3, 0), (33, .iload_n 3, 1, 0, 0, 0, 0), (34, .aaload, 1, 0, 0, 0, 0), (35, .astore 7, 2, 0, 0, 0, 0), (37, .aload 6, 2, 0, 0, 0, 0), (39, .invokevirtual 296, 3, 2, 123, 0, 0), (42, .ifCond .ne 11, 3, 0, 0, 0, 0), (45, .aload 7, 2, 0, 0, 0, 0), (47, .invokevirtual 296, 3, 2, 123, 0, 0), (50, .ifCond .eq 10, 3, 0, 0, 0, 0), (53, .aload_n 0, 1, 0, 0, 0, 0), (54, .ldc 158, 2, 6, 0, 0, -100002), (56, .invokevirtual 64, 3, 2, 15, 0, 0), (59, .ireturn, 1, 0, 0, 0, 0), (60, .aload 6, 2, 0, 0, 0, 0), (62, .getfield 416, 3, 1, 7, 0, 0), (65, .aload 7, 2, 0, 0, 0, 0), (67, .getfield 416, 3, 1, 7, 0, 0), (70, .if_icmp .eq 10, 3, 0, 0, 0, 0), (73, .aload_n 0, 1, 0, 0, 0, 0), (74, .ldc 101, 2, 6, 0, 0, -100004), (76, .invokevirtual 64, 3, 2, 15, 0, 0), (79, .ireturn, 1, 0, 0, 0, 0), (80, .aload 6, 2, 0, 0, 0, 0), (82, .iload_n 2, 1, 0, 0, 0, 0), (83, .iload 5, 2, 0, 0, 0, 0), (85, .invokevirtual 419, 3, 2, 204, 0, 0), (88, .ifCond .eq 15, 3, 0, 0, 0, 0), (91, .aload 7, 2, 0, 0, 0, 0), (93, .iload 4, 2, 0, 0, 0, 0), (95, .iload 5, 2, 0, 0, 0, 0), (97, .invokevirtual 419, 3, 2, 204, 0, 0), (100, .ifCond .ne 10, 3, 0, 0, 0, 0), (103, .aload_n 0, 1, 0, 0, 0, 0), (104, .ldc 63, 2, 6, 0, 0, -100001), (106, .invokevirtual 64, 3, 2, 15, 0, 0), (109, .ireturn, 1, 0, 0, 0, 0), (110, .aload 6, 2, 0, 0, 0, 0), (112, .getfield 422, 3, 1, 7, 2, 0), (115, .iload_n 2, 1, 0, 0, 0, 0), (116, .aload 7, 2, 0, 0, 0, 0), (118, .getfield 422, 3, 1, 7, 2, 0), (121, .iload 4, 2, 0, 0, 0, 0), (123, .iload 5, 2, 0, 0, 0, 0), (125, .invokestatic 426, 3, 9, 0, 0, 0), (128, .iload 5, 2, 0, 0, 0, 0), (130, .ireturn, 1, 0, 0, 0, 0)]
set_option maxRecDepth 100000 in
theorem sx_k203 : sx_c203.all (sx_chk 11 prog_1_method_38_code) = true := by decide +kernel
def sx_c204 : List sx_I := [(0, .iload_n 2, 1, 0, 0, 0, 0), (1, .ifCond .lt 29, 3, 0, 0, 0, 0), (4, .iload_n 2, 1, 0, 0, 0, 0), (5, .aload_n 0, 1, 0, 0, 0, 0), (6, .getfield 19, 3, 0, 7, 1, 0), (9, .if_icmp .gt 21, 3, 0, 0, 0, 0), (12, .iload_n 1, 1, 0, 0, 0, 0), (13, .ifCond .lt 17, 3, 0, 0, 0, 0), (16, .iload_n 1, 1, 0, 0, 0, 0), (17, .aload_n 0, 1, 0, 0, 0, 0), (18, .getfield 19, 3, 0, 7, 1, 0), (21, .iload_n 2, 1, 0, 0, 0, 0), (22, .isub, 1, 0, 0, 0, 0), (23, .if_icmp .gt 7, 3, 0, 0, 0, 0), (26, .iconst 1, 1, 0, 0, 0, 0), (27, .goto 4, 3, 0, 0, 0, 0), (30, .iconst 0, 1, 0, 0, 0, 0), (31, .ireturn, 1, 0, 0, 0, 0)]
set_option maxRecDepth 100000 in
theorem sx_k204 : sx_c204.all (sx_chk 7 prog_9_method_6_code) = true := by decide +kernel
def sx_c205 : List sx_I := [(0, .aload_n 0, 1, 0, 0, 0, 0), (1, .getfield 16, 3, 0, 11, 1, 0), (4, .aload_n 0, 1, 0, 0, 0, 0), (5, .getfield 10, 3, 0, 11, 0, 0), (8, .invokevirtual 432, 3, 2, 206, 0, 0), (11, .aload_n 0, 1, 0, 0, 0, 0), (12, .iconst 1, 1, 0, 0, 0, 0), (13, .putfield 19, 3, 0, 11, 2, 0), (16, .aload_n 0, 1, 0, 0, 0, 0), (17, .getfield 10, 3, 0, 11, 0, 0), (20, .getfield 219, 3, 1, 10, 9, 0), (23, .ireturn, 1, 0, 0, 0, 0)]
set_option maxRecDepth 100000 in
theorem sx_k205 : sx_c205.all (sx_chk 11 prog_1_method_39_code) = true := by decide +kernel
def sx_c206 : List sx_I := [(0, .aload_n 0, 1, 0, 0, 0, 0), (1, .getfield 12, 3, 0, 10, 0, 0), (4, .aload_n 1, 1, 0, 0, 0, 0), (5, .getfield 12, 3, 0, 10, 0, 0), (8, .invokevirtual 53, 3, 2, 207, 0, 0), (11, .iconst 0, 1, 0, 0, 0, 0), (12, .istore_n 2, 1, 0, 0, 0, 0), (13, .iload_n 2, 1, 0, 0, 0, 0), (14, .bipush 10, 2, 0, 0, 0, 0), (16, .if_icmp .ge 24, 3, 0, 0, 0, 0), (19, .aload_n 0, 1, 0, 0, 0, 0), (20, .getfield 20, 3, 0, 10, 1, 0), (23, .iload_n 2, 1, 0, 0, 0, 0), (24, .aaload, 1, 0, 0, 0, 0), (25, .aload_n 1, 1, 0, 0, 0, 0), (26, .getfield 20, 3, 0, 10, 1, 0), (29, .iload_n 2, 1, 0, 0, 0, 0), (30, .aaload, 1, 0, 0, 0, 0), (31, .invokevirtual 57, 3, 2, 208, 0, 0), (34, .iinc 2 1, 3, 0, 0, 0, 0), (37, .goto (-24), 3, 0, 0, 0, 0), (40, .aload_n 0, 1, 0, 0, 0, 0), (41, .aload_n 1, 1, 0, 0, 0, 0), (42, .getfield 60, 3, 0, 10, 2, 0), (45, .putfield 60, 3, 0, 10, 2, 0), (48, .iconst 0, 1, 0, 0, 0, 0), (49, .istore_n 2, 1, 0, 0, 0, 0), (50, .iload_n 2, 1, 0, 0, 0, 0), (51, .bipush 14, 2, 0, 0, 0, 0), (53, .if_icmp .ge 24, 3, 0, 0, 0, 0), (56, .aload_n 0, 1, 0, 0, 0, 0), (57, .getfield 26, 3, 0, 10, 3, 0), (60, .iload_n 2, 1, 0, 0, 0, 0), (61, .aaload, 1, 0, 0, 0, 0), (62, .aload_n 1, 1, 0, 0, 0, 0), (63, .getfield 26, 3, 0, 10, 3, 0), (66, .iload_n 2, 1, 0, 0, 0, 0), (67, .aaload, 1, 0, 0, 0, 0), (68, .invokevirtual 64, 3, 2, 209, 0, 0), (71, .iinc 2 1, 3, 0, 0, 0, 0), (74, .goto (-24), 3, 0, 0, 0, 0), (77, .aload_n 0, 1, 0, 0, 0, 0), (78, .aload_n 1, 1, 0, 0, 0, 0), (79, .getfield 67, 3, 0, 10, 4, 0), (82, .putfield 67, 3, 0, 10, 4, 0), (85, .iconst 0, 1, 0, 0, 0, 0), (86, .istore_n 2, 1, 0, 0, 0, 0), (87, .iload_n 2, 1, 0, 0, 0, 0), (88, .bipush 12, 2, 0, 0, 0, 0), (90, .if_icmp .ge 24, 3, 0, 0, 0, 0), (93, .aload_n 0, 1, 0, 0, 0, 0), (94, .getfield 32, 3, 0, 10, 5, 0), (97, .iload_n 2, 1, 0, 0, 0, 0), (98, .aaload, 1, 0, 0, 0, 0), (99, .aload_n 1, 1, 0, 0, 0, 0), (100, .getfield 32, 3, 0, 10, 5, 0), (103, .iload_n 2, 1, 0, 0, 0, 0), (104, .aaload, 1, 0, 0, 0, 0), (105, .invokevirtual 70, 3, 2, 210, 0, 0), (108, .iinc 2 1, 3, 0, 0, 0, 0), (111, .goto (-24), 3, 0, 0, 0, 0), (114, .aload_n 0, 1, 0, 0, 0, 0), (115, .aload_n 1, 1, 0, 0, 0, 0), (116, .getfield 73, 3, 0, 10, 6, 0), (119, .putfield 73, 3, 0, 10, 6, 0), (122, .aload_n 0, 1, 0, 0, 0, 0), (123, .getfield 39, 3, 0, 10, 7, 0), (126, .aload_n 1, 1, 0, 0, 0, 0), (127, .getfield 39, 3, 0, 10, 7, 0), (130, .invokevirtual 76, 3, 2, 211, 0, 0), (133, .iconst 0, 1, 0, 0, 0, 0), (134, .istore_n 2, 1, 0, 0, 0, 0), (135, .iload_n 2, 1, 0, 0, 0, 0), (136, .iconst 5, 1, 0, 0, 0, 0), (137, .if_icmp .ge 24, 3, 0, 0, 0, 0), (140, .aload_n 0, 1, 0, 0, 0, 0), (141, .getfield 45, 3, 0, 10, 8, 0), (144, .iload_n 2, 1, 0, 0, 0, 0), (145, .aaload, 1, 0, 0, 0, 0), (146, .aload_n 1, 1, 0, 0, 0, 0), (147, .getfield 45, 3, 0, 10, 8, 0), (150, .iload_n 2, 1, 0, 0, 0, 0), (151, .aaload, 1, 0, 0, 0, 0), (152, .invokevirtual 79, 3, 2, 164, 0, 0), (155, .iinc 2 1, 3, 0, 0, 0, 0), (158, .goto (-23), 3, 0, 0, 0, 0), (161, .aload_n 0, 1, 0, 0, 0, 0), (162, .aload_n 1, 1, 0, 0, 0, 0), (163, .getfield 82, 3, 0, 10, 9, 0), (166, .putfield 82, 3, 0, 10, 9, 0), (169, .aload_n 0, 1, 0, 0, 0, 0), (170, .aload_n 1, 1, 0, 0, 0, 0), (171, .getfield 85, 3, 0, 10, 10, 0), (174, .putfield 85, 3, 0, 10, 10, 0), (177, .aload_n 0, 1, 0, 0, 0, 0), (178, .aload_n 1, 1, 0, 0, 0, 0), (179, .getfield 88, 3, 0, 10, 11, 0), (182, .putfield 88, 3, 0, 10, 11, 0), (185, .return_, 1, 0, 0, 0, 0)]
set_option maxRecDepth 100000 in
theorem sx_k206 : sx_c206.all (sx_chk 10 prog_12_method_2_code) = true := by decide +kernel
def sx_c207 : List sx_I := [(0, .aload_n 1, 1, 0, 0, 0, 0), (1, .getfield 9, 3, 0, 6, 0, 0), (4, .iconst 0, 1, 0, 0, 0, 0), (5, .aload_n 0, 1, 0, 0, 0, 0), (6, .getfield 9, 3, 0, 6, 0, 0), (9, .iconst 0, 1, 0, 0, 0, 0), (10, .bipush 36, 2, 0, 0, 0, 0), (12, .invokestatic 22, 3, 9, 0, 0, 0), (15, .aload_n 1, 1, 0, 0, 0, 0), (16, .getfield 15, 3, 0, 6, 1, 0), (19, .iconst 0, 1, 0, 0, 0, 0), (20, .aload_n 0, 1, 0, 0, 0, 0), (21, .getfield 15, 3, 0, 6, 1, 0), (24, .iconst 0, 1, 0, 0, 0, 0), (25, .bipush 36, 2, 0, 0, 0, 0), (27, .invokestatic 22, 3, 9, 0, 0, 0), (30, .return_, 1, 0, 0, 0, 0)]
set_option maxRecDepth 100000 in
theorem sx_k207 : sx_c207.all (sx_chk 6 prog_8_method_2_code) = true := by decide +kernel
def sx_c208 : List sx_I := [(0, .aload_n 0, 1, 0, 0, 0, 0), (1, .aload_n 1, 1, 0, 0, 0, 0), (2, .getfield 9, 3, 0, 4, 0, 0), (5, .aload_n 1, 1, 0, 0, 0, 0), (6, .getfield 15, 3, 0, 4, 1, 0), (9, .aload_n 1, 1, 0, 0, 0, 0), (10, .getfield 18, 3, 0, 4, 2, 0), (13, .aload_n 1, 1, 0, 0, 0, 0), (14, .getfield 21, 3, 0, 4, 3, 0), (17, .invokevirtual 24, 3, 2, 21, 0, 0), (20, .aload_n 0, 1, 0, 0, 0, 0), (21, .aload_n 1, 1, 0, 0, 0, 0), (22, .getfield 28, 3, 0, 4, 4, 0), (25, .putfield 28, 3, 0, 4, 4, 0), (28, .aload_n 0, 1, 0, 0, 0, 0), (29, .aload_n 1, 1, 0, 0, 0, 0), (30, .getfield 31, 3, 0, 4, 5, 0), (33, .putfield 31, 3, 0, 4, 5, 0), (36, .aload_n 0, 1, 0, 0, 0, 0), (37, .aload_n 1, 1, 0, 0, 0, 0), (38, .getfield 34, 3, 0, 4, 6, 0), (41, .putfield 34, 3, 0, 4, 6, 0), (44, .return_, 1, 0, 0, 0, 0)]
set_option maxRecDepth 100000 in
theorem sx_k208 : sx_c208.all (sx_chk 4 prog_6_method_2_code) = true := by decide +kernel
def sx_c209 : List sx_I := [(0, .aload_n 0, 1, 0, 0, 0, 0), (1, .aload_n 1, 1, 0, 0, 0, 0), (2, .getfield 13, 3, 0, 3, 0, 0), (5, .aload_n 1, 1, 0, 0, 0, 0), (6, .getfield 17, 3, 0, 3, 1, 0), (9, .aload_n 1, 1, 0, 0, 0, 0), (10, .getfield 20, 3, 0, 3, 2, 0), (13, .aload_n 1, 1, 0, 0, 0, 0), (14, .getfield 23, 3, 0, 3, 3, 0), (17, .invokevirtual 26, 3, 2, 48, 0, 0), (20, .aload_n 0, 1, 0, 0, 0, 0), (21, .aload_n 1, 1, 0, 0, 0, 0), (22, .getfield 30, 3, 0, 3, 4, 0), (25, .putfield 30, 3, 0, 3, 4, 0), (28, .aload_n 0, 1, 0, 0, 0, 0), (29, .aload_n 1, 1, 0, 0, 0, 0), (30, .getfield 33, 3, 0, 3, 5, 0), (33, .putfield 33, 3, 0, 3, 5, 0), (36, .aload_n 0, 1, 0, 0, 0, 0), (37, .aload_n 1, 1, 0, 0, 0, 0), (38, .getfield 7, 3, 0, 3, 6, 0), (41, .putfield 7, 3, 0, 3, 6, 0), (44, .return_, 1, 0, 0, 0, 0)]
set_option maxRecDepth 100000 in
theorem sx_k209 : sx_c209.all (sx_chk 3 prog_5_method_2_code) = true := by decide +kernel
def sx_c210 : List sx_I := [(0, .aload_n 0, 1, 0, 0, 0, 0), (1, .aload_n 1, 1, 0, 0, 0, 0), (2, .getfield 7, 3, 0, 5, 0, 0), (5, .aload_n 1, 1, 0, 0, 0, 0), (6, .getfield 13, 3, 0, 5, 2, 0), (9, .aload_n 1, 1, 0, 0, 0, 0), (10, .getfield 16, 3, 0, 5, 1, 0), (13, .aload_n 1, 1, 0, 0, 0, 0), (14, .getfield 19, 3, 0, 5, 3, 0), (17, .aload_n 1, 1, 0, 0, 0, 0), (18, .getfield 22, 3, 0, 5, 4, 0), (21, .invokevirtual 25, 3, 2, 61, 0, 0), (24, .aload_n 0, 1, 0, 0, 0, 0), (25, .aload_n 1, 1, 0, 0, 0, 0), (26, .getfield 29, 3, 0, 5, 5, 0), (29, .putfield 29, 3, 0, 5, 5, 0), (32, .aload_n 0, 1, 0, 0, 0, 0), (33, .aload_n 1, 1, 0, 0, 0, 0), (34, .getfield 32, 3, 0, 5, 6, 0), (37, .putfield 32, 3, 0, 5, 6, 0), (40, .aload_n 0, 1, 0, 0, 0, 0), (41, .aload_n 1, 1, 0, 0, 0, 0), (42, .getfield 35, 3, 0, 5, 7, 0), (45, .putfield 35, 3, 0, 5, 7, 0), (48, .return_, 1, 0, 0, 0, 0)]
set_option maxRecDepth 100000 in
theorem sx_k210 : sx_c210.all (sx_chk 5 prog_7_method_2_code) = true := by decide +kernel
def sx_c211 : List sx_I := [(0, .aload_n 1, 1, 0, 0, 0, 0), (1, .getfield 9, 3, 0, 1, 0, 0), (4, .iconst 0, 1, 0, 0, 0, 0), (5, .aload_n 0, 1, 0, 0, 0, 0), (6, .getfield 9, 3, 0, 1, 0, 0), (9, .iconst 0, 1, 0, 0, 0, 0), (10, .bipush 40, 2, 0, 0, 0, 0), (12, .invokestatic 30, 3, 9, 0, 0, 0), (15, .aload_n 1, 1, 0, 0, 0, 0), (16, .getfield 15, 3, 0, 1, 1, 0), (19, .iconst 0, 1, 0, 0, 0, 0), (20, .aload_n 0, 1, 0, 0, 0, 0), (21, .getfield 15, 3, 0, 1, 1, 0), (24, .iconst 0, 1, 0, 0, 0, 0), (25, .bipush 40, 2, 0, 0, 0, 0), (27, .invokestatic 30, 3, 9, 0, 0, 0), (30, .aload_n 1, 1, 0, 0, 0, 0), (31, .getfield 18, 3, 0, 1, 2, 0), (34, .iconst 0, 1, 0, 0, 0, 0), (35, .aload_n 0, 1, 0, 0, 0, 0), (36, .getfield 18, 3, 0, 1, 2, 0), (39, .iconst 0, 1, 0, 0, 0, 0), (40, .bipush 40, 2, 0, 0, 0, 0), (42, .invokestatic 30, 3, 9, 0, 0, 0), (45, .aload_n 1, 1, 0, 0, 0, 0), (46, .getfield 21, 3, 0, 1, 3, 0), (49, .iconst 0, 1, 0, 0, 0, 0), (50, .aload_n 0, 1, 0, 0, 0, 0), (51, .getfield 21, 3, 0, 1, 3, 0), (54, .iconst 0, 1, 0, 0, 0, 0), (55, .bipush 40, 2, 0, 0, 0, 0), (57, .invokestatic 30, 3, 9, 0, 0, 0), (60, .aload_n 0, 1, 0, 0, 0, 0), (61, .aload_n 1, 1, 0, 0, 0, 0), (62, .getfield 36, 3, 0, 1, 4, 0), (65, .putfield 36, 3, 0, 1, 4, 0), (68, .aload_n 0, 1, 0, 0, 0, 0), (69, .aload_n 1, 1, 0, 0, 0, 0), (70, .getfield 40, 3, 0, 1, 5, 0), (73, .putfield 40, 3, 0, 1, 5, 0), (76, .aload_n 1, 1, 0, 0, 0, 0), (77, .getfield 24, 3, 0, 1, 6, 0), (80, .iconst 0, 1, 0, 0, 0, 0), (81, .aload_n 0, 1, 0, 0, 0, 0), (82, .getfield 24, 3, 0, 1, 6, 0), (85, .iconst 0, 1, 0, 0, 0, 0), (86, .bipush 12, 2, 0, 0, 0, 0), (88, .invokestatic 30, 3, 9, 0, 0, 0), (91, .aload_n 1, 1, 0, 0, 0, 0), (92, .getfield 27, 3, 0, 1, 7, 0), (95, .iconst 0, 1, 0, 0, 0, 0), (96, .aload_n 0, 1, 0, 0, 0, 0), (97, .getfield 27, 3, 0, 1, 7, 0), (100, .iconst 0, 1, 0, 0, 0, 0), (101, .bipush 12, 2, 0, 0, 0, 0), (103, .invokestatic 30, 3, 9, 0, 0, 0), (106, .aload_n 0, 1, 0, 0, 0, 0), (107, .aload_n 1, 1, 0, 0, 0, 0), (108, .getfield 43, 3, 0, 1, 8, 0), (111, .putfield 43, 3, 0, 1, 8, 0), (114, .return_, 1, 0, 0, 0, 0)]
set_option maxRecDepth 100000 in
theorem sx_k211 : sx_c211.all (sx_chk 1 prog_3_method_2_code) = true := by decide +kernel
def sx_c212 : List sx_I := [(0, .aload_n 0, 1, 0, 0, 0, 0), (1, .getfield 19, 3, 0, 11, 2, 0), (4, .ifCond .ne 10, 3, 0, 0, 0, 0), (7, .aload_n 0, 1, 0, 0, 0, 0), (8, .ldc 140, 2, 6, 0, 0, -100006), (10, .invokevirtual 64, 3, 2, 15, 0, 0), (13, .ireturn, 1, 0, 0, 0, 0), (14, .aload_n 0, 1, 0, 0, 0, 0), (15, .getfield 10, 3, 0, 11, 0, 0), (18, .aload_n 0, 1, 0, 0, 0, 0), (19, .getfield 16, 3, 0, 11, 1, 0), (22, .invokevirtual 432, 3, 2, 206, 0, 0), (25, .aload_n 0, 1, 0, 0, 0, 0), (26, .getfield 10, 3, 0, 11, 0, 0), (29, .getfield 219, 3, 1, 10, 9, 0), (32, .ireturn, 1, 0, 0, 0, 0)]
set_option maxRecDepth 100000 in
theorem sx_k212 : sx_c212.all (sx_chk 11 prog_1_method_40_code) = true := by decide +kernel
def sx_c213 : List sx_I := [(0, .iload_n 1, 1, 0, 0, 0, 0), (1, .tableswitch 108 0 7 #[47, 55, 63, 71, 79, 87, 95, 103], 47, 0, 0, 0, 0), (48, .aload_n 0, 1, 0, 0, 0, 0), (49, .getfield 10, 3, 0, 11, 0, 0), (52, .invokevirtual 435, 3, 2, 214, 0, 0), (55, .ireturn, 1, 0, 0, 0, 0), (56, .aload_n 0, 1, 0, 0, 0, 0), (57, .getfield 10, 3, 0, 11, 0, 0), (60, .invokevirtual 438, 3, 2, 215, 0, 0), (63, .ireturn, 1, 0, 0, 0, 0), (64, .aload_n 0, 1, 0, 0, 0, 0), (65, .getfield 10, 3, 0, 11, 0, 0), (68, .invokevirtual 441, 3, 2, 216, 0, 0), (71, .ireturn, 1, 0, 0, 0, 0), (72, .aload_n 0, 1, 0, 0, 0, 0), (73, .getfield 10, 3, 0, 11, 0, 0), (76, .getfield 219, 3, 1, 10, 9, 0), (79, .ireturn, 1, 0, 0, 0, 0), (80, .aload_n 0, 1, 0, 0, 0, 0), (81, .getfield 10, 3, 0, 11, 0, 0), (84, .invokevirtual 444, 3, 2, 217, 0, 0), (87, .ireturn, 1, 0, 0, 0, 0), (88, .aload_n 0, 1, 0, 0, 0, 0), (89, .getfield 10, 3, 0, 11, 0, 0), (92, .getfield 447, 3, 1, 10, 10, 0), (95, .ireturn, 1, 0, 0, 0, 0), (96, .aload_n 0, 1, 0, 0, 0, 0), (97, .getfield 10, 3, 0, 11, 0, 0), (100, .getfield 450, 3, 1, 10, 11, 0), (103, .ireturn, 1, 0, 0, 0, 0), (104, .aload_n 0, 1, 0, 0, 0, 0), (105, .getfield 51, 3, 0, 11, 7, 0), (108, .ireturn, 1, 0, 0, 0, 0), (109, .aload_n 0, 1, 0, 0, 0, 0), (110, .ldc 63, 2, 6, 0, 0, -100001), (112, .invokevirtual 64, 3, 2, 15, 0, 0), (115, .ireturn, 1, 0, 0, 0, 0)]
set_option maxRecDepth 100000 in
theorem sx_k213 : sx_c213.all (sx_chk 11 prog_1_method_41_code) = true := by decide +kernel
def sx_c214 : List sx_I := [(0, .iconst 0, 1, 0, 0, 0, 0), (1, .istore_n 1, 1, 0, 0, 0, 0), (2, .iconst 0, 1, 0, 0, 0, 0), (3, .istore_n 2, 1, 0, 0, 0, 0), (4, .iload_n 2, 1, 0, 0, 0, 0), (5, .aload_n 0, 1, 0, 0, 0, 0), (6, .getfield 60, 3, 0, 10, 2, 0), (9, .if_icmp .ge 23, 3, 0, 0, 0, 0), (12, .aload_n 0, 1, 0, 0, 0, 0), (13, .iload_n 2, 1, 0, 0, 0, 0), (14, .invokevirtual 107, 3, 2, 20, 0, 0), (17, .getfield 177, 3, 1, 4, 6, 0), (20, .ifCond .ne 6, 3, 0, 0, 0, 0), (23, .iinc 1 1, 3, 0, 0, 0, 0), (26, .iinc 2 1, 3, 0, 0, 0, 0), (29, .goto (-25), 3, 0, 0, 0, 0), (32, .iload_n 1, 1, 0, 0, 0, 0), (33, .ireturn, 1, 0, 0, 0, 0)]
set_option maxRecDepth 100000 in
theorem sx_k214 : sx_c214.all (sx_chk 10 prog_12_method_22_code) = true := by decide +kernel
def sx_c215 : List sx_I := [(0, .iconst 0, 1, 0, 0, 0, 0), (1, .istore_n 1, 1, 0, 0, 0, 0), (2, .iconst 0, 1, 0, 0, 0, 0), (3, .istore_n 2, 1, 0, 0, 0, 0), (4, .iload_n 2, 1, 0, 0, 0, 0), (5, .bipush 14, 2, 0, 0, 0, 0), (7, .if_icmp .ge 24, 3, 0, 0, 0, 0), (10, .aload_n 0, 1, 0, 0, 0, 0), (11, .getfield 26, 3, 0, 10, 3, 0), (14, .iload_n 2, 1, 0, 0, 0, 0), (15, .aaload, 1, 0, 0, 0, 0), (16, .getfield 180, 3, 1, 3, 6, 0), (19, .ifCond .ne 6, 3, 0, 0, 0, 0), (22, .iinc 1 1, 3, 0, 0, 0, 0), (25, .iinc 2 1, 3, 0, 0, 0, 0), (28, .goto (-24), 3, 0, 0, 0, 0), (31, .iload_n 1, 1, 0, 0, 0, 0), (32, .ireturn, 1, 0, 0, 0, 0)]
set_option maxRecDepth 100000 in
theorem sx_k215 : sx_c215.all (sx_chk 10 prog_12_method_23_code) = true := by decide +kernel
def sx_c216 : List sx_I := [(0, .iconst 0, 1, 0, 0, 0, 0), (1, .istore_n 1, 1, 0, 0, 0, 0), (2, .iconst 0, 1, 0, 0, 0, 0), (3, .istore_n 2, 1, 0, 0, 0, 0), (4, .iload_n 2, 1, 0, 0, 0, 0), (5, .bipush 12, 2, 0, 0, 0, 0), (7, .if_icmp .ge 24, 3, 0, 0, 0, 0), (10, .aload_n 0, 1, 0, 0, 0, 0), (11, .getfield 32, 3, 0, 10, 5, 0), (14, .iload_n 2, 1, 0, 0, 0, 0), (15, .aaload, 1, 0, 0, 0, 0), (16, .getfield 129, 3, 1, 5, 7, 0), (19, .ifCond .eq 6, 3, 0, 0, 0, 0), (22, .iinc 1 1, 3, 0, 0, 0, 0), (25, .iinc 2 1, 3, 0, 0, 0, 0), (28, .goto (-24), 3, 0, 0, 0, 0), (31, .iload_n 1, 1, 0, 0, 0, 0), (32, .ireturn, 1, 0, 0, 0, 0)]
set_option maxRecDepth 100000 in
theorem sx_k216 : sx_c216.all (sx_chk 10 prog_12_method_24_code) = true := by decide +kernel
def sx_c217 : List sx_I := [(0, .iconst 0, 1, 0, 0, 0, 0), (1, .istore_n 1, 1, 0, 0, 0, 0), (2, .iconst 0, 1, 0, 0, 0, 0), (3, .istore_n 2, 1, 0, 0, 0, 0), (4, .iload_n 2, 1, 0, 0, 0, 0), (5, .bipush 10, 2, 0, 0, 0, 0), (7, .if_icmp .ge 31, 3, 0, 0, 0, 0), (10, .iload_n 1, 1, 0, 0, 0, 0), (11, .aload_n 0, 1, 0, 0, 0, 0), (12, .getfield 20, 3, 0, 10, 1, 0), (15, .iload_n 2, 1, 0, 0, 0, 0), (16, .aaload, 1, 0, 0, 0, 0), (17, .getfield 174, 3, 1, 4, 4, 0), (20, .aload_n 0, 1, 0, 0, 0, 0), (21, .getfield 20, 3, 0, 10, 1, 0), (24, .iload_n 2, 1, 0, 0, 0, 0), (25, .aaload, 1, 0, 0, 0, 0), (26, .getfield 183, 3, 1, 4, 5, 0), (29, .iadd, 1, 0, 0, 0, 0), (30, .iadd, 1, 0, 0, 0, 0), (31, .istore_n 1, 1, 0, 0, 0, 0), (32, .iinc 2 1, 3, 0, 0, 0, 0), (35, .goto (-31), 3, 0, 0, 0, 0), (38, .iload_n 1, 1, 0, 0, 0, 0), (39, .ireturn, 1, 0, 0, 0, 0)]
set_option maxRecDepth 100000 in
theorem sx_k217 : sx_c217.all (sx_chk 10 prog_12_method_25_code) = true := by decide +kernel
def sx_c218 : List sx_I := [(0, .aload_n 0, 1, 0, 0, 0, 0), (1, .invokespecial 1, 3, 8, 0, 0, 0), (4, .aload_n 0, 1, 0, 0, 0, 0), (5, .sipush 2973, 3, 0, 0, 0, 0), (8, .newarray .int, 2, 0, 0, 0, 0), (10, .putfield 7, 3, 0, 12, 0, 0), (13, .aload_n 0, 1, 0, 0, 0, 0), (14, .sipush 2973, 3, 0, 0, 0, 0), (17, .newarray .int, 2, 0, 0, 0, 0), (19, .putfield 13, 3, 0, 12, 1, 0), (22, .aload_n 0, 1, 0, 0, 0, 0), (23, .bipush 10, 2, 0, 0, 0, 0), (25, .newarray .int, 2, 0, 0, 0, 0), (27, .putfield 16, 3, 0, 12, 4, 0), (30, .aload_n 0, 1, 0, 0, 0, 0), (31, .sipush 160, 3, 0, 0, 0, 0), (34, .newarray .byte, 2, 0, 0, 0, 0), (36, .putfield 19, 3, 0, 12, 5, 0), (39, .aload_n 0, 1, 0, 0, 0, 0), (40, .bipush 59, 2, 0, 0, 0, 0), (42, .newarray .char, 2, 0, 0, 0, 0), (44, .dup, 1, 0, 0, 0, 0), (45, .iconst 0, 1, 0, 0, 0, 0), (46, .bipush 119, 2, 0, 0, 0, 0), (48, .castore, 1, 0, 0, 0, 0), (49, .dup, 1, 0, 0, 0, 0), (50, .iconst 1, 1, 0, 0, 0, 0), (51, .bipush 97, 2, 0, 0, 0, 0), (53, .castore, 1, 0, 0, 0, 0), (54, .dup, 1, 0, 0, 0, 0), (55, .iconst 2, 1, 0, 0, 0, 0), (56, .bipush 118, 2, 0, 0, 0, 0), (58, .castore, 1, 0, 0, 0, 0), (59, .dup, 1, 0, 0, 0, 0), (60, .iconst 3, 1, 0, 0, 0, 0), (61, .bipush 101, 2, 0, 0, 0, 0), (63, .castore, 1, 0, 0, 0, 0), (64, .dup, 1, 0, 0, 0, 0), (65, .iconst 4, 1, 0, 0, 0, 0), (66, .bipush 115, 2, 0, 0, 0, 0), (68, .castore, 1, 0, 0, 0, 0), (69, .dup, 1, 0, 0, 0, 0), (70, .iconst 5, 1, 0, 0, 0, 0), (71, .bipush 108, 2, 0, 0, 0, 0), (73, .castore, 1, 0, 0, 0, 0), (74, .dup, 1, 0, 0, 0, 0), (75, .bipush 6, 2, 0, 0, 0, 0), (77, .bipush 111, 2, 0, 0, 0, 0), (79, .castore, 1, 0, 0, 0, 0), (80, .dup, 1, 0, 0, 0, 0), (81, .bipush 7, 2, 0, 0, 0, 0), (83, .bipush 97, 2, 0, 0, 0, 0), (85, .castore, 1, 0, 0, 0, 0), (86, .dup, 1, 0, 0, 0, 0), (87, .bipush 8, 2, 0, 0, 0, 0), (89, .bipush 100, 2, 0, 0, 0, 0), (91, .castore, 1, 0, 0, 0, 0), (92, .dup, 1, 0, 0, 0, 0), (93, .bipush 9, 2, 0, 0, 0, 0), (95, .bipush 115, 2, 0, 0, 0, 0), (97, .castore, 1, 0, 0, 0, 0), (98, .dup, 1, 0, 0, 0, 0), (99, .bipush 10, 2, 0, 0, 0, 0), (101, .bipush 116, 2, 0, 0, 0, 0), (103, .castore, 1, 0, 0, 0, 0), (104, .dup, 1, 0, 0, 0, 0), (105, .bipush 11, 2, 0, 0, 0, 0), (107, .bipush 114, 2, 0, 0, 0, 0), (109, .castore, 1, 0, 0, 0, 0), (110, .dup, 1, 0, 0, 0, 0), (111, .bipush 12, 2, 0, 0, 0, 0), (113, .bipush 101, 2, 0, 0, 0, 0), (115, .castore, 1, 0, 0, 0, 0), (116, .dup, 1, 0, 0, 0, 0), (117, .bipush 13, 2, 0, 0, 0, 0), (119, .bipush 110, 2, 0, 0, 0, 0), (121, .castore, 1, 0, 0, 0, 0), (122, .dup, 1, 0, 0, 0, 0), (123, .bipush 14, 2, 0, 0, 0, 0), (125, .bipush 103, 2, 0, 0, 0, 0), (127, .castore, 1, 0, 0, 0, 0), (128, .dup, 1, 0, 0, 0, 0), (129, .bipush 15, 2, 0, 0, 0, 0), (131, .bipush 116, 2, 0, 0, 0, 0), (133, .castore, 1, 0, 0, 0, 0), (134, .dup, 1, 0, 0, 0, 0), (135, .bipush 16, 2, 0, 0, 0, 0), (137, .bipush 104, 2, 0, 0, 0, 0), (139, .castore, 1, 0, 0, 0, 0), (140, .dup, 1, 0, 0, 0, 0), (141, .bipush 17, 2, 0, 0, 0, 0), (143, .bipush 97, 2, 0, 0, 0, 0), (145, .castore, 1, 0, 0, 0, 0), (146, .dup, 1, 0, 0, 0, 0), (147, .bipush 18, 2, 0, 0, 0, 0), (149, .bipush 103, 2, 0, 0, 0, 0), (151, .castore, 1, 0, 0, 0, 0), (152, .dup, 1, 0, 0, 0, 0), (153, .bipush 19, 2, 0, 0, 0, 0), (155, .bipush 101, 2, 0, 0, 0, 0), (157, .castore, 1, 0, 0, 0, 0), (158, .dup, 1, 0, 0, 0, 0), (159, .bipush 20, 2, 0, 0, 0, 0), (161, .bipush 107, 2, 0, 0, 0, 0), (163, .castore, 1, 0, 0, 0, 0), (164, .dup, 1, 0, 0, 0, 0), (165, .bipush 21, 2, 0, 0, 0, 0), (167, .bipush 105, 2, 0, 0, 0, 0), (169, .castore, 1, 0, 0, 0, 0), (170, .dup, 1, 0, 0, 0, 0), (171, .bipush 22, 2, 0, 0, 0, 0), (173, .bipush 110, 2, 0, 0, 0, 0), (175, .castore, 1, 0, 0, 0, 0), (176, .dup, 1, 0, 0, 0, 0), (177, .bipush 23, 2, 0, 0, 0, 0), (179, .bipush 104, 2, 0, 0, 0, 0), (181, .castore, 1, 0, 0, 0, 0), (182, .dup, 1, 0, 0, 0, 0), (183, .bipush 24, 2, 0, 0, 0, 0), (185, .bipush 101, 2, 0, 0, 0, 0), (187, .castore, 1, 0, 0, 0, 0), (188, .dup, 1, 0, 0, 0, 0), (189, .bipush 25, 2, 0, 0, 0, 0), (191, .bipush 97, 2, 0, 0, 0, 0), (193, .castore, 1, 0, 0, 0, 0), (194, .dup, 1, 0, 0, 0, 0), (195, .bipush 26, 2, 0, 0, 0, 0), (197, .bipush 100, 2, 0, 0, 0, 0), (199, .castore, 1, 0, 0, 0, 0), (200, .dup, 1, 0, 0, 0, 0), (201, .bipush 27, 2, 0, 0, 0, 0), (203, .bipush 115, 2, 0, 0, 0, 0), (205, .castore, 1, 0, 0, 0, 0), (206, .dup, 1, 0, 0, 0, 0), (207, .bipush 28, 2, 0, 0, 0, 0), (209, .bipush 119, 2, 0, 0, 0, 0), (211, .castore, 1, 0, 0, 0, 0), (212, .dup, 1, 0, 0, 0, 0), (213, .bipush 29, 2, 0, 0, 0, 0), (215, .bipush 97, 2, 0, 0, 0, 0), (217, .castore, 1, 0, 0, 0, 0), (218, .dup, 1, 0, 0, 0, 0), (219, .bipush 30, 2, 0, 0, 0, 0), (221, .bipush 116, 2, 0, 0, 0, 0), (223, .castore, 1, 0, 0, 0, 0), (224, .dup, 1, 0, 0, 0, 0), (225, .bipush 31, 2, 0, 0, 0, 0), (227, .bipush 101, 2, 0, 0, 0, 0), (229, .castore, 1, 0, 0, 0, 0), (230, .dup, 1, 0, 0, 0, 0), (231, .bipush 32, 2, 0, 0, 0, 0), (233, .bipush 114, 2, 0, 0, 0, 0), (235, .castore, 1, 0, 0, 0, 0), (236, .dup, 1, 0, 0, 0, 0), (237, .bipush 33, 2, 0, 0, 0, 0), (239, .bipush 100, 2, 0, 0, 0, 0), (241, .castore, 1, 0, 0, 0, 0), (242, .dup, 1, 0, 0, 0, 0), (243, .bipush 34, 2, 0, 0, 0, 0), (245, .bipush 97, 2, 0, 0, 0, 0), (247, .castore, 1, 0, 0, 0, 0), (248, .dup, 1, 0, 0, 0, 0), (249, .bipush 35, 2, 0, 0, 0, 0), (251, .bipush 121, 2, 0, 0, 0, 0), (253, .castore, 1, 0, 0, 0, 0), (254, .dup, 1, 0, 0, 0, 0), (255, .bipush 36, 2, 0, 0, 0, 0), (257, .bipush 98, 2, 0, 0, 0, 0), (259, .castore, 1, 0, 0, 0, 0), (260, .dup, 1, 0, 0, 0, 0), (261, .bipush 37, 2, 0, 0, 0, 0), (263, .bipush 111, 2, 0, 0, 0, 0), (265, .castore, 1, 0, 0, 0, 0), (266, .dup, 1, 0, 0, 0, 0), (267, .bipush 38, 2, 0, 0, 0, 0), (269, .bipush 114, 2, 0, 0, 0, 0), (271, .castore, 1, 0, 0, 0, 0), (272, .dup, 1, 0, 0, 0, 0), (273, .bipush 39, 2, 0, 0, 0, 0), (275, .bipush 110, 2, 0, 0, 0, 0), (277, .castore, 1, 0, 0, 0, 0), (278, .dup, 1, 0, 0, 0, 0), (279, .bipush 40, 2, 0, 0, 0, 0), (281, .bipush 116, 2, 0, 0, 0, 0), (283, .castore, 1, 0, 0, 0, 0), (284, .dup, 1, 0, 0, 0, 0), (285, .bipush 41, 2, 0, 0, 0, 0), (287, .bipush 105, 2, 0, 0, 0, 0), (289, .castore, 1, 0, 0, 0, 0), (290, .dup, 1, 0, 0, 0, 0), (291, .bipush 42, 2, 0, 0, 0, 0), (293, .bipush 101, 2, 0, 0, 0, 0), (295, .castore, 1, 0, 0, 0, 0), (296, .dup, 1, 0, 0, 0, 0), (297, .bipush 43, 2, 0, 0, 0, 0), (299, .bipush 99, 2, 0, 0, 0, 0), (301, .castore, 1, 0, 0, 0, 0), (302, .dup, 1, 0, 0, 0, 0), (303, .bipush 44, 2, 0, 0, 0, 0), (305, .bipush 117, 2, 0, 0, 0, 0), (307, .castore, 1, 0, 0, 0, 0), (308, .dup, 1, 0, 0, 0, 0), (309, .bipush 45, 2, 0, 0, 0, 0), (311, .bipush 116, 2, 0, 0, 0, 0), (313, .castore, 1, 0, 0, 0, 0), (314, .dup, 1, 0, 0, 0, 0), (315, .bipush 46, 2, 0, 0, 0, 0), (317, .bipush 115, 2, 0, 0, 0, 0), (319, .castore, 1, 0, 0, 0, 0), (320, .dup, 1, 0, 0, 0, 0), (321, .bipush 47, 2, 0, 0, 0, 0), (323, .bipush 112, 2, 0, 0, 0, 0), (325, .castore, 1, 0, 0, 0, 0), (326, .dup, 1, 0, 0, 0, 0), (327, .bipush 48, 2, 0, 0, 0, 0), (329, .bipush 101, 2, 0, 0, 0, 0), (331, .castore, 1, 0, 0, 0, 0), (332, .dup, 1, 0, 0, 0, 0), (333, .bipush 49, 2, 0, 0, 0, 0), (335, .bipush 97, 2, 0, 0, 0, 0), (337, .castore, 1, 0, 0, 0, 0), (338, .dup, 1, 0, 0, 0, 0), (339, .bipush 50, 2, 0, 0, 0, 0), (341, .bipush 107, 2, 0, 0, 0, 0), (343, .castore, 1, 0, 0, 0, 0), (344, .dup, 1, 0, 0, 0, 0), (345, .bipush 51, 2, 0, 0, 0, 0), (347, .bipush 111, 2, 0, 0, 0, 0), (349, .castore, 1, 0, 0, 0, 0), (350, .dup, 1, 0, 0, 0, 0), (351, .bipush 52, 2, 0, 0, 0, 0), (353, .bipush 114, 2, 0, 0, 0, 0), (355, .castore, 1, 0, 0, 0, 0), (356, .dup, 1, 0, 0, 0, 0), (357, .bipush 53, 2, 0, 0, 0, 0), (359, .bipush 97, 2, 0, 0, 0, 0), (361, .castore, 1, 0, 0, 0, 0), (362, .dup, 1, 0, 0, 0, 0), (363, .bipush 54, 2, 0, 0, 0, 0), (365, .bipush 110, 2, 0, 0, 0, 0), (367, .castore, 1, 0, 0, 0, 0), (368, .dup, 1, 0, 0, 0, 0), (369, .bipush 55, 2, 0, 0, 0, 0), (371, .bipush 100, 2, 0, 0, 0, 0), (373, .castore, 1, 0, 0, 0, 0), (374, .dup, 1, 0, 0, 0, 0), (375, .bipush 56, 2, 0, 0, 0, 0), (377, .bipush 110, 2, 0, 0, 0, 0), (379, .castore, 1, 0, 0, 0, 0), (380, .dup, 1, 0, 0, 0, 0), (381, .bipush 57, 2, 0, 0, 0, 0), (383, .bipush 111, 2, 0, 0, 0, 0), (385, .castore, 1, 0, 0, 0, 0), (386, .dup, 1, 0, 0, 0, 0), (387, .bipush 58, 2, 0, 0, 0, 0), (389, .bipush 116, 2, 0, 0, 0, 0), (391, .castore, 1, 0, 0, 0, 0), (392, .putfield 23, 3, 0, 12, 7, 0), (395, .aload_n 0, 1, 0, 0, 0, 0), (396, .bipush 16, 2, 0, 0, 0, 0), (398, .newarray .int, 2, 0, 0, 0, 0), (400, .dup, 1, 0, 0, 0, 0), (401, .iconst 0, 1, 0, 0, 0, 0), (402, .iconst 0, 1, 0, 0, 0, 0), (403, .iastore, 1, 0, 0, 0, 0), (404, .dup, 1, 0, 0, 0, 0), (405, .iconst 1, 1, 0, 0, 0, 0), (406, .iconst 5, 1, 0, 0, 0, 0), (407, .iastore, 1, 0, 0, 0, 0), (408, .dup, 1, 0, 0, 0, 0), (409, .iconst 2, 1, 0, 0, 0, 0), (410, .bipush 9, 2, 0, 0, 0, 0), (412, .iastore, 1, 0, 0, 0, 0), (413, .dup, 1, 0, 0, 0, 0), (414, .iconst 3, 1, 0, 0, 0, 0), (415, .bipush 17, 2, 0, 0, 0, 0), (417, .iastore, 1, 0, 0, 0, 0), (418, .dup, 1, 0, 0, 0, 0), (419, .iconst 4, 1, 0, 0, 0, 0), (420, .bipush 20, 2, 0, 0, 0, 0), (422, .iastore, 1, 0, 0, 0, 0), (423, .dup, 1, 0, 0, 0, 0), (424, .iconst 5, 1, 0, 0, 0, 0), (425, .bipush 23, 2, 0, 0, 0, 0), (427, .iastore, 1, 0, 0, 0, 0), (428, .dup, 1, 0, 0, 0, 0), (429, .bipush 6, 2, 0, 0, 0, 0), (431, .bipush 28, 2, 0, 0, 0, 0), (433, .iastore, 1, 0, 0, 0, 0), (434, .dup, 1, 0, 0, 0, 0), (435, .bipush 7, 2, 0, 0, 0, 0), (437, .bipush 33, 2, 0, 0, 0, 0), (439, .iastore, 1, 0, 0, 0, 0), (440, .dup, 1, 0, 0, 0, 0), (441, .bipush 8, 2, 0, 0, 0, 0), (443, .bipush 36, 2, 0, 0, 0, 0), (445, .iastore, 1, 0, 0, 0, 0), (446, .dup, 1, 0, 0, 0, 0), (447, .bipush 9, 2, 0, 0, 0, 0), (449, .bipush 40, 2, 0, 0, 0, 0), (451, .iastore, 1, 0, 0, 0, 0), (452, .dup, 1, 0, 0, 0, 0), (453, .bipush 10, 2, 0, 0, 0, 0), (455, .bipush 43, 2, 0, 0, 0, 0), (457, .iastore, 1, 0, 0, 0, 0), (458, .dup, 1, 0, 0, 0, 0), (459, .bipush 11, 2, 0, 0, 0, 0), (461, .bipush 46, 2, 0, 0, 0, 0), (463, .iastore, 1, 0, 0, 0, 0), (464, .dup, 1, 0, 0, 0, 0), (465, .bipush 12, 2, 0, 0, 0, 0), (467, .bipush 51, 2, 0, 0, 0, 0), (469, .iastore, 1, 0, 0, 0, 0), (470, .dup, 1, 0, 0, 0, 0), (471, .bipush 13, 2, 0, 0, 0, 0), (473, .bipush 53, 2, 0, 0, 0, 0), (475, .iastore, 1, 0, 0, 0, 0), (476, .dup, 1, 0, 0, 0, 0), (477, .bipush 14, 2, 0, 0, 0, 0), (479, .bipush 56, 2, 0, 0, 0, 0), (481, .iastore, 1, 0, 0, 0, 0), (482, .dup, 1, 0, 0, 0, 0), (483, .bipush 15, 2, 0, 0, 0, 0), (485, .bipush 59, 2, 0, 0, 0, 0), (487, .iastore, 1, 0, 0, 0, 0), (488, .putfield 27, 3, 0, 12, 8, 0), (491, .aload_n 0, 1, 0, 0, 0, 0), (492, .sipush 489, 3, 0, 0, 0, 0), (495, .newarray .int, 2, 0, 0, 0, 0), (497, .putfield 30, 3, 0, 12, 9, 0), (500, .aload_n 0, 1, 0, 0, 0, 0), (501, .sipush 200, 3, 0, 0, 0, 0), (504, .newarray .int, 2, 0, 0, 0, 0), (506, .putfield 33, 3, 0, 12, 10, 0), (509, .aload_n 0, 1, 0, 0, 0, 0), (510, .bipush 9, 2, 0, 0, 0, 0), (512, .newarray .int, 2, 0, 0, 0, 0), (514, .putfield 36, 3, 0, 12, 11, 0), (517, .aload_n 0, 1, 0, 0, 0, 0), (518, .sipush 200, 3, 0, 0, 0, 0), (521, .newarray .int, 2, 0, 0, 0, 0), (523, .putfield 39, 3, 0, 12, 18, 0), (526, .aload_n 0, 1, 0, 0, 0, 0), (527, .sipush 4096, 3, 0, 0, 0, 0), (530, .newarray .int, 2, 0, 0, 0, 0), (532, .putfield 42, 3, 0, 12, 19, 0), (535, .aload_n 0, 1, 0, 0, 0, 0), (536, .bipush 36, 2, 0, 0, 0, 0), (538, .newarray .boolean, 2, 0, 0, 0, 0), (540, .putfield 45, 3, 0, 12, 20, 0), (543, .aload_n 0, 1, 0, 0, 0, 0), (544, .bipush 36, 2, 0, 0, 0, 0), (546, .newarray .boolean, 2, 0, 0, 0, 0), (548, .putfield 49, 3, 0, 12, 21, 0), (551, .aload_n 0, 1, 0, 0, 0, 0), (552, .iconst 4, 1, 0, 0, 0, 0), (553, .newarray .int, 2, 0, 0, 0, 0), (555, .putfield 52, 3, 0, 12, 22, 0), (558, .aload_n 0, 1, 0, 0, 0, 0), (559, .iconst 4, 1, 0, 0, 0, 0), (560, .newarray .int, 2, 0, 0, 0, 0), (562, .putfield 55, 3, 0, 12, 23, 0), (565, .aload_n 0, 1, 0, 0, 0, 0), (566, .bipush 80, 2, 0, 0, 0, 0), (568, .newarray .int, 2, 0, 0, 0, 0), (570, .putfield 58, 3, 0, 12, 24, 0), (573, .aload_n 0, 1, 0, 0, 0, 0), (574, .bipush 20, 2, 0, 0, 0, 0), (576, .newarray .int, 2, 0, 0, 0, 0), (578, .putfield 61, 3, 0, 12, 25, 0), (581, .return_, 1, 0, 0, 0, 0)]
set_option maxRecDepth 100000 in
theorem sx_k218_0 : ((sx_c218.drop 0).take 64).all (sx_chk 12 prog_14_method_1_code) = true := by decide +kernel
set_option maxRecDepth 100000 in
theorem sx_k218_1 : ((sx_c218.drop 64).take 64).all (sx_chk 12 prog_14_method_1_code) = true := by decide +kernel
set_option maxRecDepth 100000 in
theorem sx_k218_2 : ((sx_c218.drop 128).take 64).all (sx_chk 12 prog_14_method_1_code) = true := by decide +kernel
set_option maxRecDepth 100000 in
theorem sx_k218_3 : ((sx_c218.drop 192).take 64).all (sx_chk 12 prog_14_method_1_code) = true := by decide +kernel
set_option maxRecDepth 100000 in
theorem sx_k218_4 : ((sx_c218.drop 256).take 64).all (sx_chk 12 prog_14_method_1_code) = true := by decide +kernel
set_option maxRecDepth 100000 in
theorem sx_k218_5 : ((sx_c218.drop 320).take 64).all (sx_chk 12 prog_14_method_1_code) = true := by decide +kernel
set_option maxRecDepth 100000 in
theorem sx_k218 : sx_c218.all (sx_chk 12 prog_14_method_1_code) = true := sx_ck 64 sx_k218_0 (sx_ck 64 sx_k218_1 (sx_ck 64 sx_k218_2 (sx_ck 64 sx_k218_3 (sx_ck 64 sx_k218_4 (sx_ce sx_k218_5 rfl)))))
def sx_c219 : List sx_I := [(0, .iload_n 1, 1, 0, 0, 0, 0), (1, .iconst 0, 1, 0, 0, 0, 0), (2, .bipush 35, 2, 0, 0, 0, 0), (4, .invokestatic 68, 3, 2, 220, 0, 0), (7, .ifCond .eq 21, 3, 0, 0, 0, 0), (10, .iload_n 2, 1, 0, 0, 0, 0), (11, .iconst (-1), 1, 0, 0, 0, 0), (12, .iconst 1, 1, 0, 0, 0, 0), (13, .invokestatic 68, 3, 2, 220, 0, 0), (16, .ifCond .eq 12, 3, 0, 0, 0, 0), (19, .iload_n 3, 1, 0, 0, 0, 0), (20, .iconst (-1), 1, 0, 0, 0, 0), (21, .iconst 1, 1, 0, 0, 0, 0), (22, .invokestatic 68, 3, 2, 220, 0, 0), (25, .ifCond .ne 10, 3, 0, 0, 0, 0), (28, .aload_n 0, 1, 0, 0, 0, 0), (29, .ldc 76, 2, 6, 0, 0, -100001), (31, .invokevirtual 77, 3, 2, 221, 0, 0), (34, .ireturn, 1, 0, 0, 0, 0), (35, .aload_n 0, 1, 0, 0, 0, 0), (36, .getfield 7, 3, 0, 12, 0, 0), (39, .bipush 8, 2, 0, 0, 0, 0), (41, .iconst 2, 1, 0, 0, 0, 0), (42, .iload_n 1, 1, 0, 0, 0, 0), (43, .imul, 1, 0, 0, 0, 0), (44, .iadd, 1, 0, 0, 0, 0), (45, .iload_n 2, 1, 0, 0, 0, 0), (46, .iastore, 1, 0, 0, 0, 0), (47, .aload_n 0, 1, 0, 0, 0, 0), (48, .getfield 7, 3, 0, 12, 0, 0), (51, .bipush 8, 2, 0, 0, 0, 0), (53, .iconst 2, 1, 0, 0, 0, 0), (54, .iload_n 1, 1, 0, 0, 0, 0), (55, .imul, 1, 0, 0, 0, 0), (56, .iadd, 1, 0, 0, 0, 0), (57, .iconst 1, 1, 0, 0, 0, 0), (58, .iadd, 1, 0, 0, 0, 0), (59, .iload_n 3, 1, 0, 0, 0, 0), (60, .iastore, 1, 0, 0, 0, 0), (61, .iconst 1, 1, 0, 0, 0, 0), (62, .ireturn, 1, 0, 0, 0, 0)]
set_option maxRecDepth 100000 in
theorem sx_k219 : sx_c219.all (sx_chk 12 prog_14_method_12_code) = true := by decide +kernel
def sx_c220 : List sx_I := [(0, .iload_n 0, 1, 0, 0, 0, 0), (1, .iload_n 1, 1, 0, 0, 0, 0), (2, .if_icmp .lt 12, 3, 0, 0, 0, 0), (5, .iload_n 0, 1, 0, 0, 0, 0), (6, .iload_n 2, 1, 0, 0, 0, 0), (7, .if_icmp .gt 7, 3, 0, 0, 0, 0), (10, .iconst 1, 1, 0, 0, 0, 0), (11, .goto 4, 3, 0, 0, 0, 0), (14, .iconst 0, 1, 0, 0, 0, 0), (15, .ireturn, 1, 0, 0, 0, 0)]
set_option maxRecDepth 100000 in
theorem sx_k220 : sx_c220.all (sx_chk 12 prog_14_method_3_code) = true := by decide +kernel
def sx_c221 : List sx_I := [(0, .aload_n 0, 1, 0, 0, 0, 0), (1, .dup, 1, 0, 0, 0, 0), (2, .getfield 64, 3, 0, 12, 3, 0), (5, .iconst 1, 1, 0, 0, 0, 0), (6, .iadd, 1, 0, 0, 0, 0), (7, .putfield 64, 3, 0, 12, 3, 0), (10, .iload_n 1, 1, 0, 0, 0, 0), (11, .ireturn, 1, 0, 0, 0, 0)]
set_option maxRecDepth 100000 in
theorem sx_k221 : sx_c221.all (sx_chk 12 prog_14_method_4_code) = true := by decide +kernel
def sx_c222 : List sx_I := [(0, .iload_n 1, 1, 0, 0, 0, 0), (1, .iconst 0, 1, 0, 0, 0, 0), (2, .iconst 5, 1, 0, 0, 0, 0), (3, .invokestatic 68, 3, 2, 220, 0, 0), (6, .ifCond .eq 34, 3, 0, 0, 0, 0), (9, .iload_n 2, 1, 0, 0, 0, 0), (10, .iconst 0, 1, 0, 0, 0, 0), (11, .bipush 35, 2, 0, 0, 0, 0), (13, .invokestatic 68, 3, 2, 220, 0, 0), (16, .ifCond .eq 24, 3, 0, 0, 0, 0), (19, .iload_n 3, 1, 0, 0, 0, 0), (20, .iconst 1, 1, 0, 0, 0, 0), (21, .bipush 99, 2, 0, 0, 0, 0), (23, .invokestatic 68, 3, 2, 220, 0, 0), (26, .ifCond .eq 14, 3, 0, 0, 0, 0), (29, .iload 4, 2, 0, 0, 0, 0), (31, .iconst 0, 1, 0, 0, 0, 0), (32, .bipush 99, 2, 0, 0, 0, 0), (34, .invokestatic 68, 3, 2, 220, 0, 0), (37, .ifCond .ne 10, 3, 0, 0, 0, 0), (40, .aload_n 0, 1, 0, 0, 0, 0), (41, .ldc 76, 2, 6, 0, 0, -100001), (43, .invokevirtual 77, 3, 2, 221, 0, 0), (46, .ireturn, 1, 0, 0, 0, 0), (47, .aload_n 0, 1, 0, 0, 0, 0), (48, .getfield 7, 3, 0, 12, 0, 0), (51, .iconst 0, 1, 0, 0, 0, 0), (52, .iaload, 1, 0, 0, 0, 0), (53, .istore 5, 2, 0, 0, 0, 0), (55, .iload 5, 2, 0, 0, 0, 0), (57, .bipush 10, 2, 0, 0, 0, 0), (59, .if_icmp .ne 10, 3, 0, 0, 0, 0), (62, .aload_n 0, 1, 0, 0, 0, 0), (63, .ldc 81, 2, 6, 0, 0, -100005), (65, .invokevirtual 77, 3, 2, 221, 0, 0), (68, .ireturn, 1, 0, 0, 0, 0), (69, .aload_n 0, 1, 0, 0, 0, 0), (70, .getfield 7, 3, 0, 12, 0, 0), (73, .iconst 0, 1, 0, 0, 0, 0), (74, .dup2, 1, 0, 0, 0, 0), (75, .iaload, 1, 0, 0, 0, 0), (76, .iconst 1, 1, 0, 0, 0, 0), (77, .iadd, 1, 0, 0, 0, 0), (78, .iastore, 1, 0, 0, 0, 0), (79, .aload_n 0, 1, 0, 0, 0, 0), (80, .iload 5, 2, 0, 0, 0, 0), (82, .iconst 0, 1, 0, 0, 0, 0), (83, .iload_n 1, 1, 0, 0, 0, 0), (84, .invokevirtual 82, 3, 2, 223, 0, 0), (87, .aload_n 0, 1, 0, 0, 0, 0), (88, .iload 5, 2, 0, 0, 0, 0), (90, .iconst 1, 1, 0, 0, 0, 0), (91, .iload_n 2, 1, 0, 0, 0, 0), (92, .invokevirtual 82, 3, 2, 223, 0, 0), (95, .aload_n 0, 1, 0, 0, 0, 0), (96, .iload 5, 2, 0, 0, 0, 0), (98, .iconst 2, 1, 0, 0, 0, 0), (99, .iload_n 3, 1, 0, 0, 0, 0), (100, .invokevirtual 82, 3, 2, 223, 0, 0), (103, .aload_n 0, 1, 0, 0, 0, 0), (104, .iload 5, 2, 0, 0, 0, 0), (106, .iconst 3, 1, 0, 0, 0, 0), (107, .iload 4, 2, 0, 0, 0, 0), (109, .invokevirtual 82, 3, 2, 223, 0, 0), (112, .aload_n 0, 1, 0, 0, 0, 0), (113, .iload 5, 2, 0, 0, 0, 0), (115, .iconst 4, 1, 0, 0, 0, 0), (116, .iconst 0, 1, 0, 0, 0, 0), (117, .invokevirtual 82, 3, 2, 223, 0, 0), (120, .aload_n 0, 1, 0, 0, 0, 0), (121, .iload 5, 2, 0, 0, 0, 0), (123, .iconst 5, 1, 0, 0, 0, 0), (124, .iconst 0, 1, 0, 0, 0, 0), (125, .invokevirtual 82, 3, 2, 223, 0, 0), (128, .aload_n 0, 1, 0, 0, 0, 0), (129, .iload 5, 2, 0, 0, 0, 0), (131, .bipush 6, 2, 0, 0, 0, 0), (133, .iconst 0, 1, 0, 0, 0, 0), (134, .invokevirtual 82, 3, 2, 223, 0, 0), (137, .iload 5, 2, 0, 0, 0, 0), (139, .ireturn, 1, 0, 0, 0, 0)]
set_option maxRecDepth 100000 in
theorem sx_k222 : sx_c222.all (sx_chk 12 prog_14_method_13_code) = true := by decide +kernel
def sx_c223 : List sx_I := [(0, .aload_n 0, 1, 0, 0, 0, 0), (1, .getfield 7, 3, 0, 12, 0, 0), (4, .bipush 80, 2, 0, 0, 0, 0), (6, .bipush 7, 2, 0, 0, 0, 0), (8, .iload_n 1, 1, 0, 0, 0, 0), (9, .imul, 1, 0, 0, 0, 0), (10, .iadd, 1, 0, 0, 0, 0), (11, .iload_n 2, 1, 0, 0, 0, 0), (12, .iadd, 1, 0, 0, 0, 0), (13, .iload_n 3, 1, 0, 0, 0, 0), (14, .iastore, 1, 0, 0, 0, 0), (15, .return_, 1, 0, 0, 0, 0)]
set_option maxRecDepth 100000 in
theorem sx_k223 : sx_c223.all (sx_chk 12 prog_14_method_10_code) = true := by decide +kernel
def sx_c224 : List sx_I := [(0, .aload_n 0, 1, 0, 0, 0, 0), (1, .iload_n 1, 1, 0, 0, 0, 0), (2, .invokevirtual 86, 3, 2, 225, 0, 0), (5, .ifCond .eq 12, 3, 0, 0, 0, 0), (8, .iload_n 2, 1, 0, 0, 0, 0), (9, .iconst 0, 1, 0, 0, 0, 0), (10, .iconst 5, 1, 0, 0, 0, 0), (11, .invokestatic 68, 3, 2, 220, 0, 0), (14, .ifCond .ne 10, 3, 0, 0, 0, 0), (17, .aload_n 0, 1, 0, 0, 0, 0), (18, .ldc 76, 2, 6, 0, 0, -100001), (20, .invokevirtual 77, 3, 2, 221, 0, 0), (23, .ireturn, 1, 0, 0, 0, 0), (24, .aload_n 0, 1, 0, 0, 0, 0), (25, .iload_n 1, 1, 0, 0, 0, 0), (26, .iconst 0, 1, 0, 0, 0, 0), (27, .invokevirtual 72, 3, 2, 226, 0, 0), (30, .istore_n 3, 1, 0, 0, 0, 0), (31, .iload_n 2, 1, 0, 0, 0, 0), (32, .ifCond .eq 22, 3, 0, 0, 0, 0), (35, .iload_n 3, 1, 0, 0, 0, 0), (36, .iload_n 2, 1, 0, 0, 0, 0), (37, .if_icmp .eq 17, 3, 0, 0, 0, 0), (40, .iload_n 2, 1, 0, 0, 0, 0), (41, .iconst 1, 1, 0, 0, 0, 0), (42, .if_icmp .ne 16, 3, 0, 0, 0, 0), (45, .iload_n 3, 1, 0, 0, 0, 0), (46, .ifCond .eq 12, 3, 0, 0, 0, 0), (49, .iload_n 3, 1, 0, 0, 0, 0), (50, .iconst 4, 1, 0, 0, 0, 0), (51, .if_icmp .eq 7, 3, 0, 0, 0, 0), (54, .iload_n 1, 1, 0, 0, 0, 0), (55, .goto 9, 3, 0, 0, 0, 0), (58, .aload_n 0, 1, 0, 0, 0, 0), (59, .ldc 90, 2, 6, 0, 0, -100004), (61, .invokevirtual 77, 3, 2, 221, 0, 0), (64, .ireturn, 1, 0, 0, 0, 0)]
set_option maxRecDepth 100000 in
theorem sx_k224 : sx_c224.all (sx_chk 12 prog_14_method_14_code) = true := by decide +kernel
def sx_c225 : List sx_I := [(0, .iload_n 1, 1, 0, 0, 0, 0), (1, .iconst 0, 1, 0, 0, 0, 0), (2, .aload_n 0, 1, 0, 0, 0, 0), (3, .getfield 7, 3, 0, 12, 0, 0), (6, .iconst 0, 1, 0, 0, 0, 0), (7, .iaload, 1, 0, 0, 0, 0), (8, .iconst 1, 1, 0, 0, 0, 0), (9, .isub, 1, 0, 0, 0, 0), (10, .invokestatic 68, 3, 2, 220, 0, 0), (13, .ireturn, 1, 0, 0, 0, 0)]
set_option maxRecDepth 100000 in
theorem sx_k225 : sx_c225.all (sx_chk 12 prog_14_method_5_code) = true := by decide +kernel
def sx_c226 : List sx_I := [(0, .aload_n 0, 1, 0, 0, 0, 0), (1, .getfield 7, 3, 0, 12, 0, 0), (4, .bipush 80, 2, 0, 0, 0, 0), (6, .bipush 7, 2, 0, 0, 0, 0), (8, .iload_n 1, 1, 0, 0, 0, 0), (9, .imul, 1, 0, 0, 0, 0), (10, .iadd, 1, 0, 0, 0, 0), (11, .iload_n 2, 1, 0, 0, 0, 0), (12, .iadd, 1, 0, 0, 0, 0), (13, .iaload, 1, 0, 0, 0, 0), (14, .ireturn, 1, 0, 0, 0, 0)]
set_option maxRecDepth 100000 in
theorem sx_k226 : sx_c226.all (sx_chk 12 prog_14_method_9_code) = true := by decide +kernel
def sx_c227 : List sx_I := [(0, .aload_n 0, 1, 0, 0, 0, 0), (1, .iload_n 1, 1, 0, 0, 0, 0), (2, .invokevirtual 86, 3, 2, 225, 0, 0), (5, .ifCond .eq 13, 3, 0, 0, 0, 0), (8, .iload_n 2, 1, 0, 0, 0, 0), (9, .iconst 0, 1, 0, 0, 0, 0), (10, .bipush 9, 2, 0, 0, 0, 0), (12, .invokestatic 68, 3, 2, 220, 0, 0), (15, .ifCond .ne 10, 3, 0, 0, 0, 0), (18, .aload_n 0, 1, 0, 0, 0, 0), (19, .ldc 76, 2, 6, 0, 0, -100001), (21, .invokevirtual 77, 3, 2, 221, 0, 0), (24, .ireturn, 1, 0, 0, 0, 0), (25, .iload_n 2, 1, 0, 0, 0, 0), (26, .tableswitch 63 6 9 #[30, 36, 42, 55], 30, 0, 0, 0, 0), (56, .aload_n 0, 1, 0, 0, 0, 0), (57, .iload_n 1, 1, 0, 0, 0, 0), (58, .invokevirtual 98, 3, 2, 228, 0, 0), (61, .ireturn, 1, 0, 0, 0, 0), (62, .aload_n 0, 1, 0, 0, 0, 0), (63, .iload_n 1, 1, 0, 0, 0, 0), (64, .invokevirtual 95, 3, 2, 232, 0, 0), (67, .ireturn, 1, 0, 0, 0, 0), (68, .aload_n 0, 1, 0, 0, 0, 0), (69, .iload_n 1, 1, 0, 0, 0, 0), (70, .aload_n 0, 1, 0, 0, 0, 0), (71, .invokevirtual 101, 3, 2, 233, 0, 0), (74, .invokevirtual 105, 3, 2, 236, 0, 0), (77, .invokestatic 108, 3, 2, 237, 0, 0), (80, .ireturn, 1, 0, 0, 0, 0), (81, .aload_n 0, 1, 0, 0, 0, 0), (82, .iload_n 1, 1, 0, 0, 0, 0), (83, .bipush 6, 2, 0, 0, 0, 0), (85, .invokevirtual 72, 3, 2, 226, 0, 0), (88, .ireturn, 1, 0, 0, 0, 0), (89, .aload_n 0, 1, 0, 0, 0, 0), (90, .iload_n 1, 1, 0, 0, 0, 0), (91, .iload_n 2, 1, 0, 0, 0, 0), (92, .invokevirtual 72, 3, 2, 226, 0, 0), (95, .ireturn, 1, 0, 0, 0, 0)]
set_option maxRecDepth 100000 in
theorem sx_k227 : sx_c227.all (sx_chk 12 prog_14_method_17_code) = true := by decide +kernel
def sx_c228 : List sx_I := [(0, .iconst 0, 1, 0, 0, 0, 0), (1, .istore_n 2, 1, 0, 0, 0, 0), (2, .iconst 0, 1, 0, 0, 0, 0), (3, .istore_n 3, 1, 0, 0, 0, 0), (4, .iload_n 3, 1, 0, 0, 0, 0), (5, .aload_n 0, 1, 0, 0, 0, 0), (6, .getfield 7, 3, 0, 12, 0, 0), (9, .iconst 1, 1, 0, 0, 0, 0), (10, .iaload, 1, 0, 0, 0, 0), (11, .if_icmp .ge 26, 3, 0, 0, 0, 0), (14, .iload_n 2, 1, 0, 0, 0, 0), (15, .aload_n 0, 1, 0, 0, 0, 0), (16, .iload_n 3, 1, 0, 0, 0, 0), (17, .iload_n 1, 1, 0, 0, 0, 0), (18, .invokevirtual 91, 3, 2, 229, 0, 0), (21, .ifCond .eq 7, 3, 0, 0, 0, 0), (24, .iconst 1, 1, 0, 0, 0, 0), (25, .goto 4, 3, 0, 0, 0, 0), (28, .iconst 0, 1, 0, 0, 0, 0), (29, .iadd, 1, 0, 0, 0, 0), (30, .istore_n 2, 1, 0, 0, 0, 0), (31, .iinc 3 1, 3, 0, 0, 0, 0), (34, .goto (-30), 3, 0, 0, 0, 0), (37, .iconst 5, 1, 0, 0, 0, 0), (38, .iconst 2, 1, 0, 0, 0, 0), (39, .aload_n 0, 1, 0, 0, 0, 0), (40, .iload_n 1, 1, 0, 0, 0, 0), (41, .invokevirtual 95, 3, 2, 232, 0, 0), (44, .imul, 1, 0, 0, 0, 0), (45, .iadd, 1, 0, 0, 0, 0), (46, .aload_n 0, 1, 0, 0, 0, 0), (47, .iload_n 1, 1, 0, 0, 0, 0), (48, .iconst 4, 1, 0, 0, 0, 0), (49, .invokevirtual 72, 3, 2, 226, 0, 0), (52, .iadd, 1, 0, 0, 0, 0), (53, .aload_n 0, 1, 0, 0, 0, 0), (54, .iload_n 1, 1, 0, 0, 0, 0), (55, .iconst 5, 1, 0, 0, 0, 0), (56, .invokevirtual 72, 3, 2, 226, 0, 0), (59, .iadd, 1, 0, 0, 0, 0), (60, .iconst 2, 1, 0, 0, 0, 0), (61, .iload_n 2, 1, 0, 0, 0, 0), (62, .imul, 1, 0, 0, 0, 0), (63, .iadd, 1, 0, 0, 0, 0), (64, .aload_n 0, 1, 0, 0, 0, 0), (65, .iload_n 1, 1, 0, 0, 0, 0), (66, .iconst 0, 1, 0, 0, 0, 0), (67, .invokevirtual 72, 3, 2, 226, 0, 0), (70, .iconst 2, 1, 0, 0, 0, 0), (71, .if_icmp .ne 7, 3, 0, 0, 0, 0), (74, .iconst 5, 1, 0, 0, 0, 0), (75, .goto 4, 3, 0, 0, 0, 0), (78, .iconst 0, 1, 0, 0, 0, 0), (79, .iadd, 1, 0, 0, 0, 0), (80, .ireturn, 1, 0, 0, 0, 0)]
set_option maxRecDepth 100000 in
theorem sx_k228 : sx_c228.all (sx_chk 12 prog_14_method_16_code) = true := by decide +kernel
def sx_c229 : List sx_I := [(0, .aload_n 0, 1, 0, 0, 0, 0), (1, .iload_n 1, 1, 0, 0, 0, 0), (2, .invokevirtual 124, 3, 2, 230, 0, 0), (5, .ifCond .ne 17, 3, 0, 0, 0, 0), (8, .aload_n 0, 1, 0, 0, 0, 0), (9, .iload_n 1, 1, 0, 0, 0, 0), (10, .iconst 0, 1, 0, 0, 0, 0), (11, .invokevirtual 121, 3, 2, 231, 0, 0), (14, .iload_n 2, 1, 0, 0, 0, 0), (15, .if_icmp .ne 7, 3, 0, 0, 0, 0), (18, .iconst 1, 1, 0, 0, 0, 0), (19, .goto 4, 3, 0, 0, 0, 0), (22, .iconst 0, 1, 0, 0, 0, 0), (23, .ireturn, 1, 0, 0, 0, 0)]
set_option maxRecDepth 100000 in
theorem sx_k229 : sx_c229.all (sx_chk 12 prog_14_method_23_code) = true := by decide +kernel
def sx_c230 : List sx_I := [(0, .aload_n 0, 1, 0, 0, 0, 0), (1, .iload_n 1, 1, 0, 0, 0, 0), (2, .iconst 5, 1, 0, 0, 0, 0), (3, .invokevirtual 121, 3, 2, 231, 0, 0), (6, .iconst 1, 1, 0, 0, 0, 0), (7, .if_icmp .ne 7, 3, 0, 0, 0, 0), (10, .iconst 1, 1, 0, 0, 0, 0), (11, .goto 4, 3, 0, 0, 0, 0), (14, .iconst 0, 1, 0, 0, 0, 0), (15, .ireturn, 1, 0, 0, 0, 0)]
set_option maxRecDepth 100000 in
theorem sx_k230 : sx_c230.all (sx_chk 12 prog_14_method_22_code) = true := by decide +kernel
def sx_c231 : List sx_I := [(0, .aload_n 0, 1, 0, 0, 0, 0), (1, .getfield 7, 3, 0, 12, 0, 0), (4, .sipush 150, 3, 0, 0, 0, 0), (7, .bipush 7, 2, 0, 0, 0, 0), (9, .iload_n 1, 1, 0, 0, 0, 0), (10, .imul, 1, 0, 0, 0, 0), (11, .iadd, 1, 0, 0, 0, 0), (12, .iload_n 2, 1, 0, 0, 0, 0), (13, .iadd, 1, 0, 0, 0, 0), (14, .iaload, 1, 0, 0, 0, 0), (15, .ireturn, 1, 0, 0, 0, 0)]
set_option maxRecDepth 100000 in
theorem sx_k231 : sx_c231.all (sx_chk 12 prog_14_method_21_code) = true := by decide +kernel
def sx_c232 : List sx_I := [(0, .aload_n 0, 1, 0, 0, 0, 0), (1, .iload_n 1, 1, 0, 0, 0, 0), (2, .iconst 0, 1, 0, 0, 0, 0), (3, .invokevirtual 72, 3, 2, 226, 0, 0), (6, .istore_n 2, 1, 0, 0, 0, 0), (7, .iload_n 2, 1, 0, 0, 0, 0), (8, .ifCond .eq 8, 3, 0, 0, 0, 0), (11, .iload_n 2, 1, 0, 0, 0, 0), (12, .iconst 4, 1, 0, 0, 0, 0), (13, .if_icmp .ne 7, 3, 0, 0, 0, 0), (16, .iconst 1, 1, 0, 0, 0, 0), (17, .goto 22, 3, 0, 0, 0, 0), (20, .iload_n 2, 1, 0, 0, 0, 0), (21, .iconst 2, 1, 0, 0, 0, 0), (22, .if_icmp .ne 7, 3, 0, 0, 0, 0), (25, .iconst 3, 1, 0, 0, 0, 0), (26, .goto 13, 3, 0, 0, 0, 0), (29, .iload_n 2, 1, 0, 0, 0, 0), (30, .iconst 5, 1, 0, 0, 0, 0), (31, .if_icmp .ne 7, 3, 0, 0, 0, 0), (34, .iconst 0, 1, 0, 0, 0, 0), (35, .goto 4, 3, 0, 0, 0, 0), (38, .iconst 2, 1, 0, 0, 0, 0), (39, .ireturn, 1, 0, 0, 0, 0)]
set_option maxRecDepth 100000 in
theorem sx_k232 : sx_c232.all (sx_chk 12 prog_14_method_15_code) = true := by decide +kernel
def sx_c233 : List sx_I := [(0, .iconst 0, 1, 0, 0, 0, 0), (1, .istore_n 1, 1, 0, 0, 0, 0), (2, .iconst 0, 1, 0, 0, 0, 0), (3, .istore_n 2, 1, 0, 0, 0, 0), (4, .iload_n 2, 1, 0, 0, 0, 0), (5, .aload_n 0, 1, 0, 0, 0, 0), (6, .getfield 7, 3, 0, 12, 0, 0), (9, .iconst 2, 1, 0, 0, 0, 0), (10, .iaload, 1, 0, 0, 0, 0), (11, .if_icmp .ge 27, 3, 0, 0, 0, 0), (14, .iload_n 1, 1, 0, 0, 0, 0), (15, .aload_n 0, 1, 0, 0, 0, 0), (16, .iload_n 2, 1, 0, 0, 0, 0), (17, .invokevirtual 140, 3, 2, 234, 0, 0), (20, .ifCond .eq 9, 3, 0, 0, 0, 0), (23, .iconst 1, 1, 0, 0, 0, 0), (24, .iload_n 2, 1, 0, 0, 0, 0), (25, .ishl, 1, 0, 0, 0, 0), (26, .goto 4, 3, 0, 0, 0, 0), (29, .iconst 0, 1, 0, 0, 0, 0), (30, .ior, 1, 0, 0, 0, 0), (31, .istore_n 1, 1, 0, 0, 0, 0), (32, .iinc 2 1, 3, 0, 0, 0, 0), (35, .goto (-31), 3, 0, 0, 0, 0), (38, .iload_n 1, 1, 0, 0, 0, 0), (39, .ireturn, 1, 0, 0, 0, 0)]
set_option maxRecDepth 100000 in
theorem sx_k233 : sx_c233.all (sx_chk 12 prog_14_method_32_code) = true := by decide +kernel
def sx_c234 : List sx_I := [(0, .aload_n 0, 1, 0, 0, 0, 0), (1, .iload_n 1, 1, 0, 0, 0, 0), (2, .bipush 7, 2, 0, 0, 0, 0), (4, .invokevirtual 137, 3, 2, 235, 0, 0), (7, .iconst 1, 1, 0, 0, 0, 0), (8, .if_icmp .ne 7, 3, 0, 0, 0, 0), (11, .iconst 1, 1, 0, 0, 0, 0), (12, .goto 4, 3, 0, 0, 0, 0), (15, .iconst 0, 1, 0, 0, 0, 0), (16, .ireturn, 1, 0, 0, 0, 0)]
set_option maxRecDepth 100000 in
theorem sx_k234 : sx_c234.all (sx_chk 12 prog_14_method_31_code) = true := by decide +kernel
def sx_c235 : List sx_I := [(0, .aload_n 0, 1, 0, 0, 0, 0), (1, .getfield 7, 3, 0, 12, 0, 0), (4, .sipush 248, 3, 0, 0, 0, 0), (7, .bipush 8, 2, 0, 0, 0, 0), (9, .iload_n 1, 1, 0, 0, 0, 0), (10, .imul, 1, 0, 0, 0, 0), (11, .iadd, 1, 0, 0, 0, 0), (12, .iload_n 2, 1, 0, 0, 0, 0), (13, .iadd, 1, 0, 0, 0, 0), (14, .iaload, 1, 0, 0, 0, 0), (15, .ireturn, 1, 0, 0, 0, 0)]
set_option maxRecDepth 100000 in
theorem sx_k235 : sx_c235.all (sx_chk 12 prog_14_method_30_code) = true := by decide +kernel
def sx_c236 : List sx_I := [(0, .iconst 1, 1, 0, 0, 0, 0), (1, .iload_n 1, 1, 0, 0, 0, 0), (2, .ishl, 1, 0, 0, 0, 0), (3, .istore_n 3, 1, 0, 0, 0, 0), (4, .iconst 1, 1, 0, 0, 0, 0), (5, .istore 4, 2, 0, 0, 0, 0), (7, .iload 4, 2, 0, 0, 0, 0), (9, .ifCond .eq 102, 3, 0, 0, 0, 0), (12, .iconst 0, 1, 0, 0, 0, 0), (13, .istore 4, 2, 0, 0, 0, 0), (15, .iconst 0, 1, 0, 0, 0, 0), (16, .istore 5, 2, 0, 0, 0, 0), (18, .iload 5, 2, 0, 0, 0, 0), (20, .aload_n 0, 1, 0, 0, 0, 0), (21, .getfield 7, 3, 0, 12, 0, 0), (24, .iconst 2, 1, 0, 0, 0, 0), (25, .iaload, 1, 0, 0, 0, 0), (26, .if_icmp .ge 82, 3, 0, 0, 0, 0), (29, .iload_n 2, 1, 0, 0, 0, 0), (30, .iload 5, 2, 0, 0, 0, 0), (32, .ishr, 1, 0, 0, 0, 0), (33, .iconst 1, 1, 0, 0, 0, 0), (34, .iand, 1, 0, 0, 0, 0), (35, .ifCond .ne 6, 3, 0, 0, 0, 0), (38, .goto 64, 3, 0, 0, 0, 0), (41, .iload_n 3, 1, 0, 0, 0, 0), (42, .aload_n 0, 1, 0, 0, 0, 0), (43, .iload 5, 2, 0, 0, 0, 0), (45, .iconst 0, 1, 0, 0, 0, 0), (46, .invokevirtual 137, 3, 2, 235, 0, 0), (49, .ishr, 1, 0, 0, 0, 0), (50, .iconst 1, 1, 0, 0, 0, 0), (51, .iand, 1, 0, 0, 0, 0), (52, .istore 6, 2, 0, 0, 0, 0), (54, .iload_n 3, 1, 0, 0, 0, 0), (55, .aload_n 0, 1, 0, 0, 0, 0), (56, .iload 5, 2, 0, 0, 0, 0), (58, .iconst 1, 1, 0, 0, 0, 0), (59, .invokevirtual 137, 3, 2, 235, 0, 0), (62, .ishr, 1, 0, 0, 0, 0), (63, .iconst 1, 1, 0, 0, 0, 0), (64, .iand, 1, 0, 0, 0, 0), (65, .istore 7, 2, 0, 0, 0, 0), (67, .iload 6, 2, 0, 0, 0, 0), (69, .iload 7, 2, 0, 0, 0, 0), (71, .if_icmp .ne 6, 3, 0, 0, 0, 0), (74, .goto 28, 3, 0, 0, 0, 0), (77, .iload_n 3, 1, 0, 0, 0, 0), (78, .iconst 1, 1, 0, 0, 0, 0), (79, .aload_n 0, 1, 0, 0, 0, 0), (80, .iload 5, 2, 0, 0, 0, 0), (82, .iconst 0, 1, 0, 0, 0, 0), (83, .invokevirtual 137, 3, 2, 235, 0, 0), (86, .ishl, 1, 0, 0, 0, 0), (87, .iconst 1, 1, 0, 0, 0, 0), (88, .aload_n 0, 1, 0, 0, 0, 0), (89, .iload 5, 2, 0, 0, 0, 0), (91, .iconst 1, 1, 0, 0, 0, 0), (92, .invokevirtual 137, 3, 2, 235, 0, 0), (95, .ishl, 1, 0, 0, 0, 0), (96, .ior, 1, 0, 0, 0, 0), (97, .ior, 1, 0, 0, 0, 0), (98, .istore_n 3, 1, 0, 0, 0, 0), (99, .iconst 1, 1, 0, 0, 0, 0), (100, .istore 4, 2, 0, 0, 0, 0), (102, .iinc 5 1, 3, 0, 0, 0, 0), (105, .goto (-87), 3, 0, 0, 0, 0), (108, .goto (-101), 3, 0, 0, 0, 0), (111, .iload_n 3, 1, 0, 0, 0, 0), (112, .ireturn, 1, 0, 0, 0, 0)]
set_option maxRecDepth 100000 in
theorem sx_k236 : sx_c236.all (sx_chk 12 prog_14_method_33_code) = true := by decide +kernel
def sx_c237 : List sx_I := [(0, .iconst 0, 1, 0, 0, 0, 0), (1, .istore_n 1, 1, 0, 0, 0, 0), (2, .iload_n 0, 1, 0, 0, 0, 0), (3, .iload_n 1, 1, 0, 0, 0, 0), (4, .ishr, 1, 0, 0, 0, 0), (5, .iconst 1, 1, 0, 0, 0, 0), (6, .iand, 1, 0, 0, 0, 0), (7, .ifCond .ne 9, 3, 0, 0, 0, 0), (10, .iinc 1 1, 3, 0, 0, 0, 0), (13, .goto (-11), 3, 0, 0, 0, 0), (16, .iload_n 1, 1, 0, 0, 0, 0), (17, .ireturn, 1, 0, 0, 0, 0)]
set_option maxRecDepth 100000 in
theorem sx_k237 : sx_c237.all (sx_chk 12 prog_14_method_34_code) = true := by decide +kernel
def sx_c238 : List sx_I := [(0, .aload_n 0, 1, 0, 0, 0, 0), (1, .iload_n 1, 1, 0, 0, 0, 0), (2, .invokevirtual 86, 3, 2, 225, 0, 0), (5, .ifCond .eq 13, 3, 0, 0, 0, 0), (8, .iload_n 2, 1, 0, 0, 0, 0), (9, .iconst 0, 1, 0, 0, 0, 0), (10, .bipush 99, 2, 0, 0, 0, 0), (12, .invokestatic 68, 3, 2, 220, 0, 0), (15, .ifCond .ne 10, 3, 0, 0, 0, 0), (18, .aload_n 0, 1, 0, 0, 0, 0), (19, .ldc 76, 2, 6, 0, 0, -100001), (21, .invokevirtual 77, 3, 2, 221, 0, 0), (24, .ireturn, 1, 0, 0, 0, 0), (25, .aload_n 0, 1, 0, 0, 0, 0), (26, .iload_n 1, 1, 0, 0, 0, 0), (27, .invokevirtual 111, 3, 2, 239, 0, 0), (30, .ifCond .eq 10, 3, 0, 0, 0, 0), (33, .aload_n 0, 1, 0, 0, 0, 0), (34, .ldc 114, 2, 6, 0, 0, -100006), (36, .invokevirtual 77, 3, 2, 221, 0, 0), (39, .ireturn, 1, 0, 0, 0, 0), (40, .iload_n 2, 1, 0, 0, 0, 0), (41, .aload_n 0, 1, 0, 0, 0, 0), (42, .iload_n 1, 1, 0, 0, 0, 0), (43, .invokevirtual 115, 3, 2, 240, 0, 0), (46, .if_icmp .le 10, 3, 0, 0, 0, 0), (49, .aload_n 0, 1, 0, 0, 0, 0), (50, .ldc 81, 2, 6, 0, 0, -100005), (52, .invokevirtual 77, 3, 2, 221, 0, 0), (55, .ireturn, 1, 0, 0, 0, 0), (56, .iload_n 3, 1, 0, 0, 0, 0), (57, .ifCond .eq 7, 3, 0, 0, 0, 0), (60, .iconst 5, 1, 0, 0, 0, 0), (61, .goto 4, 3, 0, 0, 0, 0), (64, .iconst 4, 1, 0, 0, 0, 0), (65, .istore 4, 2, 0, 0, 0, 0), (67, .aload_n 0, 1, 0, 0, 0, 0), (68, .iload_n 1, 1, 0, 0, 0, 0), (69, .iload 4, 2, 0, 0, 0, 0), (71, .aload_n 0, 1, 0, 0, 0, 0), (72, .iload_n 1, 1, 0, 0, 0, 0), (73, .iload 4, 2, 0, 0, 0, 0), (75, .invokevirtual 72, 3, 2, 226, 0, 0), (78, .iload_n 2, 1, 0, 0, 0, 0), (79, .iadd, 1, 0, 0, 0, 0), (80, .invokevirtual 82, 3, 2, 223, 0, 0), (83, .aload_n 0, 1, 0, 0, 0, 0), (84, .iload_n 1, 1, 0, 0, 0, 0), (85, .iload 4, 2, 0, 0, 0, 0), (87, .invokevirtual 72, 3, 2, 226, 0, 0), (90, .ireturn, 1, 0, 0, 0, 0)]
set_option maxRecDepth 100000 in
theorem sx_k238 : sx_c238.all (sx_chk 12 prog_14_method_19_code) = true := by decide +kernel
def sx_c239 : List sx_I := [(0, .aload_n 0, 1, 0, 0, 0, 0), (1, .iload_n 1, 1, 0, 0, 0, 0), (2, .bipush 6, 2, 0, 0, 0, 0), (4, .invokevirtual 72, 3, 2, 226, 0, 0), (7, .iconst 1, 1, 0, 0, 0, 0), (8, .if_icmp .ne 7, 3, 0, 0, 0, 0), (11, .iconst 1, 1, 0, 0, 0, 0), (12, .goto 4, 3, 0, 0, 0, 0), (15, .iconst 0, 1, 0, 0, 0, 0), (16, .ireturn, 1, 0, 0, 0, 0)]
set_option maxRecDepth 100000 in
theorem sx_k239 : sx_c239.all (sx_chk 12 prog_14_method_11_code) = true := by decide +kernel
end
section
/-! ===== printed by wip/gen_code.py: the methods' instructions ===== -/
def sx_c240 : List sx_I := [(0, .aload_n 0, 1, 0, 0, 0, 0), (1, .iload_n 1, 1, 0, 0, 0, 0), (2, .iconst 3, 1, 0, 0, 0, 0), (3, .invokevirtual 72, 3, 2, 226, 0, 0), (6, .aload_n 0, 1, 0, 0, 0, 0), (7, .iload_n 1, 1, 0, 0, 0, 0), (8, .iconst 4, 1, 0, 0, 0, 0), (9, .invokevirtual 72, 3, 2, 226, 0, 0), (12, .isub, 1, 0, 0, 0, 0), (13, .aload_n 0, 1, 0, 0, 0, 0), (14, .iload_n 1, 1, 0, 0, 0, 0), (15, .iconst 5, 1, 0, 0, 0, 0), (16, .invokevirtual 72, 3, 2, 226, 0, 0), (19, .isub, 1, 0, 0, 0, 0), (20, .ireturn, 1, 0, 0, 0, 0)]
set_option maxRecDepth 100000 in
theorem sx_k240 : sx_c240.all (sx_chk 12 prog_14_method_18_code) = true := by decide +kernel
def sx_c241 : List sx_I := [(0, .aload_n 0, 1, 0, 0, 0, 0), (1, .iload_n 1, 1, 0, 0, 0, 0), (2, .invokevirtual 86, 3, 2, 225, 0, 0), (5, .ifCond .eq 21, 3, 0, 0, 0, 0), (8, .aload_n 0, 1, 0, 0, 0, 0), (9, .iload_n 2, 1, 0, 0, 0, 0), (10, .invokevirtual 86, 3, 2, 225, 0, 0), (13, .ifCond .eq 13, 3, 0, 0, 0, 0), (16, .iload_n 3, 1, 0, 0, 0, 0), (17, .iconst 0, 1, 0, 0, 0, 0), (18, .bipush 99, 2, 0, 0, 0, 0), (20, .invokestatic 68, 3, 2, 220, 0, 0), (23, .ifCond .ne 10, 3, 0, 0, 0, 0), (26, .aload_n 0, 1, 0, 0, 0, 0), (27, .ldc 76, 2, 6, 0, 0, -100001), (29, .invokevirtual 77, 3, 2, 221, 0, 0), (32, .ireturn, 1, 0, 0, 0, 0), (33, .aload_n 0, 1, 0, 0, 0, 0), (34, .iload_n 1, 1, 0, 0, 0, 0), (35, .invokevirtual 111, 3, 2, 239, 0, 0), (38, .ifCond .ne 11, 3, 0, 0, 0, 0), (41, .aload_n 0, 1, 0, 0, 0, 0), (42, .iload_n 2, 1, 0, 0, 0, 0), (43, .invokevirtual 111, 3, 2, 239, 0, 0), (46, .ifCond .eq 10, 3, 0, 0, 0, 0), (49, .aload_n 0, 1, 0, 0, 0, 0), (50, .ldc 114, 2, 6, 0, 0, -100006), (52, .invokevirtual 77, 3, 2, 221, 0, 0), (55, .ireturn, 1, 0, 0, 0, 0), (56, .iload_n 1, 1, 0, 0, 0, 0), (57, .iload_n 2, 1, 0, 0, 0, 0), (58, .if_icmp .ne 10, 3, 0, 0, 0, 0), (61, .aload_n 0, 1, 0, 0, 0, 0), (62, .ldc 118, 2, 6, 0, 0, -100003), (64, .invokevirtual 77, 3, 2, 221, 0, 0), (67, .ireturn, 1, 0, 0, 0, 0), (68, .aload_n 0, 1, 0, 0, 0, 0), (69, .iload_n 1, 1, 0, 0, 0, 0), (70, .aload_n 0, 1, 0, 0, 0, 0), (71, .invokevirtual 101, 3, 2, 233, 0, 0), (74, .invokevirtual 105, 3, 2, 236, 0, 0), (77, .iload_n 2, 1, 0, 0, 0, 0), (78, .ishr, 1, 0, 0, 0, 0), (79, .iconst 1, 1, 0, 0, 0, 0), (80, .iand, 1, 0, 0, 0, 0), (81, .ifCond .ne 10, 3, 0, 0, 0, 0), (84, .aload_n 0, 1, 0, 0, 0, 0), (85, .ldc 119, 2, 6, 0, 0, -100008), (87, .invokevirtual 77, 3, 2, 221, 0, 0), (90, .ireturn, 1, 0, 0, 0, 0), (91, .iload 4, 2, 0, 0, 0, 0), (93, .ifCond .eq 7, 3, 0, 0, 0, 0), (96, .iconst 5, 1, 0, 0, 0, 0), (97, .goto 4, 3, 0, 0, 0, 0), (100, .iconst 4, 1, 0, 0, 0, 0), (101, .istore 5, 2, 0, 0, 0, 0), (103, .aload_n 0, 1, 0, 0, 0, 0), (104, .iload_n 1, 1, 0, 0, 0, 0), (105, .iload 5, 2, 0, 0, 0, 0), (107, .invokevirtual 72, 3, 2, 226, 0, 0), (110, .iload_n 3, 1, 0, 0, 0, 0), (111, .if_icmp .ge 10, 3, 0, 0, 0, 0), (114, .aload_n 0, 1, 0, 0, 0, 0), (115, .ldc 120, 2, 6, 0, 0, -100002), (117, .invokevirtual 77, 3, 2, 221, 0, 0), (120, .ireturn, 1, 0, 0, 0, 0), (121, .iload_n 3, 1, 0, 0, 0, 0), (122, .aload_n 0, 1, 0, 0, 0, 0), (123, .iload_n 2, 1, 0, 0, 0, 0), (124, .invokevirtual 115, 3, 2, 240, 0, 0), (127, .if_icmp .le 10, 3, 0, 0, 0, 0), (130, .aload_n 0, 1, 0, 0, 0, 0), (131, .ldc 81, 2, 6, 0, 0, -100005), (133, .invokevirtual 77, 3, 2, 221, 0, 0), (136, .ireturn, 1, 0, 0, 0, 0), (137, .aload_n 0, 1, 0, 0, 0, 0), (138, .iload_n 1, 1, 0, 0, 0, 0), (139, .iload 5, 2, 0, 0, 0, 0), (141, .aload_n 0, 1, 0, 0, 0, 0), (142, .iload_n 1, 1, 0, 0, 0, 0), (143, .iload 5, 2, 0, 0, 0, 0), (145, .invokevirtual 72, 3, 2, 226, 0, 0), (148, .iload_n 3, 1, 0, 0, 0, 0), (149, .isub, 1, 0, 0, 0, 0), (150, .invokevirtual 82, 3, 2, 223, 0, 0), (153, .aload_n 0, 1, 0, 0, 0, 0), (154, .iload_n 2, 1, 0, 0, 0, 0), (155, .iload 5, 2, 0, 0, 0, 0), (157, .aload_n 0, 1, 0, 0, 0, 0), (158, .iload_n 2, 1, 0, 0, 0, 0), (159, .iload 5, 2, 0, 0, 0, 0), (161, .invokevirtual 72, 3, 2, 226, 0, 0), (164, .iload_n 3, 1, 0, 0, 0, 0), (165, .iadd, 1, 0, 0, 0, 0), (166, .invokevirtual 82, 3, 2, 223, 0, 0), (169, .aload_n 0, 1, 0, 0, 0, 0), (170, .iload_n 2, 1, 0, 0, 0, 0), (171, .iload 5, 2, 0, 0, 0, 0), (173, .invokevirtual 72, 3, 2, 226, 0, 0), (176, .ireturn, 1, 0, 0, 0, 0)]
set_option maxRecDepth 100000 in
theorem sx_k241 : sx_c241.all (sx_chk 12 prog_14_method_20_code) = true := by decide +kernel
def sx_c242 : List sx_I := [(0, .aload_n 0, 1, 0, 0, 0, 0), (1, .iload_n 1, 1, 0, 0, 0, 0), (2, .invokevirtual 86, 3, 2, 225, 0, 0), (5, .ifCond .eq 57, 3, 0, 0, 0, 0), (8, .iload_n 2, 1, 0, 0, 0, 0), (9, .sipush (-9999), 3, 0, 0, 0, 0), (12, .iconst 0, 1, 0, 0, 0, 0), (13, .invokestatic 68, 3, 2, 220, 0, 0), (16, .ifCond .eq 46, 3, 0, 0, 0, 0), (19, .iload_n 3, 1, 0, 0, 0, 0), (20, .iconst (-1), 1, 0, 0, 0, 0), (21, .aload_n 0, 1, 0, 0, 0, 0), (22, .getfield 7, 3, 0, 12, 0, 0), (25, .iconst 1, 1, 0, 0, 0, 0), (26, .iaload, 1, 0, 0, 0, 0), (27, .iconst 1, 1, 0, 0, 0, 0), (28, .isub, 1, 0, 0, 0, 0), (29, .invokestatic 68, 3, 2, 220, 0, 0), (32, .ifCond .eq 30, 3, 0, 0, 0, 0), (35, .iload 4, 2, 0, 0, 0, 0), (37, .iconst (-1), 1, 0, 0, 0, 0), (38, .aload_n 0, 1, 0, 0, 0, 0), (39, .getfield 7, 3, 0, 12, 0, 0), (42, .iconst 1, 1, 0, 0, 0, 0), (43, .iaload, 1, 0, 0, 0, 0), (44, .iconst 1, 1, 0, 0, 0, 0), (45, .isub, 1, 0, 0, 0, 0), (46, .invokestatic 68, 3, 2, 220, 0, 0), (49, .ifCond .eq 13, 3, 0, 0, 0, 0), (52, .iload_n 3, 1, 0, 0, 0, 0), (53, .ifCond .lt 16, 3, 0, 0, 0, 0), (56, .iload_n 3, 1, 0, 0, 0, 0), (57, .iload 4, 2, 0, 0, 0, 0), (59, .if_icmp .ne 10, 3, 0, 0, 0, 0), (62, .aload_n 0, 1, 0, 0, 0, 0), (63, .ldc 76, 2, 6, 0, 0, -100001), (65, .invokevirtual 77, 3, 2, 221, 0, 0), (68, .ireturn, 1, 0, 0, 0, 0), (69, .aload_n 0, 1, 0, 0, 0, 0), (70, .iload_n 1, 1, 0, 0, 0, 0), (71, .invokevirtual 111, 3, 2, 239, 0, 0), (74, .ifCond .eq 10, 3, 0, 0, 0, 0), (77, .aload_n 0, 1, 0, 0, 0, 0), (78, .ldc 114, 2, 6, 0, 0, -100006), (80, .invokevirtual 77, 3, 2, 221, 0, 0), (83, .ireturn, 1, 0, 0, 0, 0), (84, .aload_n 0, 1, 0, 0, 0, 0), (85, .getfield 7, 3, 0, 12, 0, 0), (88, .iconst 1, 1, 0, 0, 0, 0), (89, .iaload, 1, 0, 0, 0, 0), (90, .istore 5, 2, 0, 0, 0, 0), (92, .iload 5, 2, 0, 0, 0, 0), (94, .bipush 14, 2, 0, 0, 0, 0), (96, .if_icmp .ne 10, 3, 0, 0, 0, 0), (99, .aload_n 0, 1, 0, 0, 0, 0), (100, .ldc 81, 2, 6, 0, 0, -100005), (102, .invokevirtual 77, 3, 2, 221, 0, 0), (105, .ireturn, 1, 0, 0, 0, 0), (106, .aload_n 0, 1, 0, 0, 0, 0), (107, .getfield 7, 3, 0, 12, 0, 0), (110, .iconst 1, 1, 0, 0, 0, 0), (111, .dup2, 1, 0, 0, 0, 0), (112, .iaload, 1, 0, 0, 0, 0), (113, .iconst 1, 1, 0, 0, 0, 0), (114, .iadd, 1, 0, 0, 0, 0), (115, .iastore, 1, 0, 0, 0, 0), (116, .sipush 150, 3, 0, 0, 0, 0), (119, .bipush 7, 2, 0, 0, 0, 0), (121, .iload 5, 2, 0, 0, 0, 0), (123, .imul, 1, 0, 0, 0, 0), (124, .iadd, 1, 0, 0, 0, 0), (125, .istore 6, 2, 0, 0, 0, 0), (127, .aload_n 0, 1, 0, 0, 0, 0), (128, .getfield 7, 3, 0, 12, 0, 0), (131, .iload 6, 2, 0, 0, 0, 0), (133, .iload_n 1, 1, 0, 0, 0, 0), (134, .iastore, 1, 0, 0, 0, 0), (135, .aload_n 0, 1, 0, 0, 0, 0), (136, .getfield 7, 3, 0, 12, 0, 0), (139, .iload 6, 2, 0, 0, 0, 0), (141, .iconst 1, 1, 0, 0, 0, 0), (142, .iadd, 1, 0, 0, 0, 0), (143, .iload_n 2, 1, 0, 0, 0, 0), (144, .iastore, 1, 0, 0, 0, 0), (145, .aload_n 0, 1, 0, 0, 0, 0), (146, .getfield 7, 3, 0, 12, 0, 0), (149, .iload 6, 2, 0, 0, 0, 0), (151, .iconst 2, 1, 0, 0, 0, 0), (152, .iadd, 1, 0, 0, 0, 0), (153, .iload_n 3, 1, 0, 0, 0, 0), (154, .iastore, 1, 0, 0, 0, 0), (155, .aload_n 0, 1, 0, 0, 0, 0), (156, .getfield 7, 3, 0, 12, 0, 0), (159, .iload 6, 2, 0, 0, 0, 0), (161, .iconst 3, 1, 0, 0, 0, 0), (162, .iadd, 1, 0, 0, 0, 0), (163, .iload 4, 2, 0, 0, 0, 0), (165, .iastore, 1, 0, 0, 0, 0), (166, .aload_n 0, 1, 0, 0, 0, 0), (167, .getfield 7, 3, 0, 12, 0, 0), (170, .iload 6, 2, 0, 0, 0, 0), (172, .iconst 4, 1, 0, 0, 0, 0), (173, .iadd, 1, 0, 0, 0, 0), (174, .iconst (-1), 1, 0, 0, 0, 0), (175, .iastore, 1, 0, 0, 0, 0), (176, .aload_n 0, 1, 0, 0, 0, 0), (177, .getfield 7, 3, 0, 12, 0, 0), (180, .iload 6, 2, 0, 0, 0, 0), (182, .iconst 5, 1, 0, 0, 0, 0), (183, .iadd, 1, 0, 0, 0, 0), (184, .iconst 0, 1, 0, 0, 0, 0), (185, .iastore, 1, 0, 0, 0, 0), (186, .aload_n 0, 1, 0, 0, 0, 0), (187, .getfield 7, 3, 0, 12, 0, 0), (190, .iload 6, 2, 0, 0, 0, 0), (192, .bipush 6, 2, 0, 0, 0, 0), (194, .iadd, 1, 0, 0, 0, 0), (195, .iconst 0, 1, 0, 0, 0, 0), (196, .iastore, 1, 0, 0, 0, 0), (197, .iload 5, 2, 0, 0, 0, 0), (199, .ireturn, 1, 0, 0, 0, 0)]
set_option maxRecDepth 100000 in
theorem sx_k242 : sx_c242.all (sx_chk 12 prog_14_method_24_code) = true := by decide +kernel
def sx_c243 : List sx_I := [(0, .aload_n 0, 1, 0, 0, 0, 0), (1, .iload_n 1, 1, 0, 0, 0, 0), (2, .invokevirtual 127, 3, 2, 244, 0, 0), (5, .ifCond .eq 11, 3, 0, 0, 0, 0), (8, .aload_n 0, 1, 0, 0, 0, 0), (9, .iload_n 2, 1, 0, 0, 0, 0), (10, .invokevirtual 127, 3, 2, 244, 0, 0), (13, .ifCond .ne 10, 3, 0, 0, 0, 0), (16, .aload_n 0, 1, 0, 0, 0, 0), (17, .ldc 76, 2, 6, 0, 0, -100001), (19, .invokevirtual 77, 3, 2, 221, 0, 0), (22, .ireturn, 1, 0, 0, 0, 0), (23, .iload_n 1, 1, 0, 0, 0, 0), (24, .iload_n 2, 1, 0, 0, 0, 0), (25, .if_icmp .ne 10, 3, 0, 0, 0, 0), (28, .aload_n 0, 1, 0, 0, 0, 0), (29, .ldc 118, 2, 6, 0, 0, -100003), (31, .invokevirtual 77, 3, 2, 221, 0, 0), (34, .ireturn, 1, 0, 0, 0, 0), (35, .aload_n 0, 1, 0, 0, 0, 0), (36, .iload_n 1, 1, 0, 0, 0, 0), (37, .invokevirtual 124, 3, 2, 230, 0, 0), (40, .ifCond .ne 11, 3, 0, 0, 0, 0), (43, .aload_n 0, 1, 0, 0, 0, 0), (44, .iload_n 2, 1, 0, 0, 0, 0), (45, .invokevirtual 124, 3, 2, 230, 0, 0), (48, .ifCond .eq 10, 3, 0, 0, 0, 0), (51, .aload_n 0, 1, 0, 0, 0, 0), (52, .ldc 114, 2, 6, 0, 0, -100006), (54, .invokevirtual 77, 3, 2, 221, 0, 0), (57, .ireturn, 1, 0, 0, 0, 0), (58, .aload_n 0, 1, 0, 0, 0, 0), (59, .iload_n 1, 1, 0, 0, 0, 0), (60, .iconst 4, 1, 0, 0, 0, 0), (61, .invokevirtual 121, 3, 2, 231, 0, 0), (64, .ifCond .ge 12, 3, 0, 0, 0, 0), (67, .aload_n 0, 1, 0, 0, 0, 0), (68, .iload_n 2, 1, 0, 0, 0, 0), (69, .iconst 4, 1, 0, 0, 0, 0), (70, .invokevirtual 121, 3, 2, 231, 0, 0), (73, .ifCond .lt 10, 3, 0, 0, 0, 0), (76, .aload_n 0, 1, 0, 0, 0, 0), (77, .ldc 130, 2, 6, 0, 0, -100007), (79, .invokevirtual 77, 3, 2, 221, 0, 0), (82, .ireturn, 1, 0, 0, 0, 0), (83, .aload_n 0, 1, 0, 0, 0, 0), (84, .getfield 7, 3, 0, 12, 0, 0), (87, .sipush 150, 3, 0, 0, 0, 0), (90, .bipush 7, 2, 0, 0, 0, 0), (92, .iload_n 1, 1, 0, 0, 0, 0), (93, .imul, 1, 0, 0, 0, 0), (94, .iadd, 1, 0, 0, 0, 0), (95, .iconst 4, 1, 0, 0, 0, 0), (96, .iadd, 1, 0, 0, 0, 0), (97, .iload_n 2, 1, 0, 0, 0, 0), (98, .iastore, 1, 0, 0, 0, 0), (99, .aload_n 0, 1, 0, 0, 0, 0), (100, .getfield 7, 3, 0, 12, 0, 0), (103, .sipush 150, 3, 0, 0, 0, 0), (106, .bipush 7, 2, 0, 0, 0, 0), (108, .iload_n 2, 1, 0, 0, 0, 0), (109, .imul, 1, 0, 0, 0, 0), (110, .iadd, 1, 0, 0, 0, 0), (111, .iconst 4, 1, 0, 0, 0, 0), (112, .iadd, 1, 0, 0, 0, 0), (113, .iload_n 1, 1, 0, 0, 0, 0), (114, .iastore, 1, 0, 0, 0, 0), (115, .iconst 1, 1, 0, 0, 0, 0), (116, .ireturn, 1, 0, 0, 0, 0)]
set_option maxRecDepth 100000 in
theorem sx_k243 : sx_c243.all (sx_chk 12 prog_14_method_25_code) = true := by decide +kernel
def sx_c244 : List sx_I := [(0, .iload_n 1, 1, 0, 0, 0, 0), (1, .iconst 0, 1, 0, 0, 0, 0), (2, .aload_n 0, 1, 0, 0, 0, 0), (3, .getfield 7, 3, 0, 12, 0, 0), (6, .iconst 1, 1, 0, 0, 0, 0), (7, .iaload, 1, 0, 0, 0, 0), (8, .iconst 1, 1, 0, 0, 0, 0), (9, .isub, 1, 0, 0, 0, 0), (10, .invokestatic 68, 3, 2, 220, 0, 0), (13, .ireturn, 1, 0, 0, 0, 0)]
set_option maxRecDepth 100000 in
theorem sx_k244 : sx_c244.all (sx_chk 12 prog_14_method_6_code) = true := by decide +kernel
def sx_c245 : List sx_I := [(0, .aload_n 0, 1, 0, 0, 0, 0), (1, .iload_n 1, 1, 0, 0, 0, 0), (2, .invokevirtual 127, 3, 2, 244, 0, 0), (5, .ifCond .eq 11, 3, 0, 0, 0, 0), (8, .aload_n 0, 1, 0, 0, 0, 0), (9, .iload_n 2, 1, 0, 0, 0, 0), (10, .invokevirtual 86, 3, 2, 225, 0, 0), (13, .ifCond .ne 10, 3, 0, 0, 0, 0), (16, .aload_n 0, 1, 0, 0, 0, 0), (17, .ldc 76, 2, 6, 0, 0, -100001), (19, .invokevirtual 77, 3, 2, 221, 0, 0), (22, .ireturn, 1, 0, 0, 0, 0), (23, .aload_n 0, 1, 0, 0, 0, 0), (24, .iload_n 1, 1, 0, 0, 0, 0), (25, .invokevirtual 124, 3, 2, 230, 0, 0), (28, .ifCond .ne 11, 3, 0, 0, 0, 0), (31, .aload_n 0, 1, 0, 0, 0, 0), (32, .iload_n 2, 1, 0, 0, 0, 0), (33, .invokevirtual 111, 3, 2, 239, 0, 0), (36, .ifCond .eq 10, 3, 0, 0, 0, 0), (39, .aload_n 0, 1, 0, 0, 0, 0), (40, .ldc 114, 2, 6, 0, 0, -100006), (42, .invokevirtual 77, 3, 2, 221, 0, 0), (45, .ireturn, 1, 0, 0, 0, 0), (46, .aload_n 0, 1, 0, 0, 0, 0), (47, .iload_n 1, 1, 0, 0, 0, 0), (48, .iconst 0, 1, 0, 0, 0, 0), (49, .invokevirtual 121, 3, 2, 231, 0, 0), (52, .istore_n 3, 1, 0, 0, 0, 0), (53, .aload_n 0, 1, 0, 0, 0, 0), (54, .iload_n 3, 1, 0, 0, 0, 0), (55, .aload_n 0, 1, 0, 0, 0, 0), (56, .invokevirtual 101, 3, 2, 233, 0, 0), (59, .invokevirtual 105, 3, 2, 236, 0, 0), (62, .iload_n 2, 1, 0, 0, 0, 0), (63, .ishr, 1, 0, 0, 0, 0), (64, .iconst 1, 1, 0, 0, 0, 0), (65, .iand, 1, 0, 0, 0, 0), (66, .ifCond .ne 10, 3, 0, 0, 0, 0), (69, .aload_n 0, 1, 0, 0, 0, 0), (70, .ldc 119, 2, 6, 0, 0, -100008), (72, .invokevirtual 77, 3, 2, 221, 0, 0), (75, .ireturn, 1, 0, 0, 0, 0), (76, .aload_n 0, 1, 0, 0, 0, 0), (77, .getfield 7, 3, 0, 12, 0, 0), (80, .sipush 150, 3, 0, 0, 0, 0), (83, .bipush 7, 2, 0, 0, 0, 0), (85, .iload_n 1, 1, 0, 0, 0, 0), (86, .imul, 1, 0, 0, 0, 0), (87, .iadd, 1, 0, 0, 0, 0), (88, .iload_n 2, 1, 0, 0, 0, 0), (89, .iastore, 1, 0, 0, 0, 0), (90, .iload_n 3, 1, 0, 0, 0, 0), (91, .ireturn, 1, 0, 0, 0, 0)]
set_option maxRecDepth 100000 in
theorem sx_k245 : sx_c245.all (sx_chk 12 prog_14_method_26_code) = true := by decide +kernel
def sx_c246 : List sx_I := [(0, .aload_n 0, 1, 0, 0, 0, 0), (1, .iload_n 1, 1, 0, 0, 0, 0), (2, .invokevirtual 127, 3, 2, 244, 0, 0), (5, .ifCond .eq 12, 3, 0, 0, 0, 0), (8, .iload_n 2, 1, 0, 0, 0, 0), (9, .iconst 0, 1, 0, 0, 0, 0), (10, .iconst 5, 1, 0, 0, 0, 0), (11, .invokestatic 68, 3, 2, 220, 0, 0), (14, .ifCond .ne 10, 3, 0, 0, 0, 0), (17, .aload_n 0, 1, 0, 0, 0, 0), (18, .ldc 76, 2, 6, 0, 0, -100001), (20, .invokevirtual 77, 3, 2, 221, 0, 0), (23, .ireturn, 1, 0, 0, 0, 0), (24, .iload_n 2, 1, 0, 0, 0, 0), (25, .tableswitch 104 2 5 #[31, 38, 45, 53], 31, 0, 0, 0, 0), (56, .aload_n 0, 1, 0, 0, 0, 0), (57, .iload_n 1, 1, 0, 0, 0, 0), (58, .iconst 4, 1, 0, 0, 0, 0), (59, .invokevirtual 121, 3, 2, 231, 0, 0), (62, .ireturn, 1, 0, 0, 0, 0), (63, .aload_n 0, 1, 0, 0, 0, 0), (64, .iload_n 1, 1, 0, 0, 0, 0), (65, .iconst 5, 1, 0, 0, 0, 0), (66, .invokevirtual 121, 3, 2, 231, 0, 0), (69, .ireturn, 1, 0, 0, 0, 0), (70, .aload_n 0, 1, 0, 0, 0, 0), (71, .iload_n 1, 1, 0, 0, 0, 0), (72, .bipush 6, 2, 0, 0, 0, 0), (74, .invokevirtual 121, 3, 2, 231, 0, 0), (77, .ireturn, 1, 0, 0, 0, 0), (78, .iconst 0, 1, 0, 0, 0, 0), (79, .istore_n 3, 1, 0, 0, 0, 0), (80, .iconst 0, 1, 0, 0, 0, 0), (81, .istore 4, 2, 0, 0, 0, 0), (83, .iload 4, 2, 0, 0, 0, 0), (85, .aload_n 0, 1, 0, 0, 0, 0), (86, .getfield 7, 3, 0, 12, 0, 0), (89, .iconst 1, 1, 0, 0, 0, 0), (90, .iaload, 1, 0, 0, 0, 0), (91, .if_icmp .ge 36, 3, 0, 0, 0, 0), (94, .iload_n 3, 1, 0, 0, 0, 0), (95, .iload 4, 2, 0, 0, 0, 0), (97, .iload_n 1, 1, 0, 0, 0, 0), (98, .if_icmp .eq 20, 3, 0, 0, 0, 0), (101, .aload_n 0, 1, 0, 0, 0, 0), (102, .iload_n 1, 1, 0, 0, 0, 0), (103, .iload 4, 2, 0, 0, 0, 0), (105, .invokevirtual 134, 3, 2, 247, 0, 0), (108, .ifCond .eq 10, 3, 0, 0, 0, 0), (111, .iconst 1, 1, 0, 0, 0, 0), (112, .iload 4, 2, 0, 0, 0, 0), (114, .ishl, 1, 0, 0, 0, 0), (115, .goto 4, 3, 0, 0, 0, 0), (118, .iconst 0, 1, 0, 0, 0, 0), (119, .ior, 1, 0, 0, 0, 0), (120, .istore_n 3, 1, 0, 0, 0, 0), (121, .iinc 4 1, 3, 0, 0, 0, 0), (124, .goto (-41), 3, 0, 0, 0, 0), (127, .iload_n 3, 1, 0, 0, 0, 0), (128, .ireturn, 1, 0, 0, 0, 0), (129, .aload_n 0, 1, 0, 0, 0, 0), (130, .iload_n 1, 1, 0, 0, 0, 0), (131, .iload_n 2, 1, 0, 0, 0, 0), (132, .invokevirtual 121, 3, 2, 231, 0, 0), (135, .ireturn, 1, 0, 0, 0, 0)]
set_option maxRecDepth 100000 in
theorem sx_k246 : sx_c246.all (sx_chk 12 prog_14_method_29_code) = true := by decide +kernel
def sx_c247 : List sx_I := [(0, .aload_n 0, 1, 0, 0, 0, 0), (1, .iload_n 1, 1, 0, 0, 0, 0), (2, .iload_n 2, 1, 0, 0, 0, 0), (3, .invokevirtual 131, 3, 2, 248, 0, 0), (6, .ifCond .ne 22, 3, 0, 0, 0, 0), (9, .aload_n 0, 1, 0, 0, 0, 0), (10, .iload_n 2, 1, 0, 0, 0, 0), (11, .iload_n 1, 1, 0, 0, 0, 0), (12, .invokevirtual 131, 3, 2, 248, 0, 0), (15, .ifCond .ne 13, 3, 0, 0, 0, 0), (18, .aload_n 0, 1, 0, 0, 0, 0), (19, .iload_n 1, 1, 0, 0, 0, 0), (20, .iconst 4, 1, 0, 0, 0, 0), (21, .invokevirtual 121, 3, 2, 231, 0, 0), (24, .iload_n 2, 1, 0, 0, 0, 0), (25, .if_icmp .ne 5, 3, 0, 0, 0, 0), (28, .iconst 1, 1, 0, 0, 0, 0), (29, .ireturn, 1, 0, 0, 0, 0), (30, .aload_n 0, 1, 0, 0, 0, 0), (31, .iload_n 1, 1, 0, 0, 0, 0), (32, .iconst 2, 1, 0, 0, 0, 0), (33, .invokevirtual 121, 3, 2, 231, 0, 0), (36, .ifCond .lt 17, 3, 0, 0, 0, 0), (39, .aload_n 0, 1, 0, 0, 0, 0), (40, .aload_n 0, 1, 0, 0, 0, 0), (41, .iload_n 1, 1, 0, 0, 0, 0), (42, .iconst 2, 1, 0, 0, 0, 0), (43, .invokevirtual 121, 3, 2, 231, 0, 0), (46, .iload_n 2, 1, 0, 0, 0, 0), (47, .invokevirtual 131, 3, 2, 248, 0, 0), (50, .ifCond .ne 26, 3, 0, 0, 0, 0), (53, .aload_n 0, 1, 0, 0, 0, 0), (54, .iload_n 1, 1, 0, 0, 0, 0), (55, .iconst 3, 1, 0, 0, 0, 0), (56, .invokevirtual 121, 3, 2, 231, 0, 0), (59, .ifCond .lt 21, 3, 0, 0, 0, 0), (62, .aload_n 0, 1, 0, 0, 0, 0), (63, .aload_n 0, 1, 0, 0, 0, 0), (64, .iload_n 1, 1, 0, 0, 0, 0), (65, .iconst 3, 1, 0, 0, 0, 0), (66, .invokevirtual 121, 3, 2, 231, 0, 0), (69, .iload_n 2, 1, 0, 0, 0, 0), (70, .invokevirtual 131, 3, 2, 248, 0, 0), (73, .ifCond .eq 7, 3, 0, 0, 0, 0), (76, .iconst 1, 1, 0, 0, 0, 0), (77, .goto 4, 3, 0, 0, 0, 0), (80, .iconst 0, 1, 0, 0, 0, 0), (81, .ireturn, 1, 0, 0, 0, 0)]
set_option maxRecDepth 100000 in
theorem sx_k247 : sx_c247.all (sx_chk 12 prog_14_method_28_code) = true := by decide +kernel
def sx_c248 : List sx_I := [(0, .aload_n 0, 1, 0, 0, 0, 0), (1, .iload_n 2, 1, 0, 0, 0, 0), (2, .iconst 2, 1, 0, 0, 0, 0), (3, .invokevirtual 121, 3, 2, 231, 0, 0), (6, .iload_n 1, 1, 0, 0, 0, 0), (7, .if_icmp .eq 13, 3, 0, 0, 0, 0), (10, .aload_n 0, 1, 0, 0, 0, 0), (11, .iload_n 2, 1, 0, 0, 0, 0), (12, .iconst 3, 1, 0, 0, 0, 0), (13, .invokevirtual 121, 3, 2, 231, 0, 0), (16, .iload_n 1, 1, 0, 0, 0, 0), (17, .if_icmp .ne 7, 3, 0, 0, 0, 0), (20, .iconst 1, 1, 0, 0, 0, 0), (21, .goto 4, 3, 0, 0, 0, 0), (24, .iconst 0, 1, 0, 0, 0, 0), (25, .ireturn, 1, 0, 0, 0, 0)]
set_option maxRecDepth 100000 in
theorem sx_k248 : sx_c248.all (sx_chk 12 prog_14_method_27_code) = true := by decide +kernel
def sx_c249 : List sx_I := [(0, .aload_n 0, 1, 0, 0, 0, 0), (1, .invokevirtual 143, 3, 2, 250, 0, 0), (4, .ireturn, 1, 0, 0, 0, 0)]
set_option maxRecDepth 100000 in
theorem sx_k249 : sx_c249.all (sx_chk 12 prog_14_method_37_code) = true := by decide +kernel
def sx_c250 : List sx_I := [(0, .aload_n 0, 1, 0, 0, 0, 0), (1, .invokevirtual 101, 3, 2, 233, 0, 0), (4, .istore_n 1, 1, 0, 0, 0, 0), (5, .iconst 0, 1, 0, 0, 0, 0), (6, .istore_n 2, 1, 0, 0, 0, 0), (7, .iconst 0, 1, 0, 0, 0, 0), (8, .istore_n 3, 1, 0, 0, 0, 0), (9, .iload_n 3, 1, 0, 0, 0, 0), (10, .aload_n 0, 1, 0, 0, 0, 0), (11, .getfield 7, 3, 0, 12, 0, 0), (14, .iconst 0, 1, 0, 0, 0, 0), (15, .iaload, 1, 0, 0, 0, 0), (16, .if_icmp .ge 38, 3, 0, 0, 0, 0), (19, .iload_n 2, 1, 0, 0, 0, 0), (20, .aload_n 0, 1, 0, 0, 0, 0), (21, .iload_n 3, 1, 0, 0, 0, 0), (22, .invokevirtual 111, 3, 2, 239, 0, 0), (25, .ifCond .ne 20, 3, 0, 0, 0, 0), (28, .aload_n 0, 1, 0, 0, 0, 0), (29, .iload_n 3, 1, 0, 0, 0, 0), (30, .iload_n 1, 1, 0, 0, 0, 0), (31, .invokevirtual 105, 3, 2, 236, 0, 0), (34, .invokestatic 108, 3, 2, 237, 0, 0), (37, .iload_n 3, 1, 0, 0, 0, 0), (38, .if_icmp .ne 7, 3, 0, 0, 0, 0), (41, .iconst 1, 1, 0, 0, 0, 0), (42, .goto 4, 3, 0, 0, 0, 0), (45, .iconst 0, 1, 0, 0, 0, 0), (46, .iadd, 1, 0, 0, 0, 0), (47, .istore_n 2, 1, 0, 0, 0, 0), (48, .iinc 3 1, 3, 0, 0, 0, 0), (51, .goto (-42), 3, 0, 0, 0, 0), (54, .iload_n 2, 1, 0, 0, 0, 0), (55, .ireturn, 1, 0, 0, 0, 0)]
set_option maxRecDepth 100000 in
theorem sx_k250 : sx_c250.all (sx_chk 12 prog_14_method_36_code) = true := by decide +kernel
def sx_c251 : List sx_I := [(0, .aload_n 0, 1, 0, 0, 0, 0), (1, .iload_n 1, 1, 0, 0, 0, 0), (2, .invokevirtual 86, 3, 2, 225, 0, 0), (5, .ifCond .ne 10, 3, 0, 0, 0, 0), (8, .aload_n 0, 1, 0, 0, 0, 0), (9, .ldc 76, 2, 6, 0, 0, -100001), (11, .invokevirtual 77, 3, 2, 221, 0, 0), (14, .ireturn, 1, 0, 0, 0, 0), (15, .aload_n 0, 1, 0, 0, 0, 0), (16, .iload_n 1, 1, 0, 0, 0, 0), (17, .invokevirtual 111, 3, 2, 239, 0, 0), (20, .ifCond .eq 12, 3, 0, 0, 0, 0), (23, .aload_n 0, 1, 0, 0, 0, 0), (24, .ldc 114, 2, 6, 0, 0, -100006), (26, .invokevirtual 77, 3, 2, 221, 0, 0), (29, .goto 12, 3, 0, 0, 0, 0), (32, .aload_n 0, 1, 0, 0, 0, 0), (33, .iload_n 1, 1, 0, 0, 0, 0), (34, .aload_n 0, 1, 0, 0, 0, 0), (35, .invokevirtual 101, 3, 2, 233, 0, 0), (38, .invokevirtual 105, 3, 2, 236, 0, 0), (41, .ireturn, 1, 0, 0, 0, 0)]
set_option maxRecDepth 100000 in
theorem sx_k251 : sx_c251.all (sx_chk 12 prog_14_method_38_code) = true := by decide +kernel
def sx_c252 : List sx_I := [(0, .aload_n 0, 1, 0, 0, 0, 0), (1, .iload_n 1, 1, 0, 0, 0, 0), (2, .invokevirtual 86, 3, 2, 225, 0, 0), (5, .ifCond .eq 41, 3, 0, 0, 0, 0), (8, .aload_n 0, 1, 0, 0, 0, 0), (9, .iload_n 3, 1, 0, 0, 0, 0), (10, .invokevirtual 86, 3, 2, 225, 0, 0), (13, .ifCond .eq 33, 3, 0, 0, 0, 0), (16, .iload_n 2, 1, 0, 0, 0, 0), (17, .iconst 0, 1, 0, 0, 0, 0), (18, .iconst 3, 1, 0, 0, 0, 0), (19, .invokestatic 68, 3, 2, 220, 0, 0), (22, .ifCond .eq 24, 3, 0, 0, 0, 0), (25, .iload 4, 2, 0, 0, 0, 0), (27, .iconst 0, 1, 0, 0, 0, 0), (28, .iconst 3, 1, 0, 0, 0, 0), (29, .invokestatic 68, 3, 2, 220, 0, 0), (32, .ifCond .eq 14, 3, 0, 0, 0, 0), (35, .iload 5, 2, 0, 0, 0, 0), (37, .iconst 1, 1, 0, 0, 0, 0), (38, .bipush 99, 2, 0, 0, 0, 0), (40, .invokestatic 68, 3, 2, 220, 0, 0), (43, .ifCond .ne 10, 3, 0, 0, 0, 0), (46, .aload_n 0, 1, 0, 0, 0, 0), (47, .ldc 76, 2, 6, 0, 0, -100001), (49, .invokevirtual 77, 3, 2, 221, 0, 0), (52, .ireturn, 1, 0, 0, 0, 0), (53, .iload_n 1, 1, 0, 0, 0, 0), (54, .iload_n 3, 1, 0, 0, 0, 0), (55, .if_icmp .ne 10, 3, 0, 0, 0, 0), (58, .aload_n 0, 1, 0, 0, 0, 0), (59, .ldc 118, 2, 6, 0, 0, -100003), (61, .invokevirtual 77, 3, 2, 221, 0, 0), (64, .ireturn, 1, 0, 0, 0, 0), (65, .aload_n 0, 1, 0, 0, 0, 0), (66, .iload_n 1, 1, 0, 0, 0, 0), (67, .invokevirtual 111, 3, 2, 239, 0, 0), (70, .ifCond .ne 11, 3, 0, 0, 0, 0), (73, .aload_n 0, 1, 0, 0, 0, 0), (74, .iload_n 3, 1, 0, 0, 0, 0), (75, .invokevirtual 111, 3, 2, 239, 0, 0), (78, .ifCond .eq 10, 3, 0, 0, 0, 0), (81, .aload_n 0, 1, 0, 0, 0, 0), (82, .ldc 114, 2, 6, 0, 0, -100006), (84, .invokevirtual 77, 3, 2, 221, 0, 0), (87, .ireturn, 1, 0, 0, 0, 0), (88, .aload_n 0, 1, 0, 0, 0, 0), (89, .iload_n 1, 1, 0, 0, 0, 0), (90, .iconst 1, 1, 0, 0, 0, 0), (91, .invokevirtual 72, 3, 2, 226, 0, 0), (94, .aload_n 0, 1, 0, 0, 0, 0), (95, .iload_n 3, 1, 0, 0, 0, 0), (96, .iconst 1, 1, 0, 0, 0, 0), (97, .invokevirtual 72, 3, 2, 226, 0, 0), (100, .if_icmp .eq 10, 3, 0, 0, 0, 0), (103, .aload_n 0, 1, 0, 0, 0, 0), (104, .ldc 119, 2, 6, 0, 0, -100008), (106, .invokevirtual 77, 3, 2, 221, 0, 0), (109, .ireturn, 1, 0, 0, 0, 0), (110, .aload_n 0, 1, 0, 0, 0, 0), (111, .iload_n 1, 1, 0, 0, 0, 0), (112, .iload_n 2, 1, 0, 0, 0, 0), (113, .invokevirtual 146, 3, 2, 253, 0, 0), (116, .ifCond .eq 13, 3, 0, 0, 0, 0), (119, .aload_n 0, 1, 0, 0, 0, 0), (120, .iload_n 3, 1, 0, 0, 0, 0), (121, .iload 4, 2, 0, 0, 0, 0), (123, .invokevirtual 146, 3, 2, 253, 0, 0), (126, .ifCond .ne 10, 3, 0, 0, 0, 0), (129, .aload_n 0, 1, 0, 0, 0, 0), (130, .ldc 130, 2, 6, 0, 0, -100007), (132, .invokevirtual 77, 3, 2, 221, 0, 0), (135, .ireturn, 1, 0, 0, 0, 0), (136, .iconst 0, 1, 0, 0, 0, 0), (137, .istore 6, 2, 0, 0, 0, 0), (139, .iload 6, 2, 0, 0, 0, 0), (141, .aload_n 0, 1, 0, 0, 0, 0), (142, .getfield 7, 3, 0, 12, 0, 0), (145, .iconst 2, 1, 0, 0, 0, 0), (146, .iaload, 1, 0, 0, 0, 0), (147, .if_icmp .ge 18, 3, 0, 0, 0, 0), (150, .aload_n 0, 1, 0, 0, 0, 0), (151, .iload 6, 2, 0, 0, 0, 0), (153, .invokevirtual 140, 3, 2, 234, 0, 0), (156, .ifCond .eq 9, 3, 0, 0, 0, 0), (159, .iinc 6 1, 3, 0, 0, 0, 0), (162, .goto (-23), 3, 0, 0, 0, 0), (165, .iload 6, 2, 0, 0, 0, 0), (167, .bipush 12, 2, 0, 0, 0, 0), (169, .if_icmp .ne 10, 3, 0, 0, 0, 0), (172, .aload_n 0, 1, 0, 0, 0, 0), (173, .ldc 81, 2, 6, 0, 0, -100005), (175, .invokevirtual 77, 3, 2, 221, 0, 0), (178, .ireturn, 1, 0, 0, 0, 0), (179, .aload_n 0, 1, 0, 0, 0, 0), (180, .getfield 7, 3, 0, 12, 0, 0), (183, .iconst 2, 1, 0, 0, 0, 0), (184, .iload 6, 2, 0, 0, 0, 0), (186, .aload_n 0, 1, 0, 0, 0, 0), (187, .getfield 7, 3, 0, 12, 0, 0), (190, .iconst 2, 1, 0, 0, 0, 0), (191, .iaload, 1, 0, 0, 0, 0), (192, .if_icmp .ne 10, 3, 0, 0, 0, 0), (195, .iload 6, 2, 0, 0, 0, 0), (197, .iconst 1, 1, 0, 0, 0, 0), (198, .iadd, 1, 0, 0, 0, 0), (199, .goto 9, 3, 0, 0, 0, 0), (202, .aload_n 0, 1, 0, 0, 0, 0), (203, .getfield 7, 3, 0, 12, 0, 0), (206, .iconst 2, 1, 0, 0, 0, 0), (207, .iaload, 1, 0, 0, 0, 0), (208, .iastore, 1, 0, 0, 0, 0), (209, .sipush 248, 3, 0, 0, 0, 0), (212, .bipush 8, 2, 0, 0, 0, 0), (214, .iload 6, 2, 0, 0, 0, 0), (216, .imul, 1, 0, 0, 0, 0), (217, .iadd, 1, 0, 0, 0, 0), (218, .istore 7, 2, 0, 0, 0, 0), (220, .aload_n 0, 1, 0, 0, 0, 0), (221, .getfield 7, 3, 0, 12, 0, 0), (224, .iload 7, 2, 0, 0, 0, 0), (226, .iload_n 1, 1, 0, 0, 0, 0), (227, .iastore, 1, 0, 0, 0, 0), (228, .aload_n 0, 1, 0, 0, 0, 0), (229, .getfield 7, 3, 0, 12, 0, 0), (232, .iload 7, 2, 0, 0, 0, 0), (234, .iconst 1, 1, 0, 0, 0, 0), (235, .iadd, 1, 0, 0, 0, 0), (236, .iload_n 3, 1, 0, 0, 0, 0), (237, .iastore, 1, 0, 0, 0, 0), (238, .aload_n 0, 1, 0, 0, 0, 0), (239, .getfield 7, 3, 0, 12, 0, 0), (242, .iload 7, 2, 0, 0, 0, 0), (244, .iconst 2, 1, 0, 0, 0, 0), (245, .iadd, 1, 0, 0, 0, 0), (246, .iload_n 2, 1, 0, 0, 0, 0), (247, .iastore, 1, 0, 0, 0, 0), (248, .aload_n 0, 1, 0, 0, 0, 0), (249, .getfield 7, 3, 0, 12, 0, 0), (252, .iload 7, 2, 0, 0, 0, 0), (254, .iconst 3, 1, 0, 0, 0, 0), (255, .iadd, 1, 0, 0, 0, 0), (256, .iload 4, 2, 0, 0, 0, 0), (258, .iastore, 1, 0, 0, 0, 0), (259, .aload_n 0, 1, 0, 0, 0, 0), (260, .getfield 7, 3, 0, 12, 0, 0), (263, .iload 7, 2, 0, 0, 0, 0), (265, .iconst 4, 1, 0, 0, 0, 0), (266, .iadd, 1, 0, 0, 0, 0), (267, .iload 5, 2, 0, 0, 0, 0), (269, .iastore, 1, 0, 0, 0, 0), (270, .aload_n 0, 1, 0, 0, 0, 0), (271, .getfield 7, 3, 0, 12, 0, 0), (274, .iload 7, 2, 0, 0, 0, 0), (276, .iconst 5, 1, 0, 0, 0, 0), (277, .iadd, 1, 0, 0, 0, 0), (278, .iconst 0, 1, 0, 0, 0, 0), (279, .iastore, 1, 0, 0, 0, 0), (280, .aload_n 0, 1, 0, 0, 0, 0), (281, .getfield 7, 3, 0, 12, 0, 0), (284, .iload 7, 2, 0, 0, 0, 0), (286, .bipush 6, 2, 0, 0, 0, 0), (288, .iadd, 1, 0, 0, 0, 0), (289, .iconst 0, 1, 0, 0, 0, 0), (290, .iastore, 1, 0, 0, 0, 0), (291, .aload_n 0, 1, 0, 0, 0, 0), (292, .getfield 7, 3, 0, 12, 0, 0), (295, .iload 7, 2, 0, 0, 0, 0), (297, .bipush 7, 2, 0, 0, 0, 0), (299, .iadd, 1, 0, 0, 0, 0), (300, .iconst 1, 1, 0, 0, 0, 0), (301, .iastore, 1, 0, 0, 0, 0), (302, .aload_n 0, 1, 0, 0, 0, 0), (303, .iload_n 1, 1, 0, 0, 0, 0), (304, .aload_n 0, 1, 0, 0, 0, 0), (305, .invokevirtual 101, 3, 2, 233, 0, 0), (308, .invokevirtual 105, 3, 2, 236, 0, 0), (311, .istore 8, 2, 0, 0, 0, 0), (313, .aload_n 0, 1, 0, 0, 0, 0), (314, .iload 8, 2, 0, 0, 0, 0), (316, .invokevirtual 149, 3, 2, 254, 0, 0), (319, .aload_n 0, 1, 0, 0, 0, 0), (320, .iconst 1, 1, 0, 0, 0, 0), (321, .iload 6, 2, 0, 0, 0, 0), (323, .iload 8, 2, 0, 0, 0, 0), (325, .invokevirtual 153, 3, 2, 255, 0, 0), (328, .iload 6, 2, 0, 0, 0, 0), (330, .ireturn, 1, 0, 0, 0, 0)]
set_option maxRecDepth 100000 in
theorem sx_k252_0 : ((sx_c252.drop 0).take 64).all (sx_chk 12 prog_14_method_40_code) = true := by decide +kernel
set_option maxRecDepth 100000 in
theorem sx_k252_1 : ((sx_c252.drop 64).take 64).all (sx_chk 12 prog_14_method_40_code) = true := by decide +kernel
set_option maxRecDepth 100000 in
theorem sx_k252_2 : ((sx_c252.drop 128).take 64).all (sx_chk 12 prog_14_method_40_code) = true := by decide +kernel
set_option maxRecDepth 100000 in
theorem sx_k252 : sx_c252.all (sx_chk 12 prog_14_method_40_code) = true := sx_ck 64 sx_k252_0 (sx_ck 64 sx_k252_1 (sx_ce sx_k252_2 rfl))
def sx_c253 : List sx_I := [(0, .iconst 0, 1, 0, 0, 0, 0), (1, .istore_n 3, 1, 0, 0, 0, 0), (2, .iconst 0, 1, 0, 0, 0, 0), (3, .istore 4, 2, 0, 0, 0, 0), (5, .iload 4, 2, 0, 0, 0, 0), (7, .aload_n 0, 1, 0, 0, 0, 0), (8, .getfield 7, 3, 0, 12, 0, 0), (11, .iconst 2, 1, 0, 0, 0, 0), (12, .iaload, 1, 0, 0, 0, 0), (13, .if_icmp .ge 81, 3, 0, 0, 0, 0), (16, .aload_n 0, 1, 0, 0, 0, 0), (17, .iload 4, 2, 0, 0, 0, 0), (19, .invokevirtual 140, 3, 2, 234, 0, 0), (22, .ifCond .ne 6, 3, 0, 0, 0, 0), (25, .goto 63, 3, 0, 0, 0, 0), (28, .iload_n 3, 1, 0, 0, 0, 0), (29, .aload_n 0, 1, 0, 0, 0, 0), (30, .iload 4, 2, 0, 0, 0, 0), (32, .iconst 0, 1, 0, 0, 0, 0), (33, .invokevirtual 137, 3, 2, 235, 0, 0), (36, .iload_n 1, 1, 0, 0, 0, 0), (37, .if_icmp .ne 18, 3, 0, 0, 0, 0), (40, .aload_n 0, 1, 0, 0, 0, 0), (41, .iload 4, 2, 0, 0, 0, 0), (43, .iconst 2, 1, 0, 0, 0, 0), (44, .invokevirtual 137, 3, 2, 235, 0, 0), (47, .iload_n 2, 1, 0, 0, 0, 0), (48, .if_icmp .ne 7, 3, 0, 0, 0, 0), (51, .iconst 1, 1, 0, 0, 0, 0), (52, .goto 4, 3, 0, 0, 0, 0), (55, .iconst 0, 1, 0, 0, 0, 0), (56, .iadd, 1, 0, 0, 0, 0), (57, .istore_n 3, 1, 0, 0, 0, 0), (58, .iload_n 3, 1, 0, 0, 0, 0), (59, .aload_n 0, 1, 0, 0, 0, 0), (60, .iload 4, 2, 0, 0, 0, 0), (62, .iconst 1, 1, 0, 0, 0, 0), (63, .invokevirtual 137, 3, 2, 235, 0, 0), (66, .iload_n 1, 1, 0, 0, 0, 0), (67, .if_icmp .ne 18, 3, 0, 0, 0, 0), (70, .aload_n 0, 1, 0, 0, 0, 0), (71, .iload 4, 2, 0, 0, 0, 0), (73, .iconst 3, 1, 0, 0, 0, 0), (74, .invokevirtual 137, 3, 2, 235, 0, 0), (77, .iload_n 2, 1, 0, 0, 0, 0), (78, .if_icmp .ne 7, 3, 0, 0, 0, 0), (81, .iconst 1, 1, 0, 0, 0, 0), (82, .goto 4, 3, 0, 0, 0, 0), (85, .iconst 0, 1, 0, 0, 0, 0), (86, .iadd, 1, 0, 0, 0, 0), (87, .istore_n 3, 1, 0, 0, 0, 0), (88, .iinc 4 1, 3, 0, 0, 0, 0), (91, .goto (-86), 3, 0, 0, 0, 0), (94, .iload_n 3, 1, 0, 0, 0, 0), (95, .aload_n 0, 1, 0, 0, 0, 0), (96, .iload_n 1, 1, 0, 0, 0, 0), (97, .iconst 0, 1, 0, 0, 0, 0), (98, .invokevirtual 72, 3, 2, 226, 0, 0), (101, .iconst 2, 1, 0, 0, 0, 0), (102, .if_icmp .ne 7, 3, 0, 0, 0, 0), (105, .iconst 2, 1, 0, 0, 0, 0), (106, .goto 4, 3, 0, 0, 0, 0), (109, .iconst 1, 1, 0, 0, 0, 0), (110, .if_icmp .ge 7, 3, 0, 0, 0, 0), (113, .iconst 1, 1, 0, 0, 0, 0), (114, .goto 4, 3, 0, 0, 0, 0), (117, .iconst 0, 1, 0, 0, 0, 0), (118, .ireturn, 1, 0, 0, 0, 0)]
set_option maxRecDepth 100000 in
theorem sx_k253 : sx_c253.all (sx_chk 12 prog_14_method_39_code) = true := by decide +kernel
def sx_c254 : List sx_I := [(0, .iconst 0, 1, 0, 0, 0, 0), (1, .istore_n 2, 1, 0, 0, 0, 0), (2, .iload_n 2, 1, 0, 0, 0, 0), (3, .aload_n 0, 1, 0, 0, 0, 0), (4, .getfield 7, 3, 0, 12, 0, 0), (7, .bipush 6, 2, 0, 0, 0, 0), (9, .iaload, 1, 0, 0, 0, 0), (10, .if_icmp .ge 46, 3, 0, 0, 0, 0), (13, .aload_n 0, 1, 0, 0, 0, 0), (14, .getfield 7, 3, 0, 12, 0, 0), (17, .sipush 344, 3, 0, 0, 0, 0), (20, .iconst 4, 1, 0, 0, 0, 0), (21, .iload_n 2, 1, 0, 0, 0, 0), (22, .imul, 1, 0, 0, 0, 0), (23, .iadd, 1, 0, 0, 0, 0), (24, .iconst 3, 1, 0, 0, 0, 0), (25, .iadd, 1, 0, 0, 0, 0), (26, .iaload, 1, 0, 0, 0, 0), (27, .iload_n 1, 1, 0, 0, 0, 0), (28, .iand, 1, 0, 0, 0, 0), (29, .ifCond .eq 21, 3, 0, 0, 0, 0), (32, .aload_n 0, 1, 0, 0, 0, 0), (33, .getfield 7, 3, 0, 12, 0, 0), (36, .sipush 344, 3, 0, 0, 0, 0), (39, .iconst 4, 1, 0, 0, 0, 0), (40, .iload_n 2, 1, 0, 0, 0, 0), (41, .imul, 1, 0, 0, 0, 0), (42, .iadd, 1, 0, 0, 0, 0), (43, .iconst 3, 1, 0, 0, 0, 0), (44, .iadd, 1, 0, 0, 0, 0), (45, .dup2, 1, 0, 0, 0, 0), (46, .iaload, 1, 0, 0, 0, 0), (47, .iload_n 1, 1, 0, 0, 0, 0), (48, .ior, 1, 0, 0, 0, 0), (49, .iastore, 1, 0, 0, 0, 0), (50, .iinc 2 1, 3, 0, 0, 0, 0), (53, .goto (-51), 3, 0, 0, 0, 0), (56, .iconst 0, 1, 0, 0, 0, 0), (57, .istore_n 2, 1, 0, 0, 0, 0), (58, .iload_n 2, 1, 0, 0, 0, 0), (59, .aload_n 0, 1, 0, 0, 0, 0), (60, .getfield 7, 3, 0, 12, 0, 0), (63, .bipush 7, 2, 0, 0, 0, 0), (65, .iaload, 1, 0, 0, 0, 0), (66, .if_icmp .ge 42, 3, 0, 0, 0, 0), (69, .aload_n 0, 1, 0, 0, 0, 0), (70, .getfield 7, 3, 0, 12, 0, 0), (73, .sipush 504, 3, 0, 0, 0, 0), (76, .iconst 2, 1, 0, 0, 0, 0), (77, .iload_n 2, 1, 0, 0, 0, 0), (78, .imul, 1, 0, 0, 0, 0), (79, .iadd, 1, 0, 0, 0, 0), (80, .iaload, 1, 0, 0, 0, 0), (81, .iload_n 1, 1, 0, 0, 0, 0), (82, .iand, 1, 0, 0, 0, 0), (83, .ifCond .eq 19, 3, 0, 0, 0, 0), (86, .aload_n 0, 1, 0, 0, 0, 0), (87, .getfield 7, 3, 0, 12, 0, 0), (90, .sipush 504, 3, 0, 0, 0, 0), (93, .iconst 2, 1, 0, 0, 0, 0), (94, .iload_n 2, 1, 0, 0, 0, 0), (95, .imul, 1, 0, 0, 0, 0), (96, .iadd, 1, 0, 0, 0, 0), (97, .dup2, 1, 0, 0, 0, 0), (98, .iaload, 1, 0, 0, 0, 0), (99, .iload_n 1, 1, 0, 0, 0, 0), (100, .ior, 1, 0, 0, 0, 0), (101, .iastore, 1, 0, 0, 0, 0), (102, .iinc 2 1, 3, 0, 0, 0, 0), (105, .goto (-47), 3, 0, 0, 0, 0), (108, .return_, 1, 0, 0, 0, 0)]
set_option maxRecDepth 100000 in
theorem sx_k254 : sx_c254.all (sx_chk 12 prog_14_method_51_code) = true := by decide +kernel
def sx_c255 : List sx_I := [(0, .aload_n 0, 1, 0, 0, 0, 0), (1, .getfield 7, 3, 0, 12, 0, 0), (4, .bipush 6, 2, 0, 0, 0, 0), (6, .iaload, 1, 0, 0, 0, 0), (7, .bipush 40, 2, 0, 0, 0, 0), (9, .if_icmp .ne 55, 3, 0, 0, 0, 0), (12, .iconst 0, 1, 0, 0, 0, 0), (13, .istore 4, 2, 0, 0, 0, 0), (15, .iload 4, 2, 0, 0, 0, 0), (17, .sipush 156, 3, 0, 0, 0, 0), (20, .if_icmp .ge 33, 3, 0, 0, 0, 0), (23, .aload_n 0, 1, 0, 0, 0, 0), (24, .getfield 7, 3, 0, 12, 0, 0), (27, .sipush 344, 3, 0, 0, 0, 0), (30, .iload 4, 2, 0, 0, 0, 0), (32, .iadd, 1, 0, 0, 0, 0), (33, .aload_n 0, 1, 0, 0, 0, 0), (34, .getfield 7, 3, 0, 12, 0, 0), (37, .sipush 344, 3, 0, 0, 0, 0), (40, .iload 4, 2, 0, 0, 0, 0), (42, .iadd, 1, 0, 0, 0, 0), (43, .iconst 4, 1, 0, 0, 0, 0), (44, .iadd, 1, 0, 0, 0, 0), (45, .iaload, 1, 0, 0, 0, 0), (46, .iastore, 1, 0, 0, 0, 0), (47, .iinc 4 1, 3, 0, 0, 0, 0), (50, .goto (-35), 3, 0, 0, 0, 0), (53, .aload_n 0, 1, 0, 0, 0, 0), (54, .getfield 7, 3, 0, 12, 0, 0), (57, .bipush 6, 2, 0, 0, 0, 0), (59, .dup2, 1, 0, 0, 0, 0), (60, .iaload, 1, 0, 0, 0, 0), (61, .iconst 1, 1, 0, 0, 0, 0), (62, .isub, 1, 0, 0, 0, 0), (63, .iastore, 1, 0, 0, 0, 0), (64, .sipush 344, 3, 0, 0, 0, 0), (67, .iconst 4, 1, 0, 0, 0, 0), (68, .aload_n 0, 1, 0, 0, 0, 0), (69, .getfield 7, 3, 0, 12, 0, 0), (72, .bipush 6, 2, 0, 0, 0, 0), (74, .iaload, 1, 0, 0, 0, 0), (75, .imul, 1, 0, 0, 0, 0), (76, .iadd, 1, 0, 0, 0, 0), (77, .istore 4, 2, 0, 0, 0, 0), (79, .aload_n 0, 1, 0, 0, 0, 0), (80, .getfield 7, 3, 0, 12, 0, 0), (83, .iload 4, 2, 0, 0, 0, 0), (85, .iload_n 1, 1, 0, 0, 0, 0), (86, .iastore, 1, 0, 0, 0, 0), (87, .aload_n 0, 1, 0, 0, 0, 0), (88, .getfield 7, 3, 0, 12, 0, 0), (91, .iload 4, 2, 0, 0, 0, 0), (93, .iconst 1, 1, 0, 0, 0, 0), (94, .iadd, 1, 0, 0, 0, 0), (95, .iload_n 2, 1, 0, 0, 0, 0), (96, .iastore, 1, 0, 0, 0, 0), (97, .aload_n 0, 1, 0, 0, 0, 0), (98, .getfield 7, 3, 0, 12, 0, 0), (101, .iload 4, 2, 0, 0, 0, 0), (103, .iconst 2, 1, 0, 0, 0, 0), (104, .iadd, 1, 0, 0, 0, 0), (105, .aload_n 0, 1, 0, 0, 0, 0), (106, .getfield 7, 3, 0, 12, 0, 0), (109, .iconst 3, 1, 0, 0, 0, 0), (110, .iaload, 1, 0, 0, 0, 0), (111, .iastore, 1, 0, 0, 0, 0), (112, .aload_n 0, 1, 0, 0, 0, 0), (113, .getfield 7, 3, 0, 12, 0, 0), (116, .iload 4, 2, 0, 0, 0, 0), (118, .iconst 3, 1, 0, 0, 0, 0), (119, .iadd, 1, 0, 0, 0, 0), (120, .iload_n 3, 1, 0, 0, 0, 0), (121, .iastore, 1, 0, 0, 0, 0), (122, .aload_n 0, 1, 0, 0, 0, 0), (123, .getfield 7, 3, 0, 12, 0, 0), (126, .bipush 6, 2, 0, 0, 0, 0), (128, .dup2, 1, 0, 0, 0, 0), (129, .iaload, 1, 0, 0, 0, 0), (130, .iconst 1, 1, 0, 0, 0, 0), (131, .iadd, 1, 0, 0, 0, 0), (132, .iastore, 1, 0, 0, 0, 0), (133, .return_, 1, 0, 0, 0, 0)]
set_option maxRecDepth 100000 in
theorem sx_k255 : sx_c255.all (sx_chk 12 prog_14_method_50_code) = true := by decide +kernel
def sx_c256 : List sx_I := [(0, .aload_n 0, 1, 0, 0, 0, 0), (1, .iload_n 1, 1, 0, 0, 0, 0), (2, .invokevirtual 169, 3, 2, 257, 0, 0), (5, .ifCond .eq 13, 3, 0, 0, 0, 0), (8, .iload_n 2, 1, 0, 0, 0, 0), (9, .iconst 0, 1, 0, 0, 0, 0), (10, .bipush 6, 2, 0, 0, 0, 0), (12, .invokestatic 68, 3, 2, 220, 0, 0), (15, .ifCond .ne 10, 3, 0, 0, 0, 0), (18, .aload_n 0, 1, 0, 0, 0, 0), (19, .ldc 76, 2, 6, 0, 0, -100001), (21, .invokevirtual 77, 3, 2, 221, 0, 0), (24, .ireturn, 1, 0, 0, 0, 0), (25, .aload_n 0, 1, 0, 0, 0, 0), (26, .iload_n 1, 1, 0, 0, 0, 0), (27, .invokevirtual 140, 3, 2, 234, 0, 0), (30, .ifCond .ne 10, 3, 0, 0, 0, 0), (33, .aload_n 0, 1, 0, 0, 0, 0), (34, .ldc 114, 2, 6, 0, 0, -100006), (36, .invokevirtual 77, 3, 2, 221, 0, 0), (39, .ireturn, 1, 0, 0, 0, 0), (40, .iload_n 2, 1, 0, 0, 0, 0), (41, .tableswitch 76 2 6 #[35, 41, 48, 62, 69], 35, 0, 0, 0, 0), (76, .aload_n 0, 1, 0, 0, 0, 0), (77, .iload_n 1, 1, 0, 0, 0, 0), (78, .invokevirtual 166, 3, 2, 258, 0, 0), (81, .ireturn, 1, 0, 0, 0, 0), (82, .aload_n 0, 1, 0, 0, 0, 0), (83, .iload_n 1, 1, 0, 0, 0, 0), (84, .iconst 5, 1, 0, 0, 0, 0), (85, .invokevirtual 137, 3, 2, 235, 0, 0), (88, .ireturn, 1, 0, 0, 0, 0), (89, .aload_n 0, 1, 0, 0, 0, 0), (90, .invokevirtual 172, 3, 2, 259, 0, 0), (93, .aload_n 0, 1, 0, 0, 0, 0), (94, .iload_n 1, 1, 0, 0, 0, 0), (95, .aload_n 0, 1, 0, 0, 0, 0), (96, .invokevirtual 101, 3, 2, 233, 0, 0), (99, .invokevirtual 159, 3, 2, 260, 0, 0), (102, .ireturn, 1, 0, 0, 0, 0), (103, .aload_n 0, 1, 0, 0, 0, 0), (104, .iload_n 1, 1, 0, 0, 0, 0), (105, .iconst 2, 1, 0, 0, 0, 0), (106, .invokevirtual 137, 3, 2, 235, 0, 0), (109, .ireturn, 1, 0, 0, 0, 0), (110, .aload_n 0, 1, 0, 0, 0, 0), (111, .iload_n 1, 1, 0, 0, 0, 0), (112, .iconst 3, 1, 0, 0, 0, 0), (113, .invokevirtual 137, 3, 2, 235, 0, 0), (116, .ireturn, 1, 0, 0, 0, 0), (117, .aload_n 0, 1, 0, 0, 0, 0), (118, .iload_n 1, 1, 0, 0, 0, 0), (119, .iload_n 2, 1, 0, 0, 0, 0), (120, .invokevirtual 137, 3, 2, 235, 0, 0), (123, .ireturn, 1, 0, 0, 0, 0)]
set_option maxRecDepth 100000 in
theorem sx_k256 : sx_c256.all (sx_chk 12 prog_14_method_47_code) = true := by decide +kernel
def sx_c257 : List sx_I := [(0, .iload_n 1, 1, 0, 0, 0, 0), (1, .iconst 0, 1, 0, 0, 0, 0), (2, .aload_n 0, 1, 0, 0, 0, 0), (3, .getfield 7, 3, 0, 12, 0, 0), (6, .iconst 2, 1, 0, 0, 0, 0), (7, .iaload, 1, 0, 0, 0, 0), (8, .iconst 1, 1, 0, 0, 0, 0), (9, .isub, 1, 0, 0, 0, 0), (10, .invokestatic 68, 3, 2, 220, 0, 0), (13, .ireturn, 1, 0, 0, 0, 0)]
set_option maxRecDepth 100000 in
theorem sx_k257 : sx_c257.all (sx_chk 12 prog_14_method_7_code) = true := by decide +kernel
def sx_c258 : List sx_I := [(0, .aload_n 0, 1, 0, 0, 0, 0), (1, .iload_n 1, 1, 0, 0, 0, 0), (2, .iconst 4, 1, 0, 0, 0, 0), (3, .invokevirtual 137, 3, 2, 235, 0, 0), (6, .aload_n 0, 1, 0, 0, 0, 0), (7, .iload_n 1, 1, 0, 0, 0, 0), (8, .iconst 5, 1, 0, 0, 0, 0), (9, .invokevirtual 137, 3, 2, 235, 0, 0), (12, .iconst 3, 1, 0, 0, 0, 0), (13, .idiv, 1, 0, 0, 0, 0), (14, .isub, 1, 0, 0, 0, 0), (15, .iconst 2, 1, 0, 0, 0, 0), (16, .aload_n 0, 1, 0, 0, 0, 0), (17, .iload_n 1, 1, 0, 0, 0, 0), (18, .bipush 6, 2, 0, 0, 0, 0), (20, .invokevirtual 137, 3, 2, 235, 0, 0), (23, .imul, 1, 0, 0, 0, 0), (24, .isub, 1, 0, 0, 0, 0), (25, .istore_n 2, 1, 0, 0, 0, 0), (26, .iload_n 2, 1, 0, 0, 0, 0), (27, .ifCond .ge 7, 3, 0, 0, 0, 0), (30, .iconst 0, 1, 0, 0, 0, 0), (31, .goto 4, 3, 0, 0, 0, 0), (34, .iload_n 2, 1, 0, 0, 0, 0), (35, .ireturn, 1, 0, 0, 0, 0)]
set_option maxRecDepth 100000 in
theorem sx_k258 : sx_c258.all (sx_chk 12 prog_14_method_41_code) = true := by decide +kernel
def sx_c259 : List sx_I := [(0, .iconst 0, 1, 0, 0, 0, 0), (1, .istore_n 1, 1, 0, 0, 0, 0), (2, .iload_n 1, 1, 0, 0, 0, 0), (3, .aload_n 0, 1, 0, 0, 0, 0), (4, .getfield 7, 3, 0, 12, 0, 0), (7, .iconst 0, 1, 0, 0, 0, 0), (8, .iaload, 1, 0, 0, 0, 0), (9, .if_icmp .ge 20, 3, 0, 0, 0, 0), (12, .aload_n 0, 1, 0, 0, 0, 0), (13, .getfield 16, 3, 0, 12, 4, 0), (16, .iload_n 1, 1, 0, 0, 0, 0), (17, .aload_n 0, 1, 0, 0, 0, 0), (18, .iload_n 1, 1, 0, 0, 0, 0), (19, .invokevirtual 98, 3, 2, 228, 0, 0), (22, .iastore, 1, 0, 0, 0, 0), (23, .iinc 1 1, 3, 0, 0, 0, 0), (26, .goto (-24), 3, 0, 0, 0, 0), (29, .return_, 1, 0, 0, 0, 0)]
set_option maxRecDepth 100000 in
theorem sx_k259 : sx_c259.all (sx_chk 12 prog_14_method_43_code) = true := by decide +kernel
def sx_c260 : List sx_I := [(0, .aload_n 0, 1, 0, 0, 0, 0), (1, .iload_n 1, 1, 0, 0, 0, 0), (2, .iconst 0, 1, 0, 0, 0, 0), (3, .invokevirtual 137, 3, 2, 235, 0, 0), (6, .istore_n 3, 1, 0, 0, 0, 0), (7, .aload_n 0, 1, 0, 0, 0, 0), (8, .iload_n 1, 1, 0, 0, 0, 0), (9, .iconst 1, 1, 0, 0, 0, 0), (10, .invokevirtual 137, 3, 2, 235, 0, 0), (13, .istore 4, 2, 0, 0, 0, 0), (15, .aload_n 0, 1, 0, 0, 0, 0), (16, .iload_n 3, 1, 0, 0, 0, 0), (17, .iload_n 2, 1, 0, 0, 0, 0), (18, .iconst 1, 1, 0, 0, 0, 0), (19, .iload_n 1, 1, 0, 0, 0, 0), (20, .ishl, 1, 0, 0, 0, 0), (21, .iconst (-1), 1, 0, 0, 0, 0), (22, .ixor, 1, 0, 0, 0, 0), (23, .iand, 1, 0, 0, 0, 0), (24, .invokevirtual 105, 3, 2, 236, 0, 0), (27, .istore 5, 2, 0, 0, 0, 0), (29, .aload_n 0, 1, 0, 0, 0, 0), (30, .getfield 16, 3, 0, 12, 4, 0), (33, .iload_n 3, 1, 0, 0, 0, 0), (34, .iaload, 1, 0, 0, 0, 0), (35, .istore 6, 2, 0, 0, 0, 0), (37, .aload_n 0, 1, 0, 0, 0, 0), (38, .getfield 16, 3, 0, 12, 4, 0), (41, .iload 4, 2, 0, 0, 0, 0), (43, .iaload, 1, 0, 0, 0, 0), (44, .istore 7, 2, 0, 0, 0, 0), (46, .iload 5, 2, 0, 0, 0, 0), (48, .iload 4, 2, 0, 0, 0, 0), (50, .ishr, 1, 0, 0, 0, 0), (51, .iconst 1, 1, 0, 0, 0, 0), (52, .iand, 1, 0, 0, 0, 0), (53, .iconst 1, 1, 0, 0, 0, 0), (54, .if_icmp .ne 20, 3, 0, 0, 0, 0), (57, .iload 6, 2, 0, 0, 0, 0), (59, .iload 7, 2, 0, 0, 0, 0), (61, .if_icmp .ge 8, 3, 0, 0, 0, 0), (64, .iload 6, 2, 0, 0, 0, 0), (66, .goto 5, 3, 0, 0, 0, 0), (69, .iload 7, 2, 0, 0, 0, 0), (71, .iconst 2, 1, 0, 0, 0, 0), (72, .idiv, 1, 0, 0, 0, 0), (73, .ireturn, 1, 0, 0, 0, 0), (74, .aload_n 0, 1, 0, 0, 0, 0), (75, .iload 5, 2, 0, 0, 0, 0), (77, .invokevirtual 156, 3, 2, 261, 0, 0), (80, .istore 6, 2, 0, 0, 0, 0), (82, .aload_n 0, 1, 0, 0, 0, 0), (83, .aload_n 0, 1, 0, 0, 0, 0), (84, .iload 4, 2, 0, 0, 0, 0), (86, .iload_n 2, 1, 0, 0, 0, 0), (87, .iconst 1, 1, 0, 0, 0, 0), (88, .iload_n 1, 1, 0, 0, 0, 0), (89, .ishl, 1, 0, 0, 0, 0), (90, .iconst (-1), 1, 0, 0, 0, 0), (91, .ixor, 1, 0, 0, 0, 0), (92, .iand, 1, 0, 0, 0, 0), (93, .invokevirtual 105, 3, 2, 236, 0, 0), (96, .invokevirtual 156, 3, 2, 261, 0, 0), (99, .istore 7, 2, 0, 0, 0, 0), (101, .iload 6, 2, 0, 0, 0, 0), (103, .iload 7, 2, 0, 0, 0, 0), (105, .if_icmp .ge 8, 3, 0, 0, 0, 0), (108, .iload 6, 2, 0, 0, 0, 0), (110, .goto 5, 3, 0, 0, 0, 0), (113, .iload 7, 2, 0, 0, 0, 0), (115, .ireturn, 1, 0, 0, 0, 0)]
set_option maxRecDepth 100000 in
theorem sx_k260 : sx_c260.all (sx_chk 12 prog_14_method_44_code) = true := by decide +kernel
def sx_c261 : List sx_I := [(0, .iconst 0, 1, 0, 0, 0, 0), (1, .istore_n 2, 1, 0, 0, 0, 0), (2, .iconst 0, 1, 0, 0, 0, 0), (3, .istore_n 3, 1, 0, 0, 0, 0), (4, .iload_n 3, 1, 0, 0, 0, 0), (5, .aload_n 0, 1, 0, 0, 0, 0), (6, .getfield 7, 3, 0, 12, 0, 0), (9, .iconst 0, 1, 0, 0, 0, 0), (10, .iaload, 1, 0, 0, 0, 0), (11, .if_icmp .ge 31, 3, 0, 0, 0, 0), (14, .iload_n 2, 1, 0, 0, 0, 0), (15, .iload_n 1, 1, 0, 0, 0, 0), (16, .iload_n 3, 1, 0, 0, 0, 0), (17, .ishr, 1, 0, 0, 0, 0), (18, .iconst 1, 1, 0, 0, 0, 0), (19, .iand, 1, 0, 0, 0, 0), (20, .iconst 1, 1, 0, 0, 0, 0), (21, .if_icmp .ne 12, 3, 0, 0, 0, 0), (24, .aload_n 0, 1, 0, 0, 0, 0), (25, .getfield 16, 3, 0, 12, 4, 0), (28, .iload_n 3, 1, 0, 0, 0, 0), (29, .iaload, 1, 0, 0, 0, 0), (30, .goto 4, 3, 0, 0, 0, 0), (33, .iconst 0, 1, 0, 0, 0, 0), (34, .iadd, 1, 0, 0, 0, 0), (35, .istore_n 2, 1, 0, 0, 0, 0), (36, .iinc 3 1, 3, 0, 0, 0, 0), (39, .goto (-35), 3, 0, 0, 0, 0), (42, .iload_n 2, 1, 0, 0, 0, 0), (43, .ireturn, 1, 0, 0, 0, 0)]
set_option maxRecDepth 100000 in
theorem sx_k261 : sx_c261.all (sx_chk 12 prog_14_method_42_code) = true := by decide +kernel
def sx_c262 : List sx_I := [(0, .aload_n 0, 1, 0, 0, 0, 0), (1, .iload_n 1, 1, 0, 0, 0, 0), (2, .invokevirtual 169, 3, 2, 257, 0, 0), (5, .ifCond .eq 10, 3, 0, 0, 0, 0), (8, .iload_n 2, 1, 0, 0, 0, 0), (9, .invokestatic 175, 3, 2, 263, 0, 0), (12, .ifCond .ne 10, 3, 0, 0, 0, 0), (15, .aload_n 0, 1, 0, 0, 0, 0), (16, .ldc 76, 2, 6, 0, 0, -100001), (18, .invokevirtual 77, 3, 2, 221, 0, 0), (21, .ireturn, 1, 0, 0, 0, 0), (22, .aload_n 0, 1, 0, 0, 0, 0), (23, .iload_n 1, 1, 0, 0, 0, 0), (24, .invokevirtual 140, 3, 2, 234, 0, 0), (27, .ifCond .ne 10, 3, 0, 0, 0, 0), (30, .aload_n 0, 1, 0, 0, 0, 0), (31, .ldc 114, 2, 6, 0, 0, -100006), (33, .invokevirtual 77, 3, 2, 221, 0, 0), (36, .ireturn, 1, 0, 0, 0, 0), (37, .aload_n 0, 1, 0, 0, 0, 0), (38, .invokevirtual 172, 3, 2, 259, 0, 0), (41, .aload_n 0, 1, 0, 0, 0, 0), (42, .iload_n 1, 1, 0, 0, 0, 0), (43, .aload_n 0, 1, 0, 0, 0, 0), (44, .invokevirtual 101, 3, 2, 233, 0, 0), (47, .iload_n 2, 1, 0, 0, 0, 0), (48, .invokevirtual 162, 3, 2, 264, 0, 0), (51, .ireturn, 1, 0, 0, 0, 0)]
set_option maxRecDepth 100000 in
theorem sx_k262 : sx_c262.all (sx_chk 12 prog_14_method_48_code) = true := by decide +kernel
def sx_c263 : List sx_I := [(0, .iload_n 0, 1, 0, 0, 0, 0), (1, .iconst 0, 1, 0, 0, 0, 0), (2, .bipush 20, 2, 0, 0, 0, 0), (4, .invokestatic 68, 3, 2, 220, 0, 0), (7, .ireturn, 1, 0, 0, 0, 0)]
set_option maxRecDepth 100000 in
theorem sx_k263 : sx_c263.all (sx_chk 12 prog_14_method_8_code) = true := by decide +kernel
def sx_c264 : List sx_I := [(0, .iload_n 3, 1, 0, 0, 0, 0), (1, .aload_n 0, 1, 0, 0, 0, 0), (2, .iload_n 1, 1, 0, 0, 0, 0), (3, .iload_n 2, 1, 0, 0, 0, 0), (4, .invokevirtual 159, 3, 2, 260, 0, 0), (7, .imul, 1, 0, 0, 0, 0), (8, .bipush 8, 2, 0, 0, 0, 0), (10, .idiv, 1, 0, 0, 0, 0), (11, .ireturn, 1, 0, 0, 0, 0)]
set_option maxRecDepth 100000 in
theorem sx_k264 : sx_c264.all (sx_chk 12 prog_14_method_45_code) = true := by decide +kernel
def sx_c265 : List sx_I := [(0, .iload_n 1, 1, 0, 0, 0, 0), (1, .invokestatic 175, 3, 2, 263, 0, 0), (4, .ifCond .eq 8, 3, 0, 0, 0, 0), (7, .iload_n 2, 1, 0, 0, 0, 0), (8, .iconst (-1), 1, 0, 0, 0, 0), (9, .if_icmp .ge 10, 3, 0, 0, 0, 0), (12, .aload_n 0, 1, 0, 0, 0, 0), (13, .ldc 76, 2, 6, 0, 0, -100001), (15, .invokevirtual 77, 3, 2, 221, 0, 0), (18, .ireturn, 1, 0, 0, 0, 0), (19, .aload_n 0, 1, 0, 0, 0, 0), (20, .invokevirtual 172, 3, 2, 259, 0, 0), (23, .aload_n 0, 1, 0, 0, 0, 0), (24, .invokevirtual 101, 3, 2, 233, 0, 0), (27, .istore_n 3, 1, 0, 0, 0, 0), (28, .iconst 0, 1, 0, 0, 0, 0), (29, .istore 4, 2, 0, 0, 0, 0), (31, .aload_n 0, 1, 0, 0, 0, 0), (32, .iload_n 3, 1, 0, 0, 0, 0), (33, .iload_n 1, 1, 0, 0, 0, 0), (34, .invokevirtual 178, 3, 2, 266, 0, 0), (37, .istore 5, 2, 0, 0, 0, 0), (39, .iload 5, 2, 0, 0, 0, 0), (41, .ifCond .lt 35, 3, 0, 0, 0, 0), (44, .iload 4, 2, 0, 0, 0, 0), (46, .iload_n 2, 1, 0, 0, 0, 0), (47, .if_icmp .ne 6, 3, 0, 0, 0, 0), (50, .iload 5, 2, 0, 0, 0, 0), (52, .ireturn, 1, 0, 0, 0, 0), (53, .iinc 4 1, 3, 0, 0, 0, 0), (56, .iload_n 3, 1, 0, 0, 0, 0), (57, .iconst 1, 1, 0, 0, 0, 0), (58, .iload 5, 2, 0, 0, 0, 0), (60, .ishl, 1, 0, 0, 0, 0), (61, .iconst (-1), 1, 0, 0, 0, 0), (62, .ixor, 1, 0, 0, 0, 0), (63, .iand, 1, 0, 0, 0, 0), (64, .istore_n 3, 1, 0, 0, 0, 0), (65, .aload_n 0, 1, 0, 0, 0, 0), (66, .iload_n 3, 1, 0, 0, 0, 0), (67, .iload_n 1, 1, 0, 0, 0, 0), (68, .invokevirtual 178, 3, 2, 266, 0, 0), (71, .istore 5, 2, 0, 0, 0, 0), (73, .goto (-34), 3, 0, 0, 0, 0), (76, .iload_n 2, 1, 0, 0, 0, 0), (77, .ifCond .ge 8, 3, 0, 0, 0, 0), (80, .iload 4, 2, 0, 0, 0, 0), (82, .goto 9, 3, 0, 0, 0, 0), (85, .aload_n 0, 1, 0, 0, 0, 0), (86, .ldc 114, 2, 6, 0, 0, -100006), (88, .invokevirtual 77, 3, 2, 221, 0, 0), (91, .ireturn, 1, 0, 0, 0, 0)]
set_option maxRecDepth 100000 in
theorem sx_k265 : sx_c265.all (sx_chk 12 prog_14_method_49_code) = true := by decide +kernel
def sx_c266 : List sx_I := [(0, .iconst (-1), 1, 0, 0, 0, 0), (1, .istore_n 3, 1, 0, 0, 0, 0), (2, .iconst 0, 1, 0, 0, 0, 0), (3, .istore 4, 2, 0, 0, 0, 0), (5, .iconst 0, 1, 0, 0, 0, 0), (6, .istore 5, 2, 0, 0, 0, 0), (8, .iload 5, 2, 0, 0, 0, 0), (10, .aload_n 0, 1, 0, 0, 0, 0), (11, .getfield 7, 3, 0, 12, 0, 0), (14, .iconst 2, 1, 0, 0, 0, 0), (15, .iaload, 1, 0, 0, 0, 0), (16, .if_icmp .ge 55, 3, 0, 0, 0, 0), (19, .iload_n 1, 1, 0, 0, 0, 0), (20, .iload 5, 2, 0, 0, 0, 0), (22, .ishr, 1, 0, 0, 0, 0), (23, .iconst 1, 1, 0, 0, 0, 0), (24, .iand, 1, 0, 0, 0, 0), (25, .ifCond .ne 6, 3, 0, 0, 0, 0), (28, .goto 37, 3, 0, 0, 0, 0), (31, .aload_n 0, 1, 0, 0, 0, 0), (32, .iload 5, 2, 0, 0, 0, 0), (34, .iload_n 1, 1, 0, 0, 0, 0), (35, .iload_n 2, 1, 0, 0, 0, 0), (36, .invokevirtual 162, 3, 2, 264, 0, 0), (39, .aload_n 0, 1, 0, 0, 0, 0), (40, .iload 5, 2, 0, 0, 0, 0), (42, .invokevirtual 166, 3, 2, 258, 0, 0), (45, .isub, 1, 0, 0, 0, 0), (46, .istore 6, 2, 0, 0, 0, 0), (48, .iload 6, 2, 0, 0, 0, 0), (50, .iload 4, 2, 0, 0, 0, 0), (52, .if_icmp .gt 6, 3, 0, 0, 0, 0), (55, .goto 10, 3, 0, 0, 0, 0), (58, .iload 5, 2, 0, 0, 0, 0), (60, .istore_n 3, 1, 0, 0, 0, 0), (61, .iload 6, 2, 0, 0, 0, 0), (63, .istore 4, 2, 0, 0, 0, 0), (65, .iinc 5 1, 3, 0, 0, 0, 0), (68, .goto (-60), 3, 0, 0, 0, 0), (71, .iload_n 3, 1, 0, 0, 0, 0), (72, .ireturn, 1, 0, 0, 0, 0)]
set_option maxRecDepth 100000 in
theorem sx_k266 : sx_c266.all (sx_chk 12 prog_14_method_46_code) = true := by decide +kernel
def sx_c267 : List sx_I := [(0, .iload_n 1, 1, 0, 0, 0, 0), (1, .iconst (-1), 1, 0, 0, 0, 0), (2, .if_icmp .eq 18, 3, 0, 0, 0, 0), (5, .aload_n 0, 1, 0, 0, 0, 0), (6, .iload_n 1, 1, 0, 0, 0, 0), (7, .invokevirtual 86, 3, 2, 225, 0, 0), (10, .ifCond .ne 10, 3, 0, 0, 0, 0), (13, .aload_n 0, 1, 0, 0, 0, 0), (14, .ldc 76, 2, 6, 0, 0, -100001), (16, .invokevirtual 77, 3, 2, 221, 0, 0), (19, .ireturn, 1, 0, 0, 0, 0), (20, .iload_n 1, 1, 0, 0, 0, 0), (21, .ifCond .ge 11, 3, 0, 0, 0, 0), (24, .aload_n 0, 1, 0, 0, 0, 0), (25, .getfield 7, 3, 0, 12, 0, 0), (28, .bipush 6, 2, 0, 0, 0, 0), (30, .iaload, 1, 0, 0, 0, 0), (31, .ireturn, 1, 0, 0, 0, 0), (32, .iconst 0, 1, 0, 0, 0, 0), (33, .istore_n 2, 1, 0, 0, 0, 0), (34, .iconst 0, 1, 0, 0, 0, 0), (35, .istore_n 3, 1, 0, 0, 0, 0), (36, .iload_n 3, 1, 0, 0, 0, 0), (37, .aload_n 0, 1, 0, 0, 0, 0), (38, .getfield 7, 3, 0, 12, 0, 0), (41, .bipush 6, 2, 0, 0, 0, 0), (43, .iaload, 1, 0, 0, 0, 0), (44, .if_icmp .ge 30, 3, 0, 0, 0, 0), (47, .iload_n 2, 1, 0, 0, 0, 0), (48, .aload_n 0, 1, 0, 0, 0, 0), (49, .getfield 7, 3, 0, 12, 0, 0), (52, .sipush 344, 3, 0, 0, 0, 0), (55, .iconst 4, 1, 0, 0, 0, 0), (56, .iload_n 3, 1, 0, 0, 0, 0), (57, .imul, 1, 0, 0, 0, 0), (58, .iadd, 1, 0, 0, 0, 0), (59, .iconst 3, 1, 0, 0, 0, 0), (60, .iadd, 1, 0, 0, 0, 0), (61, .iaload, 1, 0, 0, 0, 0), (62, .iload_n 1, 1, 0, 0, 0, 0), (63, .ishr, 1, 0, 0, 0, 0), (64, .iconst 1, 1, 0, 0, 0, 0), (65, .iand, 1, 0, 0, 0, 0), (66, .iadd, 1, 0, 0, 0, 0), (67, .istore_n 2, 1, 0, 0, 0, 0), (68, .iinc 3 1, 3, 0, 0, 0, 0), (71, .goto (-35), 3, 0, 0, 0, 0), (74, .iload_n 2, 1, 0, 0, 0, 0), (75, .ireturn, 1, 0, 0, 0, 0)]
set_option maxRecDepth 100000 in
theorem sx_k267 : sx_c267.all (sx_chk 12 prog_14_method_52_code) = true := by decide +kernel
def sx_c268 : List sx_I := [(0, .iload_n 1, 1, 0, 0, 0, 0), (1, .iconst 0, 1, 0, 0, 0, 0), (2, .aload_n 0, 1, 0, 0, 0, 0), (3, .getfield 7, 3, 0, 12, 0, 0), (6, .bipush 6, 2, 0, 0, 0, 0), (8, .iaload, 1, 0, 0, 0, 0), (9, .iconst 1, 1, 0, 0, 0, 0), (10, .isub, 1, 0, 0, 0, 0), (11, .invokestatic 68, 3, 2, 220, 0, 0), (14, .ifCond .eq 29, 3, 0, 0, 0, 0), (17, .iload_n 2, 1, 0, 0, 0, 0), (18, .iconst 0, 1, 0, 0, 0, 0), (19, .iconst 3, 1, 0, 0, 0, 0), (20, .invokestatic 68, 3, 2, 220, 0, 0), (23, .ifCond .eq 20, 3, 0, 0, 0, 0), (26, .aload_n 0, 1, 0, 0, 0, 0), (27, .getfield 7, 3, 0, 12, 0, 0), (30, .sipush 344, 3, 0, 0, 0, 0), (33, .iconst 4, 1, 0, 0, 0, 0), (34, .iload_n 1, 1, 0, 0, 0, 0), (35, .imul, 1, 0, 0, 0, 0), (36, .iadd, 1, 0, 0, 0, 0), (37, .iload_n 2, 1, 0, 0, 0, 0), (38, .iadd, 1, 0, 0, 0, 0), (39, .iaload, 1, 0, 0, 0, 0), (40, .goto 9, 3, 0, 0, 0, 0), (43, .aload_n 0, 1, 0, 0, 0, 0), (44, .ldc 76, 2, 6, 0, 0, -100001), (46, .invokevirtual 77, 3, 2, 221, 0, 0), (49, .ireturn, 1, 0, 0, 0, 0)]
set_option maxRecDepth 100000 in
theorem sx_k268 : sx_c268.all (sx_chk 12 prog_14_method_53_code) = true := by decide +kernel
def sx_c269 : List sx_I := [(0, .iload_n 1, 1, 0, 0, 0, 0), (1, .invokestatic 175, 3, 2, 263, 0, 0), (4, .ifCond .eq 22, 3, 0, 0, 0, 0), (7, .iload_n 2, 1, 0, 0, 0, 0), (8, .iconst 0, 1, 0, 0, 0, 0), (9, .bipush 9, 2, 0, 0, 0, 0), (11, .invokestatic 68, 3, 2, 220, 0, 0), (14, .ifCond .eq 12, 3, 0, 0, 0, 0), (17, .aload_n 0, 1, 0, 0, 0, 0), (18, .iload_n 1, 1, 0, 0, 0, 0), (19, .iload_n 2, 1, 0, 0, 0, 0), (20, .invokevirtual 212, 3, 2, 270, 0, 0), (23, .goto 9, 3, 0, 0, 0, 0), (26, .aload_n 0, 1, 0, 0, 0, 0), (27, .ldc 76, 2, 6, 0, 0, -100001), (29, .invokevirtual 77, 3, 2, 221, 0, 0), (32, .ireturn, 1, 0, 0, 0, 0)]
set_option maxRecDepth 100000 in
theorem sx_k269 : sx_c269.all (sx_chk 12 prog_14_method_65_code) = true := by decide +kernel
def sx_c270 : List sx_I := [(0, .aload_n 0, 1, 0, 0, 0, 0), (1, .iload_n 1, 1, 0, 0, 0, 0), (2, .invokevirtual 194, 3, 2, 271, 0, 0), (5, .istore_n 3, 1, 0, 0, 0, 0), (6, .aload_n 0, 1, 0, 0, 0, 0), (7, .iload_n 2, 1, 0, 0, 0, 0), (8, .invokevirtual 197, 3, 2, 272, 0, 0), (11, .aload_n 0, 1, 0, 0, 0, 0), (12, .invokevirtual 200, 3, 2, 274, 0, 0), (15, .aload_n 0, 1, 0, 0, 0, 0), (16, .iload_n 2, 1, 0, 0, 0, 0), (17, .invokevirtual 203, 3, 2, 276, 0, 0), (20, .aload_n 0, 1, 0, 0, 0, 0), (21, .invokevirtual 206, 3, 2, 277, 0, 0), (24, .aload_n 0, 1, 0, 0, 0, 0), (25, .invokevirtual 209, 3, 2, 279, 0, 0), (28, .aload_n 0, 1, 0, 0, 0, 0), (29, .getfield 7, 3, 0, 12, 0, 0), (32, .iconst 3, 1, 0, 0, 0, 0), (33, .dup2, 1, 0, 0, 0, 0), (34, .iaload, 1, 0, 0, 0, 0), (35, .iconst 1, 1, 0, 0, 0, 0), (36, .iadd, 1, 0, 0, 0, 0), (37, .iastore, 1, 0, 0, 0, 0), (38, .iload_n 3, 1, 0, 0, 0, 0), (39, .ireturn, 1, 0, 0, 0, 0)]
set_option maxRecDepth 100000 in
theorem sx_k270 : sx_c270.all (sx_chk 12 prog_14_method_64_code) = true := by decide +kernel
def sx_c271 : List sx_I := [(0, .aload_n 0, 1, 0, 0, 0, 0), (1, .invokevirtual 172, 3, 2, 259, 0, 0), (4, .aload_n 0, 1, 0, 0, 0, 0), (5, .invokevirtual 101, 3, 2, 233, 0, 0), (8, .istore_n 2, 1, 0, 0, 0, 0), (9, .iconst 0, 1, 0, 0, 0, 0), (10, .istore_n 3, 1, 0, 0, 0, 0), (11, .aload_n 0, 1, 0, 0, 0, 0), (12, .iload_n 2, 1, 0, 0, 0, 0), (13, .iload_n 1, 1, 0, 0, 0, 0), (14, .invokevirtual 178, 3, 2, 266, 0, 0), (17, .istore 4, 2, 0, 0, 0, 0), (19, .iload 4, 2, 0, 0, 0, 0), (21, .ifCond .lt 63, 3, 0, 0, 0, 0), (24, .aload_n 0, 1, 0, 0, 0, 0), (25, .iconst 3, 1, 0, 0, 0, 0), (26, .iload 4, 2, 0, 0, 0, 0), (28, .aload_n 0, 1, 0, 0, 0, 0), (29, .aload_n 0, 1, 0, 0, 0, 0), (30, .iload 4, 2, 0, 0, 0, 0), (32, .iconst 0, 1, 0, 0, 0, 0), (33, .invokevirtual 137, 3, 2, 235, 0, 0), (36, .iload_n 2, 1, 0, 0, 0, 0), (37, .invokevirtual 105, 3, 2, 236, 0, 0), (40, .invokevirtual 153, 3, 2, 255, 0, 0), (43, .aload_n 0, 1, 0, 0, 0, 0), (44, .getfield 7, 3, 0, 12, 0, 0), (47, .sipush 248, 3, 0, 0, 0, 0), (50, .bipush 8, 2, 0, 0, 0, 0), (52, .iload 4, 2, 0, 0, 0, 0), (54, .imul, 1, 0, 0, 0, 0), (55, .iadd, 1, 0, 0, 0, 0), (56, .bipush 7, 2, 0, 0, 0, 0), (58, .iadd, 1, 0, 0, 0, 0), (59, .iconst 0, 1, 0, 0, 0, 0), (60, .iastore, 1, 0, 0, 0, 0), (61, .iload_n 2, 1, 0, 0, 0, 0), (62, .iconst 1, 1, 0, 0, 0, 0), (63, .iload 4, 2, 0, 0, 0, 0), (65, .ishl, 1, 0, 0, 0, 0), (66, .iconst (-1), 1, 0, 0, 0, 0), (67, .ixor, 1, 0, 0, 0, 0), (68, .iand, 1, 0, 0, 0, 0), (69, .istore_n 2, 1, 0, 0, 0, 0), (70, .iinc 3 1, 3, 0, 0, 0, 0), (73, .aload_n 0, 1, 0, 0, 0, 0), (74, .iload_n 2, 1, 0, 0, 0, 0), (75, .iload_n 1, 1, 0, 0, 0, 0), (76, .invokevirtual 178, 3, 2, 266, 0, 0), (79, .istore 4, 2, 0, 0, 0, 0), (81, .goto (-62), 3, 0, 0, 0, 0), (84, .iload_n 3, 1, 0, 0, 0, 0), (85, .ireturn, 1, 0, 0, 0, 0)]
set_option maxRecDepth 100000 in
theorem sx_k271 : sx_c271.all (sx_chk 12 prog_14_method_55_code) = true := by decide +kernel
def sx_c272 : List sx_I := [(0, .iconst 0, 1, 0, 0, 0, 0), (1, .istore_n 2, 1, 0, 0, 0, 0), (2, .iload_n 2, 1, 0, 0, 0, 0), (3, .aload_n 0, 1, 0, 0, 0, 0), (4, .getfield 7, 3, 0, 12, 0, 0), (7, .iconst 0, 1, 0, 0, 0, 0), (8, .iaload, 1, 0, 0, 0, 0), (9, .if_icmp .ge 59, 3, 0, 0, 0, 0), (12, .aload_n 0, 1, 0, 0, 0, 0), (13, .iload_n 2, 1, 0, 0, 0, 0), (14, .invokevirtual 111, 3, 2, 239, 0, 0), (17, .ifCond .eq 6, 3, 0, 0, 0, 0), (20, .goto 42, 3, 0, 0, 0, 0), (23, .iload_n 1, 1, 0, 0, 0, 0), (24, .aload_n 0, 1, 0, 0, 0, 0), (25, .iload_n 2, 1, 0, 0, 0, 0), (26, .invokevirtual 95, 3, 2, 232, 0, 0), (29, .imul, 1, 0, 0, 0, 0), (30, .istore_n 3, 1, 0, 0, 0, 0), (31, .aload_n 0, 1, 0, 0, 0, 0), (32, .iload_n 2, 1, 0, 0, 0, 0), (33, .iconst 4, 1, 0, 0, 0, 0), (34, .aload_n 0, 1, 0, 0, 0, 0), (35, .iload_n 2, 1, 0, 0, 0, 0), (36, .iconst 4, 1, 0, 0, 0, 0), (37, .invokevirtual 72, 3, 2, 226, 0, 0), (40, .iload_n 3, 1, 0, 0, 0, 0), (41, .aload_n 0, 1, 0, 0, 0, 0), (42, .iload_n 2, 1, 0, 0, 0, 0), (43, .invokevirtual 115, 3, 2, 240, 0, 0), (46, .if_icmp .ge 7, 3, 0, 0, 0, 0), (49, .iload_n 3, 1, 0, 0, 0, 0), (50, .goto 8, 3, 0, 0, 0, 0), (53, .aload_n 0, 1, 0, 0, 0, 0), (54, .iload_n 2, 1, 0, 0, 0, 0), (55, .invokevirtual 115, 3, 2, 240, 0, 0), (58, .iadd, 1, 0, 0, 0, 0), (59, .invokevirtual 82, 3, 2, 223, 0, 0), (62, .iinc 2 1, 3, 0, 0, 0, 0), (65, .goto (-63), 3, 0, 0, 0, 0), (68, .iconst 0, 1, 0, 0, 0, 0), (69, .istore_n 2, 1, 0, 0, 0, 0), (70, .iload_n 2, 1, 0, 0, 0, 0), (71, .aload_n 0, 1, 0, 0, 0, 0), (72, .getfield 7, 3, 0, 12, 0, 0), (75, .iconst 0, 1, 0, 0, 0, 0), (76, .iaload, 1, 0, 0, 0, 0), (77, .if_icmp .ge 33, 3, 0, 0, 0, 0), (80, .aload_n 0, 1, 0, 0, 0, 0), (81, .iload_n 2, 1, 0, 0, 0, 0), (82, .invokevirtual 111, 3, 2, 239, 0, 0), (85, .ifCond .ne 19, 3, 0, 0, 0, 0), (88, .aload_n 0, 1, 0, 0, 0, 0), (89, .iload_n 2, 1, 0, 0, 0, 0), (90, .iconst 0, 1, 0, 0, 0, 0), (91, .invokevirtual 72, 3, 2, 226, 0, 0), (94, .iconst 3, 1, 0, 0, 0, 0), (95, .if_icmp .ne 9, 3, 0, 0, 0, 0), (98, .aload_n 0, 1, 0, 0, 0, 0), (99, .iload_n 2, 1, 0, 0, 0, 0), (100, .invokevirtual 181, 3, 2, 273, 0, 0), (103, .pop, 1, 0, 0, 0, 0), (104, .iinc 2 1, 3, 0, 0, 0, 0), (107, .goto (-37), 3, 0, 0, 0, 0), (110, .return_, 1, 0, 0, 0, 0)]
set_option maxRecDepth 100000 in
theorem sx_k272 : sx_c272.all (sx_chk 12 prog_14_method_56_code) = true := by decide +kernel
def sx_c273 : List sx_I := [(0, .aload_n 0, 1, 0, 0, 0, 0), (1, .iload_n 1, 1, 0, 0, 0, 0), (2, .iconst 4, 1, 0, 0, 0, 0), (3, .invokevirtual 72, 3, 2, 226, 0, 0), (6, .ifCond .ne 5, 3, 0, 0, 0, 0), (9, .iconst 0, 1, 0, 0, 0, 0), (10, .ireturn, 1, 0, 0, 0, 0), (11, .aload_n 0, 1, 0, 0, 0, 0), (12, .iload_n 1, 1, 0, 0, 0, 0), (13, .iconst 4, 1, 0, 0, 0, 0), (14, .aload_n 0, 1, 0, 0, 0, 0), (15, .iload_n 1, 1, 0, 0, 0, 0), (16, .iconst 4, 1, 0, 0, 0, 0), (17, .invokevirtual 72, 3, 2, 226, 0, 0), (20, .iconst 1, 1, 0, 0, 0, 0), (21, .isub, 1, 0, 0, 0, 0), (22, .invokevirtual 82, 3, 2, 223, 0, 0), (25, .aload_n 0, 1, 0, 0, 0, 0), (26, .getfield 7, 3, 0, 12, 0, 0), (29, .iconst 4, 1, 0, 0, 0, 0), (30, .dup2, 1, 0, 0, 0, 0), (31, .iaload, 1, 0, 0, 0, 0), (32, .iconst 1, 1, 0, 0, 0, 0), (33, .iadd, 1, 0, 0, 0, 0), (34, .iastore, 1, 0, 0, 0, 0), (35, .iconst 1, 1, 0, 0, 0, 0), (36, .ireturn, 1, 0, 0, 0, 0)]
set_option maxRecDepth 100000 in
theorem sx_k273 : sx_c273.all (sx_chk 12 prog_14_method_57_code) = true := by decide +kernel
def sx_c274 : List sx_I := [(0, .aload_n 0, 1, 0, 0, 0, 0), (1, .invokevirtual 101, 3, 2, 233, 0, 0), (4, .istore_n 1, 1, 0, 0, 0, 0), (5, .iconst 0, 1, 0, 0, 0, 0), (6, .istore_n 2, 1, 0, 0, 0, 0), (7, .iload_n 2, 1, 0, 0, 0, 0), (8, .aload_n 0, 1, 0, 0, 0, 0), (9, .getfield 7, 3, 0, 12, 0, 0), (12, .iconst 1, 1, 0, 0, 0, 0), (13, .iaload, 1, 0, 0, 0, 0), (14, .if_icmp .ge 160, 3, 0, 0, 0, 0), (17, .aload_n 0, 1, 0, 0, 0, 0), (18, .iload_n 2, 1, 0, 0, 0, 0), (19, .invokevirtual 124, 3, 2, 230, 0, 0), (22, .ifCond .eq 6, 3, 0, 0, 0, 0), (25, .goto 143, 3, 0, 0, 0, 0), (28, .aload_n 0, 1, 0, 0, 0, 0), (29, .aload_n 0, 1, 0, 0, 0, 0), (30, .iload_n 2, 1, 0, 0, 0, 0), (31, .iconst 0, 1, 0, 0, 0, 0), (32, .invokevirtual 121, 3, 2, 231, 0, 0), (35, .iload_n 1, 1, 0, 0, 0, 0), (36, .invokevirtual 105, 3, 2, 236, 0, 0), (39, .istore_n 3, 1, 0, 0, 0, 0), (40, .aload_n 0, 1, 0, 0, 0, 0), (41, .iload_n 2, 1, 0, 0, 0, 0), (42, .iconst 0, 1, 0, 0, 0, 0), (43, .invokevirtual 121, 3, 2, 231, 0, 0), (46, .istore 4, 2, 0, 0, 0, 0), (48, .iconst 0, 1, 0, 0, 0, 0), (49, .istore 5, 2, 0, 0, 0, 0), (51, .iload 5, 2, 0, 0, 0, 0), (53, .aload_n 0, 1, 0, 0, 0, 0), (54, .getfield 7, 3, 0, 12, 0, 0), (57, .iconst 0, 1, 0, 0, 0, 0), (58, .iaload, 1, 0, 0, 0, 0), (59, .if_icmp .ge 54, 3, 0, 0, 0, 0), (62, .aload_n 0, 1, 0, 0, 0, 0), (63, .aload_n 0, 1, 0, 0, 0, 0), (64, .iload_n 2, 1, 0, 0, 0, 0), (65, .iconst 0, 1, 0, 0, 0, 0), (66, .invokevirtual 121, 3, 2, 231, 0, 0), (69, .iconst 4, 1, 0, 0, 0, 0), (70, .invokevirtual 72, 3, 2, 226, 0, 0), (73, .ifCond .ne 40, 3, 0, 0, 0, 0), (76, .iload_n 3, 1, 0, 0, 0, 0), (77, .iload 5, 2, 0, 0, 0, 0), (79, .ishr, 1, 0, 0, 0, 0), (80, .iconst 1, 1, 0, 0, 0, 0), (81, .iand, 1, 0, 0, 0, 0), (82, .iconst 1, 1, 0, 0, 0, 0), (83, .if_icmp .ne 24, 3, 0, 0, 0, 0), (86, .aload_n 0, 1, 0, 0, 0, 0), (87, .iload 5, 2, 0, 0, 0, 0), (89, .iconst 4, 1, 0, 0, 0, 0), (90, .invokevirtual 72, 3, 2, 226, 0, 0), (93, .aload_n 0, 1, 0, 0, 0, 0), (94, .iload 4, 2, 0, 0, 0, 0), (96, .iconst 4, 1, 0, 0, 0, 0), (97, .invokevirtual 72, 3, 2, 226, 0, 0), (100, .if_icmp .le 7, 3, 0, 0, 0, 0), (103, .iload 5, 2, 0, 0, 0, 0), (105, .istore 4, 2, 0, 0, 0, 0), (107, .iinc 5 1, 3, 0, 0, 0, 0), (110, .goto (-59), 3, 0, 0, 0, 0), (113, .aload_n 0, 1, 0, 0, 0, 0), (114, .getfield 7, 3, 0, 12, 0, 0), (117, .sipush 150, 3, 0, 0, 0, 0), (120, .bipush 7, 2, 0, 0, 0, 0), (122, .iload_n 2, 1, 0, 0, 0, 0), (123, .imul, 1, 0, 0, 0, 0), (124, .iadd, 1, 0, 0, 0, 0), (125, .bipush 6, 2, 0, 0, 0, 0), (127, .iadd, 1, 0, 0, 0, 0), (128, .aload_n 0, 1, 0, 0, 0, 0), (129, .iload 4, 2, 0, 0, 0, 0), (131, .invokevirtual 181, 3, 2, 273, 0, 0), (134, .ifCond .eq 7, 3, 0, 0, 0, 0), (137, .iconst 0, 1, 0, 0, 0, 0), (138, .goto 12, 3, 0, 0, 0, 0), (141, .aload_n 0, 1, 0, 0, 0, 0), (142, .iload_n 2, 1, 0, 0, 0, 0), (143, .bipush 6, 2, 0, 0, 0, 0), (145, .invokevirtual 121, 3, 2, 231, 0, 0), (148, .iconst 1, 1, 0, 0, 0, 0), (149, .iadd, 1, 0, 0, 0, 0), (150, .iastore, 1, 0, 0, 0, 0), (151, .aload_n 0, 1, 0, 0, 0, 0), (152, .iload_n 2, 1, 0, 0, 0, 0), (153, .bipush 6, 2, 0, 0, 0, 0), (155, .invokevirtual 121, 3, 2, 231, 0, 0), (158, .iconst 3, 1, 0, 0, 0, 0), (159, .if_icmp .ne 9, 3, 0, 0, 0, 0), (162, .aload_n 0, 1, 0, 0, 0, 0), (163, .iload_n 2, 1, 0, 0, 0, 0), (164, .iload_n 3, 1, 0, 0, 0, 0), (165, .invokevirtual 184, 3, 2, 275, 0, 0), (168, .iinc 2 1, 3, 0, 0, 0, 0), (171, .goto (-164), 3, 0, 0, 0, 0), (174, .return_, 1, 0, 0, 0, 0)]
set_option maxRecDepth 100000 in
theorem sx_k274 : sx_c274.all (sx_chk 12 prog_14_method_58_code) = true := by decide +kernel
def sx_c275 : List sx_I := [(0, .aload_n 0, 1, 0, 0, 0, 0), (1, .getfield 7, 3, 0, 12, 0, 0), (4, .sipush 150, 3, 0, 0, 0, 0), (7, .bipush 7, 2, 0, 0, 0, 0), (9, .iload_n 1, 1, 0, 0, 0, 0), (10, .imul, 1, 0, 0, 0, 0), (11, .iadd, 1, 0, 0, 0, 0), (12, .iconst 5, 1, 0, 0, 0, 0), (13, .iadd, 1, 0, 0, 0, 0), (14, .iconst 1, 1, 0, 0, 0, 0), (15, .iastore, 1, 0, 0, 0, 0), (16, .aload_n 0, 1, 0, 0, 0, 0), (17, .iconst 5, 1, 0, 0, 0, 0), (18, .iload_n 1, 1, 0, 0, 0, 0), (19, .iload_n 2, 1, 0, 0, 0, 0), (20, .invokevirtual 153, 3, 2, 255, 0, 0), (23, .return_, 1, 0, 0, 0, 0)]
set_option maxRecDepth 100000 in
theorem sx_k275 : sx_c275.all (sx_chk 12 prog_14_method_54_code) = true := by decide +kernel
def sx_c276 : List sx_I := [(0, .iconst 0, 1, 0, 0, 0, 0), (1, .istore_n 2, 1, 0, 0, 0, 0), (2, .iload_n 2, 1, 0, 0, 0, 0), (3, .aload_n 0, 1, 0, 0, 0, 0), (4, .getfield 7, 3, 0, 12, 0, 0), (7, .iconst 2, 1, 0, 0, 0, 0), (8, .iaload, 1, 0, 0, 0, 0), (9, .if_icmp .ge 67, 3, 0, 0, 0, 0), (12, .aload_n 0, 1, 0, 0, 0, 0), (13, .iload_n 2, 1, 0, 0, 0, 0), (14, .invokevirtual 140, 3, 2, 234, 0, 0), (17, .ifCond .ne 6, 3, 0, 0, 0, 0), (20, .goto 50, 3, 0, 0, 0, 0), (23, .aload_n 0, 1, 0, 0, 0, 0), (24, .getfield 7, 3, 0, 12, 0, 0), (27, .sipush 248, 3, 0, 0, 0, 0), (30, .bipush 8, 2, 0, 0, 0, 0), (32, .iload_n 2, 1, 0, 0, 0, 0), (33, .imul, 1, 0, 0, 0, 0), (34, .iadd, 1, 0, 0, 0, 0), (35, .iconst 5, 1, 0, 0, 0, 0), (36, .iadd, 1, 0, 0, 0, 0), (37, .dup2, 1, 0, 0, 0, 0), (38, .iaload, 1, 0, 0, 0, 0), (39, .iconst 1, 1, 0, 0, 0, 0), (40, .iadd, 1, 0, 0, 0, 0), (41, .iastore, 1, 0, 0, 0, 0), (42, .aload_n 0, 1, 0, 0, 0, 0), (43, .getfield 7, 3, 0, 12, 0, 0), (46, .sipush 248, 3, 0, 0, 0, 0), (49, .bipush 8, 2, 0, 0, 0, 0), (51, .iload_n 2, 1, 0, 0, 0, 0), (52, .imul, 1, 0, 0, 0, 0), (53, .iadd, 1, 0, 0, 0, 0), (54, .bipush 6, 2, 0, 0, 0, 0), (56, .iadd, 1, 0, 0, 0, 0), (57, .dup2, 1, 0, 0, 0, 0), (58, .iaload, 1, 0, 0, 0, 0), (59, .iload_n 1, 1, 0, 0, 0, 0), (60, .ifCond .le 7, 3, 0, 0, 0, 0), (63, .iconst 1, 1, 0, 0, 0, 0), (64, .goto 4, 3, 0, 0, 0, 0), (67, .iconst 0, 1, 0, 0, 0, 0), (68, .iadd, 1, 0, 0, 0, 0), (69, .iastore, 1, 0, 0, 0, 0), (70, .iinc 2 1, 3, 0, 0, 0, 0), (73, .goto (-71), 3, 0, 0, 0, 0), (76, .return_, 1, 0, 0, 0, 0)]
set_option maxRecDepth 100000 in
theorem sx_k276 : sx_c276.all (sx_chk 12 prog_14_method_59_code) = true := by decide +kernel
def sx_c277 : List sx_I := [(0, .iconst 0, 1, 0, 0, 0, 0), (1, .istore_n 1, 1, 0, 0, 0, 0), (2, .iload_n 1, 1, 0, 0, 0, 0), (3, .aload_n 0, 1, 0, 0, 0, 0), (4, .getfield 7, 3, 0, 12, 0, 0), (7, .iconst 0, 1, 0, 0, 0, 0), (8, .iaload, 1, 0, 0, 0, 0), (9, .if_icmp .ge 70, 3, 0, 0, 0, 0), (12, .aload_n 0, 1, 0, 0, 0, 0), (13, .iload_n 1, 1, 0, 0, 0, 0), (14, .invokevirtual 111, 3, 2, 239, 0, 0), (17, .ifCond .ne 56, 3, 0, 0, 0, 0), (20, .aload_n 0, 1, 0, 0, 0, 0), (21, .iload_n 1, 1, 0, 0, 0, 0), (22, .iconst 0, 1, 0, 0, 0, 0), (23, .invokevirtual 72, 3, 2, 226, 0, 0), (26, .iconst 5, 1, 0, 0, 0, 0), (27, .if_icmp .eq 18, 3, 0, 0, 0, 0), (30, .aload_n 0, 1, 0, 0, 0, 0), (31, .getfield 7, 3, 0, 12, 0, 0), (34, .iconst 3, 1, 0, 0, 0, 0), (35, .iaload, 1, 0, 0, 0, 0), (36, .bipush 10, 2, 0, 0, 0, 0), (38, .irem, 1, 0, 0, 0, 0), (39, .ifCond .eq 6, 3, 0, 0, 0, 0), (42, .goto 31, 3, 0, 0, 0, 0), (45, .aload_n 0, 1, 0, 0, 0, 0), (46, .iload_n 1, 1, 0, 0, 0, 0), (47, .iconst 2, 1, 0, 0, 0, 0), (48, .aload_n 0, 1, 0, 0, 0, 0), (49, .iload_n 1, 1, 0, 0, 0, 0), (50, .iconst 2, 1, 0, 0, 0, 0), (51, .invokevirtual 72, 3, 2, 226, 0, 0), (54, .iconst 1, 1, 0, 0, 0, 0), (55, .isub, 1, 0, 0, 0, 0), (56, .invokevirtual 82, 3, 2, 223, 0, 0), (59, .aload_n 0, 1, 0, 0, 0, 0), (60, .iload_n 1, 1, 0, 0, 0, 0), (61, .iconst 2, 1, 0, 0, 0, 0), (62, .invokevirtual 72, 3, 2, 226, 0, 0), (65, .ifCond .ne 8, 3, 0, 0, 0, 0), (68, .aload_n 0, 1, 0, 0, 0, 0), (69, .iload_n 1, 1, 0, 0, 0, 0), (70, .invokevirtual 188, 3, 2, 278, 0, 0), (73, .iinc 1 1, 3, 0, 0, 0, 0), (76, .goto (-74), 3, 0, 0, 0, 0), (79, .return_, 1, 0, 0, 0, 0)]
set_option maxRecDepth 100000 in
theorem sx_k277 : sx_c277.all (sx_chk 12 prog_14_method_61_code) = true := by decide +kernel
def sx_c278 : List sx_I := [(0, .aload_n 0, 1, 0, 0, 0, 0), (1, .iload_n 1, 1, 0, 0, 0, 0), (2, .aload_n 0, 1, 0, 0, 0, 0), (3, .invokevirtual 101, 3, 2, 233, 0, 0), (6, .invokevirtual 105, 3, 2, 236, 0, 0), (9, .istore_n 2, 1, 0, 0, 0, 0), (10, .aload_n 0, 1, 0, 0, 0, 0), (11, .iconst 4, 1, 0, 0, 0, 0), (12, .iload_n 1, 1, 0, 0, 0, 0), (13, .iload_n 2, 1, 0, 0, 0, 0), (14, .invokevirtual 153, 3, 2, 255, 0, 0), (17, .iload_n 2, 1, 0, 0, 0, 0), (18, .iconst 1, 1, 0, 0, 0, 0), (19, .iload_n 1, 1, 0, 0, 0, 0), (20, .ishl, 1, 0, 0, 0, 0), (21, .iconst (-1), 1, 0, 0, 0, 0), (22, .ixor, 1, 0, 0, 0, 0), (23, .iand, 1, 0, 0, 0, 0), (24, .istore_n 3, 1, 0, 0, 0, 0), (25, .iconst 0, 1, 0, 0, 0, 0), (26, .istore 4, 2, 0, 0, 0, 0), (28, .iload 4, 2, 0, 0, 0, 0), (30, .aload_n 0, 1, 0, 0, 0, 0), (31, .getfield 7, 3, 0, 12, 0, 0), (34, .iconst 1, 1, 0, 0, 0, 0), (35, .iaload, 1, 0, 0, 0, 0), (36, .if_icmp .ge 54, 3, 0, 0, 0, 0), (39, .aload_n 0, 1, 0, 0, 0, 0), (40, .iload 4, 2, 0, 0, 0, 0), (42, .iload_n 1, 1, 0, 0, 0, 0), (43, .invokevirtual 91, 3, 2, 229, 0, 0), (46, .ifCond .ne 6, 3, 0, 0, 0, 0), (49, .goto 35, 3, 0, 0, 0, 0), (52, .iload_n 3, 1, 0, 0, 0, 0), (53, .ifCond .ne 13, 3, 0, 0, 0, 0), (56, .aload_n 0, 1, 0, 0, 0, 0), (57, .iload 4, 2, 0, 0, 0, 0), (59, .iload_n 2, 1, 0, 0, 0, 0), (60, .invokevirtual 184, 3, 2, 275, 0, 0), (63, .goto 21, 3, 0, 0, 0, 0), (66, .aload_n 0, 1, 0, 0, 0, 0), (67, .getfield 7, 3, 0, 12, 0, 0), (70, .sipush 150, 3, 0, 0, 0, 0), (73, .bipush 7, 2, 0, 0, 0, 0), (75, .iload 4, 2, 0, 0, 0, 0), (77, .imul, 1, 0, 0, 0, 0), (78, .iadd, 1, 0, 0, 0, 0), (79, .iload_n 3, 1, 0, 0, 0, 0), (80, .invokestatic 108, 3, 2, 237, 0, 0), (83, .iastore, 1, 0, 0, 0, 0), (84, .iinc 4 1, 3, 0, 0, 0, 0), (87, .goto (-59), 3, 0, 0, 0, 0), (90, .aload_n 0, 1, 0, 0, 0, 0), (91, .getfield 7, 3, 0, 12, 0, 0), (94, .iconst 5, 1, 0, 0, 0, 0), (95, .dup2, 1, 0, 0, 0, 0), (96, .iaload, 1, 0, 0, 0, 0), (97, .aload_n 0, 1, 0, 0, 0, 0), (98, .iload_n 1, 1, 0, 0, 0, 0), (99, .iconst 4, 1, 0, 0, 0, 0), (100, .invokevirtual 72, 3, 2, 226, 0, 0), (103, .aload_n 0, 1, 0, 0, 0, 0), (104, .iload_n 1, 1, 0, 0, 0, 0), (105, .iconst 5, 1, 0, 0, 0, 0), (106, .invokevirtual 72, 3, 2, 226, 0, 0), (109, .iadd, 1, 0, 0, 0, 0), (110, .iadd, 1, 0, 0, 0, 0), (111, .iastore, 1, 0, 0, 0, 0), (112, .aload_n 0, 1, 0, 0, 0, 0), (113, .iload_n 1, 1, 0, 0, 0, 0), (114, .iconst 4, 1, 0, 0, 0, 0), (115, .iconst 0, 1, 0, 0, 0, 0), (116, .invokevirtual 82, 3, 2, 223, 0, 0), (119, .aload_n 0, 1, 0, 0, 0, 0), (120, .iload_n 1, 1, 0, 0, 0, 0), (121, .iconst 5, 1, 0, 0, 0, 0), (122, .iconst 0, 1, 0, 0, 0, 0), (123, .invokevirtual 82, 3, 2, 223, 0, 0), (126, .aload_n 0, 1, 0, 0, 0, 0), (127, .iload_n 1, 1, 0, 0, 0, 0), (128, .bipush 6, 2, 0, 0, 0, 0), (130, .iconst 1, 1, 0, 0, 0, 0), (131, .invokevirtual 82, 3, 2, 223, 0, 0), (134, .iconst 0, 1, 0, 0, 0, 0), (135, .istore 4, 2, 0, 0, 0, 0), (137, .iload 4, 2, 0, 0, 0, 0), (139, .aload_n 0, 1, 0, 0, 0, 0), (140, .getfield 7, 3, 0, 12, 0, 0), (143, .iconst 2, 1, 0, 0, 0, 0), (144, .iaload, 1, 0, 0, 0, 0), (145, .if_icmp .ge 49, 3, 0, 0, 0, 0), (148, .aload_n 0, 1, 0, 0, 0, 0), (149, .iload 4, 2, 0, 0, 0, 0), (151, .iconst 0, 1, 0, 0, 0, 0), (152, .invokevirtual 137, 3, 2, 235, 0, 0), (155, .iload_n 1, 1, 0, 0, 0, 0), (156, .if_icmp .eq 14, 3, 0, 0, 0, 0), (159, .aload_n 0, 1, 0, 0, 0, 0), (160, .iload 4, 2, 0, 0, 0, 0), (162, .iconst 1, 1, 0, 0, 0, 0), (163, .invokevirtual 137, 3, 2, 235, 0, 0), (166, .iload_n 1, 1, 0, 0, 0, 0), (167, .if_icmp .ne 21, 3, 0, 0, 0, 0), (170, .aload_n 0, 1, 0, 0, 0, 0), (171, .getfield 7, 3, 0, 12, 0, 0), (174, .sipush 248, 3, 0, 0, 0, 0), (177, .bipush 8, 2, 0, 0, 0, 0), (179, .iload 4, 2, 0, 0, 0, 0), (181, .imul, 1, 0, 0, 0, 0), (182, .iadd, 1, 0, 0, 0, 0), (183, .bipush 7, 2, 0, 0, 0, 0), (185, .iadd, 1, 0, 0, 0, 0), (186, .iconst 0, 1, 0, 0, 0, 0), (187, .iastore, 1, 0, 0, 0, 0), (188, .iinc 4 1, 3, 0, 0, 0, 0), (191, .goto (-54), 3, 0, 0, 0, 0), (194, .return_, 1, 0, 0, 0, 0)]
set_option maxRecDepth 100000 in
theorem sx_k278 : sx_c278.all (sx_chk 12 prog_14_method_60_code) = true := by decide +kernel
def sx_c279 : List sx_I := [(0, .iconst 0, 1, 0, 0, 0, 0), (1, .istore_n 1, 1, 0, 0, 0, 0), (2, .iload_n 1, 1, 0, 0, 0, 0), (3, .aload_n 0, 1, 0, 0, 0, 0), (4, .getfield 7, 3, 0, 12, 0, 0), (7, .iconst 0, 1, 0, 0, 0, 0), (8, .iaload, 1, 0, 0, 0, 0), (9, .if_icmp .ge 39, 3, 0, 0, 0, 0), (12, .aload_n 0, 1, 0, 0, 0, 0), (13, .iload_n 1, 1, 0, 0, 0, 0), (14, .invokevirtual 111, 3, 2, 239, 0, 0), (17, .ifCond .ne 25, 3, 0, 0, 0, 0), (20, .aload_n 0, 1, 0, 0, 0, 0), (21, .iload_n 1, 1, 0, 0, 0, 0), (22, .iconst 1, 1, 0, 0, 0, 0), (23, .aload_n 0, 1, 0, 0, 0, 0), (24, .aload_n 0, 1, 0, 0, 0, 0), (25, .iload_n 1, 1, 0, 0, 0, 0), (26, .iconst 1, 1, 0, 0, 0, 0), (27, .invokevirtual 72, 3, 2, 226, 0, 0), (30, .aload_n 0, 1, 0, 0, 0, 0), (31, .iload_n 1, 1, 0, 0, 0, 0), (32, .iconst 1, 1, 0, 0, 0, 0), (33, .invokevirtual 72, 3, 2, 226, 0, 0), (36, .invokevirtual 191, 3, 2, 280, 0, 0), (39, .invokevirtual 82, 3, 2, 223, 0, 0), (42, .iinc 1 1, 3, 0, 0, 0, 0), (45, .goto (-43), 3, 0, 0, 0, 0), (48, .return_, 1, 0, 0, 0, 0)]
set_option maxRecDepth 100000 in
theorem sx_k279 : sx_c279.all (sx_chk 12 prog_14_method_63_code) = true := by decide +kernel
def sx_c280 : List sx_I := [(0, .iload_n 1, 1, 0, 0, 0, 0), (1, .bipush 6, 2, 0, 0, 0, 0), (3, .irem, 1, 0, 0, 0, 0), (4, .aload_n 0, 1, 0, 0, 0, 0), (5, .getfield 7, 3, 0, 12, 0, 0), (8, .bipush 8, 2, 0, 0, 0, 0), (10, .iconst 2, 1, 0, 0, 0, 0), (11, .iload_n 2, 1, 0, 0, 0, 0), (12, .imul, 1, 0, 0, 0, 0), (13, .iadd, 1, 0, 0, 0, 0), (14, .iaload, 1, 0, 0, 0, 0), (15, .iadd, 1, 0, 0, 0, 0), (16, .istore_n 3, 1, 0, 0, 0, 0), (17, .iload_n 1, 1, 0, 0, 0, 0), (18, .bipush 6, 2, 0, 0, 0, 0), (20, .idiv, 1, 0, 0, 0, 0), (21, .aload_n 0, 1, 0, 0, 0, 0), (22, .getfield 7, 3, 0, 12, 0, 0), (25, .bipush 8, 2, 0, 0, 0, 0), (27, .iconst 2, 1, 0, 0, 0, 0), (28, .iload_n 2, 1, 0, 0, 0, 0), (29, .imul, 1, 0, 0, 0, 0), (30, .iadd, 1, 0, 0, 0, 0), (31, .iconst 1, 1, 0, 0, 0, 0), (32, .iadd, 1, 0, 0, 0, 0), (33, .iaload, 1, 0, 0, 0, 0), (34, .iadd, 1, 0, 0, 0, 0), (35, .istore 4, 2, 0, 0, 0, 0), (37, .iload_n 3, 1, 0, 0, 0, 0), (38, .iconst 0, 1, 0, 0, 0, 0), (39, .iconst 5, 1, 0, 0, 0, 0), (40, .invokestatic 68, 3, 2, 220, 0, 0), (43, .ifCond .eq 23, 3, 0, 0, 0, 0), (46, .iload 4, 2, 0, 0, 0, 0), (48, .iconst 0, 1, 0, 0, 0, 0), (49, .iconst 5, 1, 0, 0, 0, 0), (50, .invokestatic 68, 3, 2, 220, 0, 0), (53, .ifCond .eq 13, 3, 0, 0, 0, 0), (56, .bipush 6, 2, 0, 0, 0, 0), (58, .iload 4, 2, 0, 0, 0, 0), (60, .imul, 1, 0, 0, 0, 0), (61, .iload_n 3, 1, 0, 0, 0, 0), (62, .iadd, 1, 0, 0, 0, 0), (63, .goto 4, 3, 0, 0, 0, 0), (66, .iload_n 1, 1, 0, 0, 0, 0), (67, .ireturn, 1, 0, 0, 0, 0)]
set_option maxRecDepth 100000 in
theorem sx_k280 : sx_c280.all (sx_chk 12 prog_14_method_62_code) = true := by decide +kernel
def sx_c281 : List sx_I := [(0, .iload_n 1, 1, 0, 0, 0, 0), (1, .iconst 1, 1, 0, 0, 0, 0), (2, .bipush 30, 2, 0, 0, 0, 0), (4, .invokestatic 68, 3, 2, 220, 0, 0), (7, .ifCond .eq 10, 3, 0, 0, 0, 0), (10, .iload_n 2, 1, 0, 0, 0, 0), (11, .invokestatic 215, 3, 2, 282, 0, 0), (14, .ifCond .ne 10, 3, 0, 0, 0, 0), (17, .aload_n 0, 1, 0, 0, 0, 0), (18, .ldc 76, 2, 6, 0, 0, -100001), (20, .invokevirtual 77, 3, 2, 221, 0, 0), (23, .ireturn, 1, 0, 0, 0, 0), (24, .aload_n 0, 1, 0, 0, 0, 0), (25, .getfield 52, 3, 0, 12, 22, 0), (28, .iload_n 2, 1, 0, 0, 0, 0), (29, .iaload, 1, 0, 0, 0, 0), (30, .ifCond .ne 10, 3, 0, 0, 0, 0), (33, .aload_n 0, 1, 0, 0, 0, 0), (34, .ldc 120, 2, 6, 0, 0, -100002), (36, .invokevirtual 77, 3, 2, 221, 0, 0), (39, .ireturn, 1, 0, 0, 0, 0), (40, .iconst 0, 1, 0, 0, 0, 0), (41, .istore_n 3, 1, 0, 0, 0, 0), (42, .iconst 0, 1, 0, 0, 0, 0), (43, .istore 4, 2, 0, 0, 0, 0), (45, .iconst 0, 1, 0, 0, 0, 0), (46, .istore 5, 2, 0, 0, 0, 0), (48, .iconst 0, 1, 0, 0, 0, 0), (49, .istore 6, 2, 0, 0, 0, 0), (51, .iload 6, 2, 0, 0, 0, 0), (53, .iload_n 1, 1, 0, 0, 0, 0), (54, .if_icmp .ge 140, 3, 0, 0, 0, 0), (57, .iconst 2, 1, 0, 0, 0, 0), (58, .iload 6, 2, 0, 0, 0, 0), (60, .imul, 1, 0, 0, 0, 0), (61, .iconst 1, 1, 0, 0, 0, 0), (62, .iadd, 1, 0, 0, 0, 0), (63, .aload_n 0, 1, 0, 0, 0, 0), (64, .getfield 55, 3, 0, 12, 23, 0), (67, .iload_n 2, 1, 0, 0, 0, 0), (68, .iaload, 1, 0, 0, 0, 0), (69, .if_icmp .ge 52, 3, 0, 0, 0, 0), (72, .aload_n 0, 1, 0, 0, 0, 0), (73, .getfield 58, 3, 0, 12, 24, 0), (76, .bipush 20, 2, 0, 0, 0, 0), (78, .iload_n 2, 1, 0, 0, 0, 0), (79, .imul, 1, 0, 0, 0, 0), (80, .iconst 2, 1, 0, 0, 0, 0), (81, .iload 6, 2, 0, 0, 0, 0), (83, .imul, 1, 0, 0, 0, 0), (84, .iadd, 1, 0, 0, 0, 0), (85, .iaload, 1, 0, 0, 0, 0), (86, .invokestatic 175, 3, 2, 263, 0, 0), (89, .ifCond .eq 32, 3, 0, 0, 0, 0), (92, .aload_n 0, 1, 0, 0, 0, 0), (93, .getfield 58, 3, 0, 12, 24, 0), (96, .bipush 20, 2, 0, 0, 0, 0), (98, .iload_n 2, 1, 0, 0, 0, 0), (99, .imul, 1, 0, 0, 0, 0), (100, .iconst 2, 1, 0, 0, 0, 0), (101, .iload 6, 2, 0, 0, 0, 0), (103, .imul, 1, 0, 0, 0, 0), (104, .iadd, 1, 0, 0, 0, 0), (105, .iconst 1, 1, 0, 0, 0, 0), (106, .iadd, 1, 0, 0, 0, 0), (107, .iaload, 1, 0, 0, 0, 0), (108, .iconst 0, 1, 0, 0, 0, 0), (109, .bipush 9, 2, 0, 0, 0, 0), (111, .invokestatic 68, 3, 2, 220, 0, 0), (114, .ifCond .eq 7, 3, 0, 0, 0, 0), (117, .iconst 1, 1, 0, 0, 0, 0), (118, .goto 4, 3, 0, 0, 0, 0), (121, .iconst 0, 1, 0, 0, 0, 0), (122, .istore 7, 2, 0, 0, 0, 0), (124, .iload 7, 2, 0, 0, 0, 0), (126, .ifCond .eq 20, 3, 0, 0, 0, 0), (129, .aload_n 0, 1, 0, 0, 0, 0), (130, .getfield 58, 3, 0, 12, 24, 0), (133, .bipush 20, 2, 0, 0, 0, 0), (135, .iload_n 2, 1, 0, 0, 0, 0), (136, .imul, 1, 0, 0, 0, 0), (137, .iconst 2, 1, 0, 0, 0, 0), (138, .iload 6, 2, 0, 0, 0, 0), (140, .imul, 1, 0, 0, 0, 0), (141, .iadd, 1, 0, 0, 0, 0), (142, .iaload, 1, 0, 0, 0, 0), (143, .goto 4, 3, 0, 0, 0, 0), (146, .iload_n 3, 1, 0, 0, 0, 0), (147, .istore_n 3, 1, 0, 0, 0, 0), (148, .iload 7, 2, 0, 0, 0, 0), (150, .ifCond .eq 22, 3, 0, 0, 0, 0), (153, .aload_n 0, 1, 0, 0, 0, 0), (154, .getfield 58, 3, 0, 12, 24, 0), (157, .bipush 20, 2, 0, 0, 0, 0), (159, .iload_n 2, 1, 0, 0, 0, 0), (160, .imul, 1, 0, 0, 0, 0), (161, .iconst 2, 1, 0, 0, 0, 0), (162, .iload 6, 2, 0, 0, 0, 0), (164, .imul, 1, 0, 0, 0, 0), (165, .iadd, 1, 0, 0, 0, 0), (166, .iconst 1, 1, 0, 0, 0, 0), (167, .iadd, 1, 0, 0, 0, 0), (168, .iaload, 1, 0, 0, 0, 0), (169, .goto 5, 3, 0, 0, 0, 0), (172, .iload 4, 2, 0, 0, 0, 0), (174, .istore 4, 2, 0, 0, 0, 0), (176, .iload 5, 2, 0, 0, 0, 0), (178, .aload_n 0, 1, 0, 0, 0, 0), (179, .iload_n 3, 1, 0, 0, 0, 0), (180, .iload 4, 2, 0, 0, 0, 0), (182, .invokevirtual 212, 3, 2, 270, 0, 0), (185, .iadd, 1, 0, 0, 0, 0), (186, .istore 5, 2, 0, 0, 0, 0), (188, .iinc 6 1, 3, 0, 0, 0, 0), (191, .goto (-140), 3, 0, 0, 0, 0), (194, .iload 5, 2, 0, 0, 0, 0), (196, .ireturn, 1, 0, 0, 0, 0)]
set_option maxRecDepth 100000 in
theorem sx_k281 : sx_c281.all (sx_chk 12 prog_14_method_66_code) = true := by decide +kernel
def sx_c282 : List sx_I := [(0, .iload_n 0, 1, 0, 0, 0, 0), (1, .iconst 0, 1, 0, 0, 0, 0), (2, .iconst 3, 1, 0, 0, 0, 0), (3, .invokestatic 68, 3, 2, 220, 0, 0), (6, .ireturn, 1, 0, 0, 0, 0)]
set_option maxRecDepth 100000 in
theorem sx_k282 : sx_c282.all (sx_chk 12 prog_14_method_107_code) = true := by decide +kernel
def sx_c283 : List sx_I := [(0, .aload_n 0, 1, 0, 0, 0, 0), (1, .iload_n 1, 1, 0, 0, 0, 0), (2, .invokevirtual 86, 3, 2, 225, 0, 0), (5, .ifCond .ne 10, 3, 0, 0, 0, 0), (8, .aload_n 0, 1, 0, 0, 0, 0), (9, .ldc 76, 2, 6, 0, 0, -100001), (11, .invokevirtual 77, 3, 2, 221, 0, 0), (14, .ireturn, 1, 0, 0, 0, 0), (15, .aload_n 0, 1, 0, 0, 0, 0), (16, .iload_n 1, 1, 0, 0, 0, 0), (17, .invokevirtual 111, 3, 2, 239, 0, 0), (20, .ifCond .eq 10, 3, 0, 0, 0, 0), (23, .aload_n 0, 1, 0, 0, 0, 0), (24, .ldc 114, 2, 6, 0, 0, -100006), (26, .invokevirtual 77, 3, 2, 221, 0, 0), (29, .ireturn, 1, 0, 0, 0, 0), (30, .aload_n 0, 1, 0, 0, 0, 0), (31, .iload_n 1, 1, 0, 0, 0, 0), (32, .aload_n 0, 1, 0, 0, 0, 0), (33, .invokevirtual 101, 3, 2, 233, 0, 0), (36, .invokevirtual 105, 3, 2, 236, 0, 0), (39, .istore_n 2, 1, 0, 0, 0, 0), (40, .aload_n 0, 1, 0, 0, 0, 0), (41, .iload_n 2, 1, 0, 0, 0, 0), (42, .invokevirtual 218, 3, 2, 284, 0, 0), (45, .istore_n 3, 1, 0, 0, 0, 0), (46, .iconst 0, 1, 0, 0, 0, 0), (47, .istore 4, 2, 0, 0, 0, 0), (49, .iload 4, 2, 0, 0, 0, 0), (51, .aload_n 0, 1, 0, 0, 0, 0), (52, .getfield 7, 3, 0, 12, 0, 0), (55, .iconst 0, 1, 0, 0, 0, 0), (56, .iaload, 1, 0, 0, 0, 0), (57, .if_icmp .ge 38, 3, 0, 0, 0, 0), (60, .iload_n 3, 1, 0, 0, 0, 0), (61, .iload_n 2, 1, 0, 0, 0, 0), (62, .iload 4, 2, 0, 0, 0, 0), (64, .ishr, 1, 0, 0, 0, 0), (65, .iconst 1, 1, 0, 0, 0, 0), (66, .iand, 1, 0, 0, 0, 0), (67, .iconst 1, 1, 0, 0, 0, 0), (68, .if_icmp .ne 18, 3, 0, 0, 0, 0), (71, .aload_n 0, 1, 0, 0, 0, 0), (72, .iload 4, 2, 0, 0, 0, 0), (74, .iconst 0, 1, 0, 0, 0, 0), (75, .invokevirtual 72, 3, 2, 226, 0, 0), (78, .iconst 3, 1, 0, 0, 0, 0), (79, .if_icmp .ne 7, 3, 0, 0, 0, 0), (82, .iconst 1, 1, 0, 0, 0, 0), (83, .goto 4, 3, 0, 0, 0, 0), (86, .iconst 0, 1, 0, 0, 0, 0), (87, .iadd, 1, 0, 0, 0, 0), (88, .istore_n 3, 1, 0, 0, 0, 0), (89, .iinc 4 1, 3, 0, 0, 0, 0), (92, .goto (-43), 3, 0, 0, 0, 0), (95, .iload_n 3, 1, 0, 0, 0, 0), (96, .ifCond .ne 9, 3, 0, 0, 0, 0), (99, .sipush 9999, 3, 0, 0, 0, 0), (102, .goto 10, 3, 0, 0, 0, 0), (105, .aload_n 0, 1, 0, 0, 0, 0), (106, .iload_n 2, 1, 0, 0, 0, 0), (107, .invokevirtual 221, 3, 2, 285, 0, 0), (110, .iload_n 3, 1, 0, 0, 0, 0), (111, .idiv, 1, 0, 0, 0, 0), (112, .ireturn, 1, 0, 0, 0, 0)]
set_option maxRecDepth 100000 in
theorem sx_k283 : sx_c283.all (sx_chk 12 prog_14_method_69_code) = true := by decide +kernel
def sx_c284 : List sx_I := [(0, .iconst 0, 1, 0, 0, 0, 0), (1, .istore_n 2, 1, 0, 0, 0, 0), (2, .iconst 0, 1, 0, 0, 0, 0), (3, .istore_n 3, 1, 0, 0, 0, 0), (4, .iload_n 3, 1, 0, 0, 0, 0), (5, .aload_n 0, 1, 0, 0, 0, 0), (6, .getfield 7, 3, 0, 12, 0, 0), (9, .iconst 1, 1, 0, 0, 0, 0), (10, .iaload, 1, 0, 0, 0, 0), (11, .if_icmp .ge 34, 3, 0, 0, 0, 0), (14, .iload_n 2, 1, 0, 0, 0, 0), (15, .aload_n 0, 1, 0, 0, 0, 0), (16, .iload_n 3, 1, 0, 0, 0, 0), (17, .invokevirtual 124, 3, 2, 230, 0, 0), (20, .ifCond .ne 16, 3, 0, 0, 0, 0), (23, .iload_n 1, 1, 0, 0, 0, 0), (24, .aload_n 0, 1, 0, 0, 0, 0), (25, .iload_n 3, 1, 0, 0, 0, 0), (26, .iconst 0, 1, 0, 0, 0, 0), (27, .invokevirtual 121, 3, 2, 231, 0, 0), (30, .ishr, 1, 0, 0, 0, 0), (31, .iconst 1, 1, 0, 0, 0, 0), (32, .iand, 1, 0, 0, 0, 0), (33, .goto 4, 3, 0, 0, 0, 0), (36, .iconst 0, 1, 0, 0, 0, 0), (37, .iadd, 1, 0, 0, 0, 0), (38, .istore_n 2, 1, 0, 0, 0, 0), (39, .iinc 3 1, 3, 0, 0, 0, 0), (42, .goto (-38), 3, 0, 0, 0, 0), (45, .iload_n 2, 1, 0, 0, 0, 0), (46, .ireturn, 1, 0, 0, 0, 0)]
set_option maxRecDepth 100000 in
theorem sx_k284 : sx_c284.all (sx_chk 12 prog_14_method_67_code) = true := by decide +kernel
def sx_c285 : List sx_I := [(0, .iconst 0, 1, 0, 0, 0, 0), (1, .istore_n 2, 1, 0, 0, 0, 0), (2, .iconst 0, 1, 0, 0, 0, 0), (3, .istore_n 3, 1, 0, 0, 0, 0), (4, .iload_n 3, 1, 0, 0, 0, 0), (5, .aload_n 0, 1, 0, 0, 0, 0), (6, .getfield 7, 3, 0, 12, 0, 0), (9, .iconst 0, 1, 0, 0, 0, 0), (10, .iaload, 1, 0, 0, 0, 0), (11, .if_icmp .ge 31, 3, 0, 0, 0, 0), (14, .iload_n 2, 1, 0, 0, 0, 0), (15, .iload_n 1, 1, 0, 0, 0, 0), (16, .iload_n 3, 1, 0, 0, 0, 0), (17, .ishr, 1, 0, 0, 0, 0), (18, .iconst 1, 1, 0, 0, 0, 0), (19, .iand, 1, 0, 0, 0, 0), (20, .iconst 1, 1, 0, 0, 0, 0), (21, .if_icmp .ne 12, 3, 0, 0, 0, 0), (24, .aload_n 0, 1, 0, 0, 0, 0), (25, .iload_n 3, 1, 0, 0, 0, 0), (26, .iconst 4, 1, 0, 0, 0, 0), (27, .invokevirtual 72, 3, 2, 226, 0, 0), (30, .goto 4, 3, 0, 0, 0, 0), (33, .iconst 0, 1, 0, 0, 0, 0), (34, .iadd, 1, 0, 0, 0, 0), (35, .istore_n 2, 1, 0, 0, 0, 0), (36, .iinc 3 1, 3, 0, 0, 0, 0), (39, .goto (-35), 3, 0, 0, 0, 0), (42, .iload_n 2, 1, 0, 0, 0, 0), (43, .ireturn, 1, 0, 0, 0, 0)]
set_option maxRecDepth 100000 in
theorem sx_k285 : sx_c285.all (sx_chk 12 prog_14_method_68_code) = true := by decide +kernel
def sx_c286 : List sx_I := [(0, .iload_n 1, 1, 0, 0, 0, 0), (1, .iconst 1, 1, 0, 0, 0, 0), (2, .bipush 8, 2, 0, 0, 0, 0), (4, .invokestatic 68, 3, 2, 220, 0, 0), (7, .ifCond .ne 10, 3, 0, 0, 0, 0), (10, .aload_n 0, 1, 0, 0, 0, 0), (11, .ldc 76, 2, 6, 0, 0, -100001), (13, .invokevirtual 77, 3, 2, 221, 0, 0), (16, .ireturn, 1, 0, 0, 0, 0), (17, .aload_n 0, 1, 0, 0, 0, 0), (18, .getfield 224, 3, 0, 12, 6, 0), (21, .iload_n 1, 1, 0, 0, 0, 0), (22, .iadd, 1, 0, 0, 0, 0), (23, .sipush 160, 3, 0, 0, 0, 0), (26, .if_icmp .le 10, 3, 0, 0, 0, 0), (29, .aload_n 0, 1, 0, 0, 0, 0), (30, .ldc 81, 2, 6, 0, 0, -100005), (32, .invokevirtual 77, 3, 2, 221, 0, 0), (35, .ireturn, 1, 0, 0, 0, 0), (36, .iconst 0, 1, 0, 0, 0, 0), (37, .istore 4, 2, 0, 0, 0, 0), (39, .iload 4, 2, 0, 0, 0, 0), (41, .iload_n 1, 1, 0, 0, 0, 0), (42, .if_icmp .ge 37, 3, 0, 0, 0, 0), (45, .aload_n 0, 1, 0, 0, 0, 0), (46, .getfield 19, 3, 0, 12, 5, 0), (49, .aload_n 0, 1, 0, 0, 0, 0), (50, .getfield 224, 3, 0, 12, 6, 0), (53, .lload_n 2, 1, 0, 0, 0, 0), (54, .bipush 8, 2, 0, 0, 0, 0), (56, .iload 4, 2, 0, 0, 0, 0), (58, .imul, 1, 0, 0, 0, 0), (59, .lshr, 1, 0, 0, 0, 0), (60, .l2i, 1, 0, 0, 0, 0), (61, .i2b, 1, 0, 0, 0, 0), (62, .bastore, 1, 0, 0, 0, 0), (63, .aload_n 0, 1, 0, 0, 0, 0), (64, .dup, 1, 0, 0, 0, 0), (65, .getfield 224, 3, 0, 12, 6, 0), (68, .iconst 1, 1, 0, 0, 0, 0), (69, .iadd, 1, 0, 0, 0, 0), (70, .putfield 224, 3, 0, 12, 6, 0), (73, .iinc 4 1, 3, 0, 0, 0, 0), (76, .goto (-37), 3, 0, 0, 0, 0), (79, .aload_n 0, 1, 0, 0, 0, 0), (80, .getfield 224, 3, 0, 12, 6, 0), (83, .ireturn, 1, 0, 0, 0, 0)]
set_option maxRecDepth 100000 in
theorem sx_k286 : sx_c286.all (sx_chk 12 prog_14_method_70_code) = true := by decide +kernel
def sx_c287 : List sx_I := [(0, .iload_n 1, 1, 0, 0, 0, 0), (1, .iconst 0, 1, 0, 0, 0, 0), (2, .iconst 4, 1, 0, 0, 0, 0), (3, .invokestatic 68, 3, 2, 220, 0, 0), (6, .ifCond .ne 10, 3, 0, 0, 0, 0), (9, .aload_n 0, 1, 0, 0, 0, 0), (10, .ldc 76, 2, 6, 0, 0, -100001), (12, .invokevirtual 77, 3, 2, 221, 0, 0), (15, .ireturn, 1, 0, 0, 0, 0), (16, .aload_n 0, 1, 0, 0, 0, 0), (17, .invokevirtual 282, 3, 2, 288, 0, 0), (20, .istore_n 2, 1, 0, 0, 0, 0), (21, .aload_n 0, 1, 0, 0, 0, 0), (22, .iconst 0, 1, 0, 0, 0, 0), (23, .putfield 224, 3, 0, 12, 6, 0), (26, .iload_n 2, 1, 0, 0, 0, 0), (27, .ifCond .ne 8, 3, 0, 0, 0, 0), (30, .aload_n 0, 1, 0, 0, 0, 0), (31, .getfield 230, 3, 0, 12, 12, 0), (34, .ireturn, 1, 0, 0, 0, 0), (35, .iconst 0, 1, 0, 0, 0, 0), (36, .istore_n 3, 1, 0, 0, 0, 0), (37, .iload_n 3, 1, 0, 0, 0, 0), (38, .sipush 489, 3, 0, 0, 0, 0), (41, .if_icmp .ge 31, 3, 0, 0, 0, 0), (44, .aload_n 0, 1, 0, 0, 0, 0), (45, .getfield 7, 3, 0, 12, 0, 0), (48, .sipush 528, 3, 0, 0, 0, 0), (51, .sipush 489, 3, 0, 0, 0, 0), (54, .iload_n 1, 1, 0, 0, 0, 0), (55, .imul, 1, 0, 0, 0, 0), (56, .iadd, 1, 0, 0, 0, 0), (57, .iload_n 3, 1, 0, 0, 0, 0), (58, .iadd, 1, 0, 0, 0, 0), (59, .aload_n 0, 1, 0, 0, 0, 0), (60, .getfield 30, 3, 0, 12, 9, 0), (63, .iload_n 3, 1, 0, 0, 0, 0), (64, .iaload, 1, 0, 0, 0, 0), (65, .iastore, 1, 0, 0, 0, 0), (66, .iinc 3 1, 3, 0, 0, 0, 0), (69, .goto (-32), 3, 0, 0, 0, 0), (72, .iconst (-1), 1, 0, 0, 0, 0), (73, .ireturn, 1, 0, 0, 0, 0)]
set_option maxRecDepth 100000 in
theorem sx_k287 : sx_c287.all (sx_chk 12 prog_14_method_84_code) = true := by decide +kernel
def sx_c288 : List sx_I := [(0, .aload_n 0, 1, 0, 0, 0, 0), (1, .iconst 0, 1, 0, 0, 0, 0), (2, .putfield 227, 3, 0, 12, 13, 0), (5, .iconst 0, 1, 0, 0, 0, 0), (6, .istore_n 1, 1, 0, 0, 0, 0), (7, .iload_n 1, 1, 0, 0, 0, 0), (8, .iconst 3, 1, 0, 0, 0, 0), (9, .if_icmp .ge 34, 3, 0, 0, 0, 0), (12, .aload_n 0, 1, 0, 0, 0, 0), (13, .invokevirtual 266, 3, 2, 289, 0, 0), (16, .aload_n 0, 1, 0, 0, 0, 0), (17, .getfield 236, 3, 0, 12, 14, 0), (20, .bipush 10, 2, 0, 0, 0, 0), (22, .iload_n 1, 1, 0, 0, 0, 0), (23, .iadd, 1, 0, 0, 0, 0), (24, .if_icmp .ne 11, 3, 0, 0, 0, 0), (27, .aload_n 0, 1, 0, 0, 0, 0), (28, .iload_n 1, 1, 0, 0, 0, 0), (29, .invokevirtual 279, 3, 2, 295, 0, 0), (32, .ifCond .ne 5, 3, 0, 0, 0, 0), (35, .iconst 0, 1, 0, 0, 0, 0), (36, .ireturn, 1, 0, 0, 0, 0), (37, .iinc 1 1, 3, 0, 0, 0, 0), (40, .goto (-33), 3, 0, 0, 0, 0), (43, .aload_n 0, 1, 0, 0, 0, 0), (44, .invokevirtual 266, 3, 2, 289, 0, 0), (47, .aload_n 0, 1, 0, 0, 0, 0), (48, .getfield 236, 3, 0, 12, 14, 0), (51, .ifCond .ne 7, 3, 0, 0, 0, 0), (54, .iconst 1, 1, 0, 0, 0, 0), (55, .goto 4, 3, 0, 0, 0, 0), (58, .iconst 0, 1, 0, 0, 0, 0), (59, .ireturn, 1, 0, 0, 0, 0)]
set_option maxRecDepth 100000 in
theorem sx_k288 : sx_c288.all (sx_chk 12 prog_14_method_83_code) = true := by decide +kernel
def sx_c289 : List sx_I := [(0, .aload_n 0, 1, 0, 0, 0, 0), (1, .aload_n 0, 1, 0, 0, 0, 0), (2, .getfield 227, 3, 0, 12, 13, 0), (5, .putfield 230, 3, 0, 12, 12, 0), (8, .aload_n 0, 1, 0, 0, 0, 0), (9, .aload_n 0, 1, 0, 0, 0, 0), (10, .getfield 230, 3, 0, 12, 12, 0), (13, .invokevirtual 233, 3, 2, 290, 0, 0), (16, .bipush 32, 2, 0, 0, 0, 0), (18, .if_icmp .ne 16, 3, 0, 0, 0, 0), (21, .aload_n 0, 1, 0, 0, 0, 0), (22, .dup, 1, 0, 0, 0, 0), (23, .getfield 230, 3, 0, 12, 12, 0), (26, .iconst 1, 1, 0, 0, 0, 0), (27, .iadd, 1, 0, 0, 0, 0), (28, .putfield 230, 3, 0, 12, 12, 0), (31, .goto (-23), 3, 0, 0, 0, 0), (34, .aload_n 0, 1, 0, 0, 0, 0), (35, .aload_n 0, 1, 0, 0, 0, 0), (36, .getfield 230, 3, 0, 12, 12, 0), (39, .putfield 227, 3, 0, 12, 13, 0), (42, .aload_n 0, 1, 0, 0, 0, 0), (43, .aload_n 0, 1, 0, 0, 0, 0), (44, .getfield 230, 3, 0, 12, 12, 0), (47, .invokevirtual 233, 3, 2, 290, 0, 0), (50, .istore_n 1, 1, 0, 0, 0, 0), (51, .iload_n 1, 1, 0, 0, 0, 0), (52, .ifCond .ge 11, 3, 0, 0, 0, 0), (55, .aload_n 0, 1, 0, 0, 0, 0), (56, .iconst 0, 1, 0, 0, 0, 0), (57, .putfield 236, 3, 0, 12, 14, 0), (60, .goto 187, 3, 0, 0, 0, 0), (63, .iload_n 1, 1, 0, 0, 0, 0), (64, .invokestatic 239, 3, 2, 291, 0, 0), (67, .ifCond .eq 41, 3, 0, 0, 0, 0), (70, .aload_n 0, 1, 0, 0, 0, 0), (71, .aload_n 0, 1, 0, 0, 0, 0), (72, .getfield 227, 3, 0, 12, 13, 0), (75, .invokevirtual 233, 3, 2, 290, 0, 0), (78, .invokestatic 239, 3, 2, 291, 0, 0), (81, .ifCond .eq 16, 3, 0, 0, 0, 0), (84, .aload_n 0, 1, 0, 0, 0, 0), (85, .dup, 1, 0, 0, 0, 0), (86, .getfield 227, 3, 0, 12, 13, 0), (89, .iconst 1, 1, 0, 0, 0, 0), (90, .iadd, 1, 0, 0, 0, 0), (91, .putfield 227, 3, 0, 12, 13, 0), (94, .goto (-24), 3, 0, 0, 0, 0), (97, .aload_n 0, 1, 0, 0, 0, 0), (98, .aload_n 0, 1, 0, 0, 0, 0), (99, .invokevirtual 242, 3, 2, 292, 0, 0), (102, .putfield 236, 3, 0, 12, 14, 0), (105, .goto 142, 3, 0, 0, 0, 0), (108, .iload_n 1, 1, 0, 0, 0, 0), (109, .invokestatic 245, 3, 2, 293, 0, 0), (112, .ifCond .eq 105, 3, 0, 0, 0, 0), (115, .aload_n 0, 1, 0, 0, 0, 0), (116, .iconst 0, 1, 0, 0, 0, 0), (117, .putfield 248, 3, 0, 12, 15, 0), (120, .aload_n 0, 1, 0, 0, 0, 0), (121, .aload_n 0, 1, 0, 0, 0, 0), (122, .getfield 227, 3, 0, 12, 13, 0), (125, .invokevirtual 233, 3, 2, 290, 0, 0), (128, .invokestatic 245, 3, 2, 293, 0, 0), (131, .ifCond .eq 59, 3, 0, 0, 0, 0), (134, .aload_n 0, 1, 0, 0, 0, 0), (135, .aload_n 0, 1, 0, 0, 0, 0), (136, .getfield 227, 3, 0, 12, 13, 0), (139, .aload_n 0, 1, 0, 0, 0, 0), (140, .getfield 230, 3, 0, 12, 12, 0), (143, .isub, 1, 0, 0, 0, 0), (144, .iconst 4, 1, 0, 0, 0, 0), (145, .if_icmp .ge 25, 3, 0, 0, 0, 0), (148, .bipush 10, 2, 0, 0, 0, 0), (150, .aload_n 0, 1, 0, 0, 0, 0), (151, .getfield 248, 3, 0, 12, 15, 0), (154, .imul, 1, 0, 0, 0, 0), (155, .aload_n 0, 1, 0, 0, 0, 0), (156, .aload_n 0, 1, 0, 0, 0, 0), (157, .getfield 227, 3, 0, 12, 13, 0), (160, .invokevirtual 233, 3, 2, 290, 0, 0), (163, .iadd, 1, 0, 0, 0, 0), (164, .bipush 48, 2, 0, 0, 0, 0), (166, .isub, 1, 0, 0, 0, 0), (167, .goto 7, 3, 0, 0, 0, 0), (170, .aload_n 0, 1, 0, 0, 0, 0), (171, .getfield 248, 3, 0, 12, 15, 0), (174, .putfield 248, 3, 0, 12, 15, 0), (177, .aload_n 0, 1, 0, 0, 0, 0), (178, .dup, 1, 0, 0, 0, 0), (179, .getfield 227, 3, 0, 12, 13, 0), (182, .iconst 1, 1, 0, 0, 0, 0), (183, .iadd, 1, 0, 0, 0, 0), (184, .putfield 227, 3, 0, 12, 13, 0), (187, .goto (-67), 3, 0, 0, 0, 0), (190, .aload_n 0, 1, 0, 0, 0, 0), (191, .aload_n 0, 1, 0, 0, 0, 0), (192, .getfield 227, 3, 0, 12, 13, 0), (195, .aload_n 0, 1, 0, 0, 0, 0), (196, .getfield 230, 3, 0, 12, 12, 0), (199, .isub, 1, 0, 0, 0, 0), (200, .iconst 4, 1, 0, 0, 0, 0), (201, .if_icmp .le 8, 3, 0, 0, 0, 0), (204, .bipush 60, 2, 0, 0, 0, 0), (206, .goto 5, 3, 0, 0, 0, 0), (209, .bipush 50, 2, 0, 0, 0, 0), (211, .putfield 236, 3, 0, 12, 14, 0), (214, .goto 33, 3, 0, 0, 0, 0), (217, .aload_n 0, 1, 0, 0, 0, 0), (218, .dup, 1, 0, 0, 0, 0), (219, .getfield 227, 3, 0, 12, 13, 0), (222, .iconst 1, 1, 0, 0, 0, 0), (223, .iadd, 1, 0, 0, 0, 0), (224, .putfield 227, 3, 0, 12, 13, 0), (227, .aload_n 0, 1, 0, 0, 0, 0), (228, .iload_n 1, 1, 0, 0, 0, 0), (229, .invokestatic 251, 3, 2, 294, 0, 0), (232, .ifCond .eq 10, 3, 0, 0, 0, 0), (235, .bipush 100, 2, 0, 0, 0, 0), (237, .iload_n 1, 1, 0, 0, 0, 0), (238, .iadd, 1, 0, 0, 0, 0), (239, .goto 5, 3, 0, 0, 0, 0), (242, .bipush 60, 2, 0, 0, 0, 0), (244, .putfield 236, 3, 0, 12, 14, 0), (247, .return_, 1, 0, 0, 0, 0)]
set_option maxRecDepth 100000 in
theorem sx_k289 : sx_c289.all (sx_chk 12 prog_14_method_76_code) = true := by decide +kernel
def sx_c290 : List sx_I := [(0, .iload_n 1, 1, 0, 0, 0, 0), (1, .aload_n 0, 1, 0, 0, 0, 0), (2, .getfield 224, 3, 0, 12, 6, 0), (5, .if_icmp .ge 16, 3, 0, 0, 0, 0), (8, .aload_n 0, 1, 0, 0, 0, 0), (9, .getfield 19, 3, 0, 12, 5, 0), (12, .iload_n 1, 1, 0, 0, 0, 0), (13, .baload, 1, 0, 0, 0, 0), (14, .sipush 255, 3, 0, 0, 0, 0), (17, .iand, 1, 0, 0, 0, 0), (18, .goto 4, 3, 0, 0, 0, 0), (21, .iconst (-1), 1, 0, 0, 0, 0), (22, .ireturn, 1, 0, 0, 0, 0)]
set_option maxRecDepth 100000 in
theorem sx_k290 : sx_c290.all (sx_chk 12 prog_14_method_71_code) = true := by decide +kernel
def sx_c291 : List sx_I := [(0, .iload_n 0, 1, 0, 0, 0, 0), (1, .bipush 97, 2, 0, 0, 0, 0), (3, .if_icmp .lt 13, 3, 0, 0, 0, 0), (6, .iload_n 0, 1, 0, 0, 0, 0), (7, .bipush 122, 2, 0, 0, 0, 0), (9, .if_icmp .gt 7, 3, 0, 0, 0, 0), (12, .iconst 1, 1, 0, 0, 0, 0), (13, .goto 4, 3, 0, 0, 0, 0), (16, .iconst 0, 1, 0, 0, 0, 0), (17, .ireturn, 1, 0, 0, 0, 0)]
set_option maxRecDepth 100000 in
theorem sx_k291 : sx_c291.all (sx_chk 12 prog_14_method_72_code) = true := by decide +kernel
def sx_c292 : List sx_I := [(0, .iconst 0, 1, 0, 0, 0, 0), (1, .istore_n 1, 1, 0, 0, 0, 0), (2, .iload_n 1, 1, 0, 0, 0, 0), (3, .bipush 15, 2, 0, 0, 0, 0), (5, .if_icmp .ge 105, 3, 0, 0, 0, 0), (8, .aload_n 0, 1, 0, 0, 0, 0), (9, .getfield 27, 3, 0, 12, 8, 0), (12, .iload_n 1, 1, 0, 0, 0, 0), (13, .iconst 1, 1, 0, 0, 0, 0), (14, .iadd, 1, 0, 0, 0, 0), (15, .iaload, 1, 0, 0, 0, 0), (16, .aload_n 0, 1, 0, 0, 0, 0), (17, .getfield 27, 3, 0, 12, 8, 0), (20, .iload_n 1, 1, 0, 0, 0, 0), (21, .iaload, 1, 0, 0, 0, 0), (22, .isub, 1, 0, 0, 0, 0), (23, .aload_n 0, 1, 0, 0, 0, 0), (24, .getfield 227, 3, 0, 12, 13, 0), (27, .aload_n 0, 1, 0, 0, 0, 0), (28, .getfield 230, 3, 0, 12, 12, 0), (31, .isub, 1, 0, 0, 0, 0), (32, .if_icmp .ne 7, 3, 0, 0, 0, 0), (35, .iconst 1, 1, 0, 0, 0, 0), (36, .goto 4, 3, 0, 0, 0, 0), (39, .iconst 0, 1, 0, 0, 0, 0), (40, .istore_n 2, 1, 0, 0, 0, 0), (41, .aload_n 0, 1, 0, 0, 0, 0), (42, .getfield 230, 3, 0, 12, 12, 0), (45, .istore_n 3, 1, 0, 0, 0, 0), (46, .iload_n 3, 1, 0, 0, 0, 0), (47, .aload_n 0, 1, 0, 0, 0, 0), (48, .getfield 227, 3, 0, 12, 13, 0), (51, .if_icmp .ge 45, 3, 0, 0, 0, 0), (54, .iload_n 2, 1, 0, 0, 0, 0), (55, .ifCond .eq 41, 3, 0, 0, 0, 0), (58, .aload_n 0, 1, 0, 0, 0, 0), (59, .iload_n 3, 1, 0, 0, 0, 0), (60, .invokevirtual 233, 3, 2, 290, 0, 0), (63, .aload_n 0, 1, 0, 0, 0, 0), (64, .getfield 23, 3, 0, 12, 7, 0), (67, .aload_n 0, 1, 0, 0, 0, 0), (68, .getfield 27, 3, 0, 12, 8, 0), (71, .iload_n 1, 1, 0, 0, 0, 0), (72, .iaload, 1, 0, 0, 0, 0), (73, .iload_n 3, 1, 0, 0, 0, 0), (74, .iadd, 1, 0, 0, 0, 0), (75, .aload_n 0, 1, 0, 0, 0, 0), (76, .getfield 230, 3, 0, 12, 12, 0), (79, .isub, 1, 0, 0, 0, 0), (80, .caload, 1, 0, 0, 0, 0), (81, .if_icmp .ne 7, 3, 0, 0, 0, 0), (84, .iconst 1, 1, 0, 0, 0, 0), (85, .goto 4, 3, 0, 0, 0, 0), (88, .iconst 0, 1, 0, 0, 0, 0), (89, .istore_n 2, 1, 0, 0, 0, 0), (90, .iinc 3 1, 3, 0, 0, 0, 0), (93, .goto (-47), 3, 0, 0, 0, 0), (96, .iload_n 2, 1, 0, 0, 0, 0), (97, .ifCond .eq 7, 3, 0, 0, 0, 0), (100, .iload_n 1, 1, 0, 0, 0, 0), (101, .iconst 1, 1, 0, 0, 0, 0), (102, .iadd, 1, 0, 0, 0, 0), (103, .ireturn, 1, 0, 0, 0, 0), (104, .iinc 1 1, 3, 0, 0, 0, 0), (107, .goto (-105), 3, 0, 0, 0, 0), (110, .bipush 60, 2, 0, 0, 0, 0), (112, .ireturn, 1, 0, 0, 0, 0)]
set_option maxRecDepth 100000 in
theorem sx_k292 : sx_c292.all (sx_chk 12 prog_14_method_75_code) = true := by decide +kernel
def sx_c293 : List sx_I := [(0, .iload_n 0, 1, 0, 0, 0, 0), (1, .bipush 48, 2, 0, 0, 0, 0), (3, .if_icmp .lt 13, 3, 0, 0, 0, 0), (6, .iload_n 0, 1, 0, 0, 0, 0), (7, .bipush 57, 2, 0, 0, 0, 0), (9, .if_icmp .gt 7, 3, 0, 0, 0, 0), (12, .iconst 1, 1, 0, 0, 0, 0), (13, .goto 4, 3, 0, 0, 0, 0), (16, .iconst 0, 1, 0, 0, 0, 0), (17, .ireturn, 1, 0, 0, 0, 0)]
set_option maxRecDepth 100000 in
theorem sx_k293 : sx_c293.all (sx_chk 12 prog_14_method_73_code) = true := by decide +kernel
def sx_c294 : List sx_I := [(0, .iload_n 0, 1, 0, 0, 0, 0), (1, .bipush 40, 2, 0, 0, 0, 0), (3, .if_icmp .eq 39, 3, 0, 0, 0, 0), (6, .iload_n 0, 1, 0, 0, 0, 0), (7, .bipush 41, 2, 0, 0, 0, 0), (9, .if_icmp .eq 33, 3, 0, 0, 0, 0), (12, .iload_n 0, 1, 0, 0, 0, 0), (13, .bipush 59, 2, 0, 0, 0, 0), (15, .if_icmp .eq 27, 3, 0, 0, 0, 0), (18, .iload_n 0, 1, 0, 0, 0, 0), (19, .bipush 43, 2, 0, 0, 0, 0), (21, .if_icmp .eq 21, 3, 0, 0, 0, 0), (24, .iload_n 0, 1, 0, 0, 0, 0), (25, .bipush 45, 2, 0, 0, 0, 0), (27, .if_icmp .eq 15, 3, 0, 0, 0, 0), (30, .iload_n 0, 1, 0, 0, 0, 0), (31, .bipush 60, 2, 0, 0, 0, 0), (33, .if_icmp .eq 9, 3, 0, 0, 0, 0), (36, .iload_n 0, 1, 0, 0, 0, 0), (37, .bipush 61, 2, 0, 0, 0, 0), (39, .if_icmp .ne 7, 3, 0, 0, 0, 0), (42, .iconst 1, 1, 0, 0, 0, 0), (43, .goto 4, 3, 0, 0, 0, 0), (46, .iconst 0, 1, 0, 0, 0, 0), (47, .ireturn, 1, 0, 0, 0, 0)]
set_option maxRecDepth 100000 in
theorem sx_k294 : sx_c294.all (sx_chk 12 prog_14_method_74_code) = true := by decide +kernel
def sx_c295 : List sx_I := [(0, .aload_n 0, 1, 0, 0, 0, 0), (1, .sipush 163, 3, 0, 0, 0, 0), (4, .iload_n 1, 1, 0, 0, 0, 0), (5, .imul, 1, 0, 0, 0, 0), (6, .iconst 1, 1, 0, 0, 0, 0), (7, .iadd, 1, 0, 0, 0, 0), (8, .putfield 254, 3, 0, 12, 16, 0), (11, .aload_n 0, 1, 0, 0, 0, 0), (12, .iconst 0, 1, 0, 0, 0, 0), (13, .putfield 257, 3, 0, 12, 17, 0), (16, .iconst 1, 1, 0, 0, 0, 0), (17, .istore_n 2, 1, 0, 0, 0, 0), (18, .iconst 1, 1, 0, 0, 0, 0), (19, .istore_n 3, 1, 0, 0, 0, 0), (20, .aload_n 0, 1, 0, 0, 0, 0), (21, .invokevirtual 266, 3, 2, 289, 0, 0), (24, .iload_n 2, 1, 0, 0, 0, 0), (25, .ifCond .eq 146, 3, 0, 0, 0, 0), (28, .aload_n 0, 1, 0, 0, 0, 0), (29, .getfield 236, 3, 0, 12, 14, 0), (32, .sipush 140, 3, 0, 0, 0, 0), (35, .if_icmp .eq 16, 3, 0, 0, 0, 0), (38, .aload_n 0, 1, 0, 0, 0, 0), (39, .getfield 236, 3, 0, 12, 14, 0), (42, .bipush 15, 2, 0, 0, 0, 0), (44, .if_icmp .ne 11, 3, 0, 0, 0, 0), (47, .iload_n 3, 1, 0, 0, 0, 0), (48, .ifCond .eq 7, 3, 0, 0, 0, 0), (51, .iconst 1, 1, 0, 0, 0, 0), (52, .goto 4, 3, 0, 0, 0, 0), (55, .iconst 0, 1, 0, 0, 0, 0), (56, .istore 4, 2, 0, 0, 0, 0), (58, .iload 4, 2, 0, 0, 0, 0), (60, .ifCond .eq 49, 3, 0, 0, 0, 0), (63, .aload_n 0, 1, 0, 0, 0, 0), (64, .sipush 140, 3, 0, 0, 0, 0), (67, .invokevirtual 269, 3, 2, 296, 0, 0), (70, .aload_n 0, 1, 0, 0, 0, 0), (71, .bipush 15, 2, 0, 0, 0, 0), (73, .invokevirtual 269, 3, 2, 296, 0, 0), (76, .iadd, 1, 0, 0, 0, 0), (77, .iconst 4, 1, 0, 0, 0, 0), (78, .if_icmp .ge 31, 3, 0, 0, 0, 0), (81, .aload_n 0, 1, 0, 0, 0, 0), (82, .getfield 33, 3, 0, 12, 10, 0), (85, .aload_n 0, 1, 0, 0, 0, 0), (86, .getfield 257, 3, 0, 12, 17, 0), (89, .aload_n 0, 1, 0, 0, 0, 0), (90, .getfield 236, 3, 0, 12, 14, 0), (93, .iastore, 1, 0, 0, 0, 0), (94, .aload_n 0, 1, 0, 0, 0, 0), (95, .dup, 1, 0, 0, 0, 0), (96, .getfield 257, 3, 0, 12, 17, 0), (99, .iconst 1, 1, 0, 0, 0, 0), (100, .iadd, 1, 0, 0, 0, 0), (101, .putfield 257, 3, 0, 12, 17, 0), (104, .iconst 1, 1, 0, 0, 0, 0), (105, .istore_n 3, 1, 0, 0, 0, 0), (106, .goto 62, 3, 0, 0, 0, 0), (109, .iload 4, 2, 0, 0, 0, 0), (111, .ifCond .ne 55, 3, 0, 0, 0, 0), (114, .aload_n 0, 1, 0, 0, 0, 0), (115, .getfield 236, 3, 0, 12, 14, 0), (118, .bipush 50, 2, 0, 0, 0, 0), (120, .if_icmp .eq 16, 3, 0, 0, 0, 0), (123, .aload_n 0, 1, 0, 0, 0, 0), (124, .getfield 236, 3, 0, 12, 14, 0), (127, .iconst 1, 1, 0, 0, 0, 0), (128, .bipush 9, 2, 0, 0, 0, 0), (130, .invokestatic 68, 3, 2, 220, 0, 0), (133, .ifCond .eq 33, 3, 0, 0, 0, 0), (136, .aload_n 0, 1, 0, 0, 0, 0), (137, .aload_n 0, 1, 0, 0, 0, 0), (138, .getfield 236, 3, 0, 12, 14, 0), (141, .bipush 50, 2, 0, 0, 0, 0), (143, .if_icmp .ne 10, 3, 0, 0, 0, 0), (146, .aload_n 0, 1, 0, 0, 0, 0), (147, .getfield 248, 3, 0, 12, 15, 0), (150, .goto 8, 3, 0, 0, 0, 0), (153, .aload_n 0, 1, 0, 0, 0, 0), (154, .getfield 236, 3, 0, 12, 14, 0), (157, .ineg, 1, 0, 0, 0, 0), (158, .invokevirtual 263, 3, 2, 297, 0, 0), (161, .iconst 0, 1, 0, 0, 0, 0), (162, .istore_n 2, 1, 0, 0, 0, 0), (163, .goto 5, 3, 0, 0, 0, 0), (166, .iconst 0, 1, 0, 0, 0, 0), (167, .ireturn, 1, 0, 0, 0, 0), (168, .goto (-148), 3, 0, 0, 0, 0), (171, .aload_n 0, 1, 0, 0, 0, 0), (172, .getfield 236, 3, 0, 12, 14, 0), (175, .sipush 141, 3, 0, 0, 0, 0), (178, .if_icmp .ne 31, 3, 0, 0, 0, 0), (181, .aload_n 0, 1, 0, 0, 0, 0), (182, .sipush 140, 3, 0, 0, 0, 0), (185, .invokevirtual 269, 3, 2, 296, 0, 0), (188, .ifCond .le 21, 3, 0, 0, 0, 0), (191, .aload_n 0, 1, 0, 0, 0, 0), (192, .iconst 1, 1, 0, 0, 0, 0), (193, .invokevirtual 272, 3, 2, 298, 0, 0), (196, .aload_n 0, 1, 0, 0, 0, 0), (197, .dup, 1, 0, 0, 0, 0), (198, .getfield 257, 3, 0, 12, 17, 0), (201, .iconst 1, 1, 0, 0, 0, 0), (202, .isub, 1, 0, 0, 0, 0), (203, .putfield 257, 3, 0, 12, 17, 0), (206, .goto (-186), 3, 0, 0, 0, 0), (209, .aload_n 0, 1, 0, 0, 0, 0), (210, .getfield 236, 3, 0, 12, 14, 0), (213, .sipush 159, 3, 0, 0, 0, 0), (216, .if_icmp .ne 42, 3, 0, 0, 0, 0), (219, .aload_n 0, 1, 0, 0, 0, 0), (220, .sipush 140, 3, 0, 0, 0, 0), (223, .invokevirtual 269, 3, 2, 296, 0, 0), (226, .ifCond .ne 32, 3, 0, 0, 0, 0), (229, .aload_n 0, 1, 0, 0, 0, 0), (230, .iconst 1, 1, 0, 0, 0, 0), (231, .invokevirtual 272, 3, 2, 298, 0, 0), (234, .aload_n 0, 1, 0, 0, 0, 0), (235, .getfield 30, 3, 0, 12, 9, 0), (238, .sipush 163, 3, 0, 0, 0, 0), (241, .iload_n 1, 1, 0, 0, 0, 0), (242, .imul, 1, 0, 0, 0, 0), (243, .aload_n 0, 1, 0, 0, 0, 0), (244, .getfield 254, 3, 0, 12, 16, 0), (247, .sipush 163, 3, 0, 0, 0, 0), (250, .iload_n 1, 1, 0, 0, 0, 0), (251, .imul, 1, 0, 0, 0, 0), (252, .isub, 1, 0, 0, 0, 0), (253, .iconst 1, 1, 0, 0, 0, 0), (254, .isub, 1, 0, 0, 0, 0), (255, .iastore, 1, 0, 0, 0, 0), (256, .iconst 1, 1, 0, 0, 0, 0), (257, .ireturn, 1, 0, 0, 0, 0), (258, .aload_n 0, 1, 0, 0, 0, 0), (259, .getfield 236, 3, 0, 12, 14, 0), (262, .bipush 15, 2, 0, 0, 0, 0), (264, .if_icmp .ne 7, 3, 0, 0, 0, 0), (267, .iconst 0, 1, 0, 0, 0, 0), (268, .goto 10, 3, 0, 0, 0, 0), (271, .aload_n 0, 1, 0, 0, 0, 0), (272, .getfield 236, 3, 0, 12, 14, 0), (275, .invokestatic 260, 3, 2, 299, 0, 0), (278, .istore 4, 2, 0, 0, 0, 0), (280, .iload 4, 2, 0, 0, 0, 0), (282, .ifCond .eq 16, 3, 0, 0, 0, 0), (285, .iload 4, 2, 0, 0, 0, 0), (287, .iconst 4, 1, 0, 0, 0, 0), (288, .if_icmp .ne 12, 3, 0, 0, 0, 0), (291, .aload_n 0, 1, 0, 0, 0, 0), (292, .invokevirtual 275, 3, 2, 300, 0, 0), (295, .ifCond .eq 5, 3, 0, 0, 0, 0), (298, .iconst 0, 1, 0, 0, 0, 0), (299, .ireturn, 1, 0, 0, 0, 0), (300, .aload_n 0, 1, 0, 0, 0, 0), (301, .iload 4, 2, 0, 0, 0, 0), (303, .invokevirtual 272, 3, 2, 298, 0, 0), (306, .aload_n 0, 1, 0, 0, 0, 0), (307, .getfield 33, 3, 0, 12, 10, 0), (310, .aload_n 0, 1, 0, 0, 0, 0), (311, .getfield 257, 3, 0, 12, 17, 0), (314, .aload_n 0, 1, 0, 0, 0, 0), (315, .getfield 236, 3, 0, 12, 14, 0), (318, .iastore, 1, 0, 0, 0, 0), (319, .aload_n 0, 1, 0, 0, 0, 0), (320, .dup, 1, 0, 0, 0, 0), (321, .getfield 257, 3, 0, 12, 17, 0), (324, .iconst 1, 1, 0, 0, 0, 0), (325, .iadd, 1, 0, 0, 0, 0), (326, .putfield 257, 3, 0, 12, 17, 0), (329, .iconst 1, 1, 0, 0, 0, 0), (330, .istore_n 2, 1, 0, 0, 0, 0), (331, .iload 4, 2, 0, 0, 0, 0), (333, .iconst 3, 1, 0, 0, 0, 0), (334, .if_icmp .ge 7, 3, 0, 0, 0, 0), (337, .iconst 1, 1, 0, 0, 0, 0), (338, .goto 4, 3, 0, 0, 0, 0), (341, .iconst 0, 1, 0, 0, 0, 0), (342, .istore_n 3, 1, 0, 0, 0, 0), (343, .goto (-323), 3, 0, 0, 0, 0)]
set_option maxRecDepth 100000 in
theorem sx_k295_0 : ((sx_c295.drop 0).take 64).all (sx_chk 12 prog_14_method_82_code) = true := by decide +kernel
set_option maxRecDepth 100000 in
theorem sx_k295_1 : ((sx_c295.drop 64).take 64).all (sx_chk 12 prog_14_method_82_code) = true := by decide +kernel
set_option maxRecDepth 100000 in
theorem sx_k295_2 : ((sx_c295.drop 128).take 64).all (sx_chk 12 prog_14_method_82_code) = true := by decide +kernel
set_option maxRecDepth 100000 in
theorem sx_k295 : sx_c295.all (sx_chk 12 prog_14_method_82_code) = true := sx_ck 64 sx_k295_0 (sx_ck 64 sx_k295_1 (sx_ce sx_k295_2 rfl))
def sx_c296 : List sx_I := [(0, .iconst 0, 1, 0, 0, 0, 0), (1, .istore_n 2, 1, 0, 0, 0, 0), (2, .iconst 0, 1, 0, 0, 0, 0), (3, .istore_n 3, 1, 0, 0, 0, 0), (4, .iload_n 3, 1, 0, 0, 0, 0), (5, .aload_n 0, 1, 0, 0, 0, 0), (6, .getfield 257, 3, 0, 12, 17, 0), (9, .if_icmp .ge 27, 3, 0, 0, 0, 0), (12, .iload_n 2, 1, 0, 0, 0, 0), (13, .aload_n 0, 1, 0, 0, 0, 0), (14, .getfield 33, 3, 0, 12, 10, 0), (17, .iload_n 3, 1, 0, 0, 0, 0), (18, .iaload, 1, 0, 0, 0, 0), (19, .iload_n 1, 1, 0, 0, 0, 0), (20, .if_icmp .ne 7, 3, 0, 0, 0, 0), (23, .iconst 1, 1, 0, 0, 0, 0), (24, .goto 4, 3, 0, 0, 0, 0), (27, .iconst 0, 1, 0, 0, 0, 0), (28, .iadd, 1, 0, 0, 0, 0), (29, .istore_n 2, 1, 0, 0, 0, 0), (30, .iinc 3 1, 3, 0, 0, 0, 0), (33, .goto (-29), 3, 0, 0, 0, 0), (36, .iload_n 2, 1, 0, 0, 0, 0), (37, .ireturn, 1, 0, 0, 0, 0)]
set_option maxRecDepth 100000 in
theorem sx_k296 : sx_c296.all (sx_chk 12 prog_14_method_80_code) = true := by decide +kernel
def sx_c297 : List sx_I := [(0, .aload_n 0, 1, 0, 0, 0, 0), (1, .getfield 30, 3, 0, 12, 9, 0), (4, .aload_n 0, 1, 0, 0, 0, 0), (5, .getfield 254, 3, 0, 12, 16, 0), (8, .iload_n 1, 1, 0, 0, 0, 0), (9, .iastore, 1, 0, 0, 0, 0), (10, .aload_n 0, 1, 0, 0, 0, 0), (11, .dup, 1, 0, 0, 0, 0), (12, .getfield 254, 3, 0, 12, 16, 0), (15, .iconst 1, 1, 0, 0, 0, 0), (16, .iadd, 1, 0, 0, 0, 0), (17, .putfield 254, 3, 0, 12, 16, 0), (20, .return_, 1, 0, 0, 0, 0)]
set_option maxRecDepth 100000 in
theorem sx_k297 : sx_c297.all (sx_chk 12 prog_14_method_78_code) = true := by decide +kernel
def sx_c298 : List sx_I := [(0, .aload_n 0, 1, 0, 0, 0, 0), (1, .getfield 257, 3, 0, 12, 17, 0), (4, .ifCond .le 50, 3, 0, 0, 0, 0), (7, .aload_n 0, 1, 0, 0, 0, 0), (8, .getfield 33, 3, 0, 12, 10, 0), (11, .aload_n 0, 1, 0, 0, 0, 0), (12, .getfield 257, 3, 0, 12, 17, 0), (15, .iconst 1, 1, 0, 0, 0, 0), (16, .isub, 1, 0, 0, 0, 0), (17, .iaload, 1, 0, 0, 0, 0), (18, .invokestatic 260, 3, 2, 299, 0, 0), (21, .iload_n 1, 1, 0, 0, 0, 0), (22, .if_icmp .lt 32, 3, 0, 0, 0, 0), (25, .aload_n 0, 1, 0, 0, 0, 0), (26, .dup, 1, 0, 0, 0, 0), (27, .getfield 257, 3, 0, 12, 17, 0), (30, .iconst 1, 1, 0, 0, 0, 0), (31, .isub, 1, 0, 0, 0, 0), (32, .putfield 257, 3, 0, 12, 17, 0), (35, .aload_n 0, 1, 0, 0, 0, 0), (36, .bipush (-100), 2, 0, 0, 0, 0), (38, .aload_n 0, 1, 0, 0, 0, 0), (39, .getfield 33, 3, 0, 12, 10, 0), (42, .aload_n 0, 1, 0, 0, 0, 0), (43, .getfield 257, 3, 0, 12, 17, 0), (46, .iaload, 1, 0, 0, 0, 0), (47, .isub, 1, 0, 0, 0, 0), (48, .invokevirtual 263, 3, 2, 297, 0, 0), (51, .goto (-51), 3, 0, 0, 0, 0), (54, .return_, 1, 0, 0, 0, 0)]
set_option maxRecDepth 100000 in
theorem sx_k298 : sx_c298.all (sx_chk 12 prog_14_method_79_code) = true := by decide +kernel
def sx_c299 : List sx_I := [(0, .iload_n 0, 1, 0, 0, 0, 0), (1, .bipush 13, 2, 0, 0, 0, 0), (3, .if_icmp .ne 7, 3, 0, 0, 0, 0), (6, .iconst 1, 1, 0, 0, 0, 0), (7, .goto 60, 3, 0, 0, 0, 0), (10, .iload_n 0, 1, 0, 0, 0, 0), (11, .bipush 14, 2, 0, 0, 0, 0), (13, .if_icmp .ne 7, 3, 0, 0, 0, 0), (16, .iconst 2, 1, 0, 0, 0, 0), (17, .goto 50, 3, 0, 0, 0, 0), (20, .iload_n 0, 1, 0, 0, 0, 0), (21, .bipush 15, 2, 0, 0, 0, 0), (23, .if_icmp .ne 7, 3, 0, 0, 0, 0), (26, .iconst 3, 1, 0, 0, 0, 0), (27, .goto 40, 3, 0, 0, 0, 0), (30, .iload_n 0, 1, 0, 0, 0, 0), (31, .sipush 160, 3, 0, 0, 0, 0), (34, .if_icmp .eq 10, 3, 0, 0, 0, 0), (37, .iload_n 0, 1, 0, 0, 0, 0), (38, .sipush 161, 3, 0, 0, 0, 0), (41, .if_icmp .ne 7, 3, 0, 0, 0, 0), (44, .iconst 4, 1, 0, 0, 0, 0), (45, .goto 22, 3, 0, 0, 0, 0), (48, .iload_n 0, 1, 0, 0, 0, 0), (49, .sipush 143, 3, 0, 0, 0, 0), (52, .if_icmp .eq 10, 3, 0, 0, 0, 0), (55, .iload_n 0, 1, 0, 0, 0, 0), (56, .sipush 145, 3, 0, 0, 0, 0), (59, .if_icmp .ne 7, 3, 0, 0, 0, 0), (62, .iconst 5, 1, 0, 0, 0, 0), (63, .goto 4, 3, 0, 0, 0, 0), (66, .iconst 0, 1, 0, 0, 0, 0), (67, .ireturn, 1, 0, 0, 0, 0)]
set_option maxRecDepth 100000 in
theorem sx_k299 : sx_c299.all (sx_chk 12 prog_14_method_77_code) = true := by decide +kernel
end
section
/-! ===== printed by wip/gen_code.py: the methods' instructions ===== -/
def sx_c300 : List sx_I := [(0, .aload_n 0, 1, 0, 0, 0, 0), (1, .getfield 257, 3, 0, 12, 17, 0), (4, .iconst 1, 1, 0, 0, 0, 0), (5, .isub, 1, 0, 0, 0, 0), (6, .istore_n 1, 1, 0, 0, 0, 0), (7, .iload_n 1, 1, 0, 0, 0, 0), (8, .ifCond .lt 22, 3, 0, 0, 0, 0), (11, .aload_n 0, 1, 0, 0, 0, 0), (12, .getfield 33, 3, 0, 12, 10, 0), (15, .iload_n 1, 1, 0, 0, 0, 0), (16, .iaload, 1, 0, 0, 0, 0), (17, .invokestatic 260, 3, 2, 299, 0, 0), (20, .iconst 4, 1, 0, 0, 0, 0), (21, .if_icmp .le 9, 3, 0, 0, 0, 0), (24, .iinc 1 (-1), 3, 0, 0, 0, 0), (27, .goto (-20), 3, 0, 0, 0, 0), (30, .iload_n 1, 1, 0, 0, 0, 0), (31, .ifCond .lt 20, 3, 0, 0, 0, 0), (34, .aload_n 0, 1, 0, 0, 0, 0), (35, .getfield 33, 3, 0, 12, 10, 0), (38, .iload_n 1, 1, 0, 0, 0, 0), (39, .iaload, 1, 0, 0, 0, 0), (40, .invokestatic 260, 3, 2, 299, 0, 0), (43, .iconst 4, 1, 0, 0, 0, 0), (44, .if_icmp .ne 7, 3, 0, 0, 0, 0), (47, .iconst 1, 1, 0, 0, 0, 0), (48, .goto 4, 3, 0, 0, 0, 0), (51, .iconst 0, 1, 0, 0, 0, 0), (52, .ireturn, 1, 0, 0, 0, 0)]
set_option maxRecDepth 100000 in
theorem sx_k300 : sx_c300.all (sx_chk 12 prog_14_method_81_code) = true := by decide +kernel
def sx_c301 : List sx_I := [(0, .iload_n 1, 1, 0, 0, 0, 0), (1, .iconst 0, 1, 0, 0, 0, 0), (2, .iconst 4, 1, 0, 0, 0, 0), (3, .invokestatic 68, 3, 2, 220, 0, 0), (6, .ifCond .eq 11, 3, 0, 0, 0, 0), (9, .aload_n 0, 1, 0, 0, 0, 0), (10, .iload_n 2, 1, 0, 0, 0, 0), (11, .invokevirtual 86, 3, 2, 225, 0, 0), (14, .ifCond .ne 10, 3, 0, 0, 0, 0), (17, .aload_n 0, 1, 0, 0, 0, 0), (18, .ldc 76, 2, 6, 0, 0, -100001), (20, .invokevirtual 77, 3, 2, 221, 0, 0), (23, .ireturn, 1, 0, 0, 0, 0), (24, .aload_n 0, 1, 0, 0, 0, 0), (25, .getfield 7, 3, 0, 12, 0, 0), (28, .sipush 528, 3, 0, 0, 0, 0), (31, .sipush 489, 3, 0, 0, 0, 0), (34, .iload_n 1, 1, 0, 0, 0, 0), (35, .imul, 1, 0, 0, 0, 0), (36, .iadd, 1, 0, 0, 0, 0), (37, .iaload, 1, 0, 0, 0, 0), (38, .ifCond .eq 11, 3, 0, 0, 0, 0), (41, .aload_n 0, 1, 0, 0, 0, 0), (42, .iload_n 2, 1, 0, 0, 0, 0), (43, .invokevirtual 111, 3, 2, 239, 0, 0), (46, .ifCond .eq 10, 3, 0, 0, 0, 0), (49, .aload_n 0, 1, 0, 0, 0, 0), (50, .ldc 114, 2, 6, 0, 0, -100006), (52, .invokevirtual 77, 3, 2, 221, 0, 0), (55, .ireturn, 1, 0, 0, 0, 0), (56, .aload_n 0, 1, 0, 0, 0, 0), (57, .getfield 7, 3, 0, 12, 0, 0), (60, .bipush 7, 2, 0, 0, 0, 0), (62, .iaload, 1, 0, 0, 0, 0), (63, .istore_n 3, 1, 0, 0, 0, 0), (64, .iload_n 3, 1, 0, 0, 0, 0), (65, .bipush 12, 2, 0, 0, 0, 0), (67, .if_icmp .ne 10, 3, 0, 0, 0, 0), (70, .aload_n 0, 1, 0, 0, 0, 0), (71, .ldc 81, 2, 6, 0, 0, -100005), (73, .invokevirtual 77, 3, 2, 221, 0, 0), (76, .ireturn, 1, 0, 0, 0, 0), (77, .aload_n 0, 1, 0, 0, 0, 0), (78, .iload_n 2, 1, 0, 0, 0, 0), (79, .aload_n 0, 1, 0, 0, 0, 0), (80, .invokevirtual 101, 3, 2, 233, 0, 0), (83, .invokevirtual 105, 3, 2, 236, 0, 0), (86, .istore 4, 2, 0, 0, 0, 0), (88, .aload_n 0, 1, 0, 0, 0, 0), (89, .getfield 7, 3, 0, 12, 0, 0), (92, .bipush 7, 2, 0, 0, 0, 0), (94, .dup2, 1, 0, 0, 0, 0), (95, .iaload, 1, 0, 0, 0, 0), (96, .iconst 1, 1, 0, 0, 0, 0), (97, .iadd, 1, 0, 0, 0, 0), (98, .iastore, 1, 0, 0, 0, 0), (99, .aload_n 0, 1, 0, 0, 0, 0), (100, .getfield 7, 3, 0, 12, 0, 0), (103, .sipush 504, 3, 0, 0, 0, 0), (106, .iconst 2, 1, 0, 0, 0, 0), (107, .iload_n 3, 1, 0, 0, 0, 0), (108, .imul, 1, 0, 0, 0, 0), (109, .iadd, 1, 0, 0, 0, 0), (110, .iload 4, 2, 0, 0, 0, 0), (112, .iastore, 1, 0, 0, 0, 0), (113, .aload_n 0, 1, 0, 0, 0, 0), (114, .getfield 7, 3, 0, 12, 0, 0), (117, .sipush 504, 3, 0, 0, 0, 0), (120, .iconst 2, 1, 0, 0, 0, 0), (121, .iload_n 3, 1, 0, 0, 0, 0), (122, .imul, 1, 0, 0, 0, 0), (123, .iadd, 1, 0, 0, 0, 0), (124, .iconst 1, 1, 0, 0, 0, 0), (125, .iadd, 1, 0, 0, 0, 0), (126, .iload_n 1, 1, 0, 0, 0, 0), (127, .iastore, 1, 0, 0, 0, 0), (128, .aload_n 0, 1, 0, 0, 0, 0), (129, .bipush 6, 2, 0, 0, 0, 0), (131, .iload_n 3, 1, 0, 0, 0, 0), (132, .iload 4, 2, 0, 0, 0, 0), (134, .invokevirtual 153, 3, 2, 255, 0, 0), (137, .iload_n 3, 1, 0, 0, 0, 0), (138, .ireturn, 1, 0, 0, 0, 0)]
set_option maxRecDepth 100000 in
theorem sx_k301 : sx_c301.all (sx_chk 12 prog_14_method_87_code) = true := by decide +kernel
def sx_c302 : List sx_I := [(0, .aload_n 0, 1, 0, 0, 0, 0), (1, .iload_n 1, 1, 0, 0, 0, 0), (2, .invokevirtual 86, 3, 2, 225, 0, 0), (5, .ifCond .ne 10, 3, 0, 0, 0, 0), (8, .aload_n 0, 1, 0, 0, 0, 0), (9, .ldc 76, 2, 6, 0, 0, -100001), (11, .invokevirtual 77, 3, 2, 221, 0, 0), (14, .ireturn, 1, 0, 0, 0, 0), (15, .aload_n 0, 1, 0, 0, 0, 0), (16, .iload_n 1, 1, 0, 0, 0, 0), (17, .invokevirtual 111, 3, 2, 239, 0, 0), (20, .ifCond .eq 7, 3, 0, 0, 0, 0), (23, .iconst (-1), 1, 0, 0, 0, 0), (24, .goto 16, 3, 0, 0, 0, 0), (27, .aload_n 0, 1, 0, 0, 0, 0), (28, .aload_n 0, 1, 0, 0, 0, 0), (29, .iload_n 1, 1, 0, 0, 0, 0), (30, .aload_n 0, 1, 0, 0, 0, 0), (31, .invokevirtual 101, 3, 2, 233, 0, 0), (34, .invokevirtual 105, 3, 2, 236, 0, 0), (37, .invokevirtual 288, 3, 2, 303, 0, 0), (40, .istore_n 2, 1, 0, 0, 0, 0), (41, .iload_n 2, 1, 0, 0, 0, 0), (42, .ifCond .ge 12, 3, 0, 0, 0, 0), (45, .aload_n 0, 1, 0, 0, 0, 0), (46, .ldc 114, 2, 6, 0, 0, -100006), (48, .invokevirtual 77, 3, 2, 221, 0, 0), (51, .goto 4, 3, 0, 0, 0, 0), (54, .iload_n 2, 1, 0, 0, 0, 0), (55, .ireturn, 1, 0, 0, 0, 0)]
set_option maxRecDepth 100000 in
theorem sx_k302 : sx_c302.all (sx_chk 12 prog_14_method_89_code) = true := by decide +kernel
def sx_c303 : List sx_I := [(0, .iconst (-1), 1, 0, 0, 0, 0), (1, .istore_n 2, 1, 0, 0, 0, 0), (2, .iconst 0, 1, 0, 0, 0, 0), (3, .istore_n 3, 1, 0, 0, 0, 0), (4, .iload_n 3, 1, 0, 0, 0, 0), (5, .aload_n 0, 1, 0, 0, 0, 0), (6, .getfield 7, 3, 0, 12, 0, 0), (9, .bipush 7, 2, 0, 0, 0, 0), (11, .iaload, 1, 0, 0, 0, 0), (12, .if_icmp .ge 32, 3, 0, 0, 0, 0), (15, .aload_n 0, 1, 0, 0, 0, 0), (16, .getfield 7, 3, 0, 12, 0, 0), (19, .sipush 504, 3, 0, 0, 0, 0), (22, .iconst 2, 1, 0, 0, 0, 0), (23, .iload_n 3, 1, 0, 0, 0, 0), (24, .imul, 1, 0, 0, 0, 0), (25, .iadd, 1, 0, 0, 0, 0), (26, .iaload, 1, 0, 0, 0, 0), (27, .iload_n 1, 1, 0, 0, 0, 0), (28, .iand, 1, 0, 0, 0, 0), (29, .ifCond .eq 7, 3, 0, 0, 0, 0), (32, .iload_n 3, 1, 0, 0, 0, 0), (33, .goto 4, 3, 0, 0, 0, 0), (36, .iload_n 2, 1, 0, 0, 0, 0), (37, .istore_n 2, 1, 0, 0, 0, 0), (38, .iinc 3 1, 3, 0, 0, 0, 0), (41, .goto (-37), 3, 0, 0, 0, 0), (44, .iload_n 2, 1, 0, 0, 0, 0), (45, .ireturn, 1, 0, 0, 0, 0)]
set_option maxRecDepth 100000 in
theorem sx_k303 : sx_c303.all (sx_chk 12 prog_14_method_88_code) = true := by decide +kernel
def sx_c304 : List sx_I := [(0, .aload_n 0, 1, 0, 0, 0, 0), (1, .iload_n 1, 1, 0, 0, 0, 0), (2, .invokevirtual 169, 3, 2, 257, 0, 0), (5, .ifCond .ne 10, 3, 0, 0, 0, 0), (8, .aload_n 0, 1, 0, 0, 0, 0), (9, .ldc 76, 2, 6, 0, 0, -100001), (11, .invokevirtual 77, 3, 2, 221, 0, 0), (14, .ireturn, 1, 0, 0, 0, 0), (15, .aload_n 0, 1, 0, 0, 0, 0), (16, .iload_n 1, 1, 0, 0, 0, 0), (17, .invokevirtual 140, 3, 2, 234, 0, 0), (20, .ifCond .ne 10, 3, 0, 0, 0, 0), (23, .aload_n 0, 1, 0, 0, 0, 0), (24, .ldc 114, 2, 6, 0, 0, -100006), (26, .invokevirtual 77, 3, 2, 221, 0, 0), (29, .ireturn, 1, 0, 0, 0, 0), (30, .aload_n 0, 1, 0, 0, 0, 0), (31, .aload_n 0, 1, 0, 0, 0, 0), (32, .iload_n 1, 1, 0, 0, 0, 0), (33, .iconst 0, 1, 0, 0, 0, 0), (34, .invokevirtual 137, 3, 2, 235, 0, 0), (37, .aload_n 0, 1, 0, 0, 0, 0), (38, .invokevirtual 101, 3, 2, 233, 0, 0), (41, .invokevirtual 105, 3, 2, 236, 0, 0), (44, .istore_n 2, 1, 0, 0, 0, 0), (45, .aload_n 0, 1, 0, 0, 0, 0), (46, .iload_n 2, 1, 0, 0, 0, 0), (47, .invokevirtual 288, 3, 2, 303, 0, 0), (50, .istore_n 3, 1, 0, 0, 0, 0), (51, .iload_n 3, 1, 0, 0, 0, 0), (52, .ifCond .lt 22, 3, 0, 0, 0, 0), (55, .aload_n 0, 1, 0, 0, 0, 0), (56, .iload_n 3, 1, 0, 0, 0, 0), (57, .iload_n 1, 1, 0, 0, 0, 0), (58, .iconst 0, 1, 0, 0, 0, 0), (59, .iload_n 2, 1, 0, 0, 0, 0), (60, .invokevirtual 300, 3, 2, 305, 0, 0), (63, .ifCond .ne 11, 3, 0, 0, 0, 0), (66, .aload_n 0, 1, 0, 0, 0, 0), (67, .ldc_w 304, 3, 6, 0, 0, -100009), (70, .invokevirtual 77, 3, 2, 221, 0, 0), (73, .ireturn, 1, 0, 0, 0, 0), (74, .aload_n 0, 1, 0, 0, 0, 0), (75, .iconst 2, 1, 0, 0, 0, 0), (76, .iload_n 1, 1, 0, 0, 0, 0), (77, .iload_n 2, 1, 0, 0, 0, 0), (78, .invokevirtual 153, 3, 2, 255, 0, 0), (81, .aload_n 0, 1, 0, 0, 0, 0), (82, .getfield 7, 3, 0, 12, 0, 0), (85, .sipush 248, 3, 0, 0, 0, 0), (88, .bipush 8, 2, 0, 0, 0, 0), (90, .iload_n 1, 1, 0, 0, 0, 0), (91, .imul, 1, 0, 0, 0, 0), (92, .iadd, 1, 0, 0, 0, 0), (93, .bipush 7, 2, 0, 0, 0, 0), (95, .iadd, 1, 0, 0, 0, 0), (96, .iconst 0, 1, 0, 0, 0, 0), (97, .iastore, 1, 0, 0, 0, 0), (98, .aload_n 0, 1, 0, 0, 0, 0), (99, .invokevirtual 143, 3, 2, 250, 0, 0), (102, .ireturn, 1, 0, 0, 0, 0)]
set_option maxRecDepth 100000 in
theorem sx_k304 : sx_c304.all (sx_chk 12 prog_14_method_93_code) = true := by decide +kernel
def sx_c305 : List sx_I := [(0, .aload_n 0, 1, 0, 0, 0, 0), (1, .iload 4, 2, 0, 0, 0, 0), (3, .invokevirtual 291, 3, 2, 306, 0, 0), (6, .aload_n 0, 1, 0, 0, 0, 0), (7, .invokevirtual 172, 3, 2, 259, 0, 0), (10, .aload_n 0, 1, 0, 0, 0, 0), (11, .getfield 36, 3, 0, 12, 11, 0), (14, .iconst 0, 1, 0, 0, 0, 0), (15, .iload_n 3, 1, 0, 0, 0, 0), (16, .iastore, 1, 0, 0, 0, 0), (17, .aload_n 0, 1, 0, 0, 0, 0), (18, .getfield 36, 3, 0, 12, 11, 0), (21, .iconst 1, 1, 0, 0, 0, 0), (22, .aload_n 0, 1, 0, 0, 0, 0), (23, .iload_n 2, 1, 0, 0, 0, 0), (24, .aload_n 0, 1, 0, 0, 0, 0), (25, .invokevirtual 101, 3, 2, 233, 0, 0), (28, .iload_n 3, 1, 0, 0, 0, 0), (29, .invokevirtual 162, 3, 2, 264, 0, 0), (32, .iastore, 1, 0, 0, 0, 0), (33, .aload_n 0, 1, 0, 0, 0, 0), (34, .getfield 36, 3, 0, 12, 11, 0), (37, .iconst 2, 1, 0, 0, 0, 0), (38, .aload_n 0, 1, 0, 0, 0, 0), (39, .iload_n 2, 1, 0, 0, 0, 0), (40, .invokevirtual 166, 3, 2, 258, 0, 0), (43, .iastore, 1, 0, 0, 0, 0), (44, .aload_n 0, 1, 0, 0, 0, 0), (45, .getfield 36, 3, 0, 12, 11, 0), (48, .iconst 3, 1, 0, 0, 0, 0), (49, .aload_n 0, 1, 0, 0, 0, 0), (50, .iload_n 2, 1, 0, 0, 0, 0), (51, .iconst 5, 1, 0, 0, 0, 0), (52, .invokevirtual 137, 3, 2, 235, 0, 0), (55, .iastore, 1, 0, 0, 0, 0), (56, .aload_n 0, 1, 0, 0, 0, 0), (57, .getfield 36, 3, 0, 12, 11, 0), (60, .iconst 4, 1, 0, 0, 0, 0), (61, .aload_n 0, 1, 0, 0, 0, 0), (62, .aload_n 0, 1, 0, 0, 0, 0), (63, .iload_n 2, 1, 0, 0, 0, 0), (64, .iconst 0, 1, 0, 0, 0, 0), (65, .invokevirtual 137, 3, 2, 235, 0, 0), (68, .aload_n 0, 1, 0, 0, 0, 0), (69, .iload_n 2, 1, 0, 0, 0, 0), (70, .iconst 1, 1, 0, 0, 0, 0), (71, .invokevirtual 137, 3, 2, 235, 0, 0), (74, .invokevirtual 294, 3, 2, 307, 0, 0), (77, .iastore, 1, 0, 0, 0, 0), (78, .aload_n 0, 1, 0, 0, 0, 0), (79, .iload_n 1, 1, 0, 0, 0, 0), (80, .iconst 1, 1, 0, 0, 0, 0), (81, .invokevirtual 297, 3, 2, 308, 0, 0), (84, .ireturn, 1, 0, 0, 0, 0)]
set_option maxRecDepth 100000 in
theorem sx_k305 : sx_c305.all (sx_chk 12 prog_14_method_92_code) = true := by decide +kernel
def sx_c306 : List sx_I := [(0, .iconst 0, 1, 0, 0, 0, 0), (1, .istore_n 2, 1, 0, 0, 0, 0), (2, .iload_n 2, 1, 0, 0, 0, 0), (3, .bipush 9, 2, 0, 0, 0, 0), (5, .if_icmp .ge 16, 3, 0, 0, 0, 0), (8, .aload_n 0, 1, 0, 0, 0, 0), (9, .getfield 36, 3, 0, 12, 11, 0), (12, .iload_n 2, 1, 0, 0, 0, 0), (13, .iconst 0, 1, 0, 0, 0, 0), (14, .iastore, 1, 0, 0, 0, 0), (15, .iinc 2 1, 3, 0, 0, 0, 0), (18, .goto (-16), 3, 0, 0, 0, 0), (21, .aload_n 0, 1, 0, 0, 0, 0), (22, .getfield 36, 3, 0, 12, 11, 0), (25, .iconst 5, 1, 0, 0, 0, 0), (26, .aload_n 0, 1, 0, 0, 0, 0), (27, .iload_n 1, 1, 0, 0, 0, 0), (28, .invokevirtual 218, 3, 2, 284, 0, 0), (31, .iastore, 1, 0, 0, 0, 0), (32, .aload_n 0, 1, 0, 0, 0, 0), (33, .getfield 36, 3, 0, 12, 11, 0), (36, .bipush 6, 2, 0, 0, 0, 0), (38, .aload_n 0, 1, 0, 0, 0, 0), (39, .iload_n 1, 1, 0, 0, 0, 0), (40, .invokevirtual 221, 3, 2, 285, 0, 0), (43, .iastore, 1, 0, 0, 0, 0), (44, .aload_n 0, 1, 0, 0, 0, 0), (45, .getfield 36, 3, 0, 12, 11, 0), (48, .bipush 7, 2, 0, 0, 0, 0), (50, .aload_n 0, 1, 0, 0, 0, 0), (51, .getfield 7, 3, 0, 12, 0, 0), (54, .iconst 3, 1, 0, 0, 0, 0), (55, .iaload, 1, 0, 0, 0, 0), (56, .iastore, 1, 0, 0, 0, 0), (57, .return_, 1, 0, 0, 0, 0)]
set_option maxRecDepth 100000 in
theorem sx_k306 : sx_c306.all (sx_chk 12 prog_14_method_90_code) = true := by decide +kernel
def sx_c307 : List sx_I := [(0, .iconst 0, 1, 0, 0, 0, 0), (1, .istore_n 3, 1, 0, 0, 0, 0), (2, .iconst 0, 1, 0, 0, 0, 0), (3, .istore 4, 2, 0, 0, 0, 0), (5, .iload 4, 2, 0, 0, 0, 0), (7, .aload_n 0, 1, 0, 0, 0, 0), (8, .getfield 7, 3, 0, 12, 0, 0), (11, .iconst 1, 1, 0, 0, 0, 0), (12, .iaload, 1, 0, 0, 0, 0), (13, .if_icmp .ge 75, 3, 0, 0, 0, 0), (16, .iconst 0, 1, 0, 0, 0, 0), (17, .istore 5, 2, 0, 0, 0, 0), (19, .iload 5, 2, 0, 0, 0, 0), (21, .aload_n 0, 1, 0, 0, 0, 0), (22, .getfield 7, 3, 0, 12, 0, 0), (25, .iconst 1, 1, 0, 0, 0, 0), (26, .iaload, 1, 0, 0, 0, 0), (27, .if_icmp .ge 55, 3, 0, 0, 0, 0), (30, .iload_n 3, 1, 0, 0, 0, 0), (31, .iload 4, 2, 0, 0, 0, 0), (33, .iload 5, 2, 0, 0, 0, 0), (35, .if_icmp .eq 38, 3, 0, 0, 0, 0), (38, .aload_n 0, 1, 0, 0, 0, 0), (39, .iload 4, 2, 0, 0, 0, 0), (41, .iload_n 1, 1, 0, 0, 0, 0), (42, .invokevirtual 91, 3, 2, 229, 0, 0), (45, .ifCond .eq 28, 3, 0, 0, 0, 0), (48, .aload_n 0, 1, 0, 0, 0, 0), (49, .iload 5, 2, 0, 0, 0, 0), (51, .iload_n 2, 1, 0, 0, 0, 0), (52, .invokevirtual 91, 3, 2, 229, 0, 0), (55, .ifCond .eq 18, 3, 0, 0, 0, 0), (58, .aload_n 0, 1, 0, 0, 0, 0), (59, .iload 4, 2, 0, 0, 0, 0), (61, .iload 5, 2, 0, 0, 0, 0), (63, .invokevirtual 134, 3, 2, 247, 0, 0), (66, .ifCond .eq 7, 3, 0, 0, 0, 0), (69, .iconst 1, 1, 0, 0, 0, 0), (70, .goto 4, 3, 0, 0, 0, 0), (73, .iconst 0, 1, 0, 0, 0, 0), (74, .iadd, 1, 0, 0, 0, 0), (75, .istore_n 3, 1, 0, 0, 0, 0), (76, .iinc 5 1, 3, 0, 0, 0, 0), (79, .goto (-60), 3, 0, 0, 0, 0), (82, .iinc 4 1, 3, 0, 0, 0, 0), (85, .goto (-80), 3, 0, 0, 0, 0), (88, .iload_n 3, 1, 0, 0, 0, 0), (89, .ireturn, 1, 0, 0, 0, 0)]
set_option maxRecDepth 100000 in
theorem sx_k307 : sx_c307.all (sx_chk 12 prog_14_method_91_code) = true := by decide +kernel
def sx_c308 : List sx_I := [(0, .sipush 528, 3, 0, 0, 0, 0), (3, .sipush 489, 3, 0, 0, 0, 0), (6, .aload_n 0, 1, 0, 0, 0, 0), (7, .getfield 7, 3, 0, 12, 0, 0), (10, .sipush 504, 3, 0, 0, 0, 0), (13, .iconst 2, 1, 0, 0, 0, 0), (14, .iload_n 1, 1, 0, 0, 0, 0), (15, .imul, 1, 0, 0, 0, 0), (16, .iadd, 1, 0, 0, 0, 0), (17, .iconst 1, 1, 0, 0, 0, 0), (18, .iadd, 1, 0, 0, 0, 0), (19, .iaload, 1, 0, 0, 0, 0), (20, .imul, 1, 0, 0, 0, 0), (21, .iadd, 1, 0, 0, 0, 0), (22, .sipush 163, 3, 0, 0, 0, 0), (25, .iload_n 2, 1, 0, 0, 0, 0), (26, .imul, 1, 0, 0, 0, 0), (27, .iadd, 1, 0, 0, 0, 0), (28, .istore_n 3, 1, 0, 0, 0, 0), (29, .iconst 0, 1, 0, 0, 0, 0), (30, .istore 4, 2, 0, 0, 0, 0), (32, .iload_n 3, 1, 0, 0, 0, 0), (33, .iconst 1, 1, 0, 0, 0, 0), (34, .iadd, 1, 0, 0, 0, 0), (35, .istore 5, 2, 0, 0, 0, 0), (37, .iload 5, 2, 0, 0, 0, 0), (39, .iload_n 3, 1, 0, 0, 0, 0), (40, .aload_n 0, 1, 0, 0, 0, 0), (41, .getfield 7, 3, 0, 12, 0, 0), (44, .iload_n 3, 1, 0, 0, 0, 0), (45, .iaload, 1, 0, 0, 0, 0), (46, .iadd, 1, 0, 0, 0, 0), (47, .if_icmp .gt 129, 3, 0, 0, 0, 0), (50, .aload_n 0, 1, 0, 0, 0, 0), (51, .getfield 7, 3, 0, 12, 0, 0), (54, .iload 5, 2, 0, 0, 0, 0), (56, .iaload, 1, 0, 0, 0, 0), (57, .istore 6, 2, 0, 0, 0, 0), (59, .iload 6, 2, 0, 0, 0, 0), (61, .bipush (-100), 2, 0, 0, 0, 0), (63, .if_icmp .le 35, 3, 0, 0, 0, 0), (66, .aload_n 0, 1, 0, 0, 0, 0), (67, .getfield 39, 3, 0, 12, 18, 0), (70, .iload 4, 2, 0, 0, 0, 0), (72, .iload 6, 2, 0, 0, 0, 0), (74, .ifCond .ge 15, 3, 0, 0, 0, 0), (77, .aload_n 0, 1, 0, 0, 0, 0), (78, .getfield 36, 3, 0, 12, 11, 0), (81, .iconst (-1), 1, 0, 0, 0, 0), (82, .iload 6, 2, 0, 0, 0, 0), (84, .isub, 1, 0, 0, 0, 0), (85, .iaload, 1, 0, 0, 0, 0), (86, .goto 5, 3, 0, 0, 0, 0), (89, .iload 6, 2, 0, 0, 0, 0), (91, .iastore, 1, 0, 0, 0, 0), (92, .iinc 4 1, 3, 0, 0, 0, 0), (95, .goto 75, 3, 0, 0, 0, 0), (98, .iload 6, 2, 0, 0, 0, 0), (100, .bipush (-115), 2, 0, 0, 0, 0), (102, .if_icmp .ne 32, 3, 0, 0, 0, 0), (105, .aload_n 0, 1, 0, 0, 0, 0), (106, .getfield 39, 3, 0, 12, 18, 0), (109, .iload 4, 2, 0, 0, 0, 0), (111, .iconst 1, 1, 0, 0, 0, 0), (112, .isub, 1, 0, 0, 0, 0), (113, .aload_n 0, 1, 0, 0, 0, 0), (114, .getfield 39, 3, 0, 12, 18, 0), (117, .iload 4, 2, 0, 0, 0, 0), (119, .iconst 1, 1, 0, 0, 0, 0), (120, .isub, 1, 0, 0, 0, 0), (121, .iaload, 1, 0, 0, 0, 0), (122, .ifCond .ne 7, 3, 0, 0, 0, 0), (125, .iconst 1, 1, 0, 0, 0, 0), (126, .goto 4, 3, 0, 0, 0, 0), (129, .iconst 0, 1, 0, 0, 0, 0), (130, .iastore, 1, 0, 0, 0, 0), (131, .goto 39, 3, 0, 0, 0, 0), (134, .iinc 4 (-1), 3, 0, 0, 0, 0), (137, .aload_n 0, 1, 0, 0, 0, 0), (138, .getfield 39, 3, 0, 12, 18, 0), (141, .iload 4, 2, 0, 0, 0, 0), (143, .iconst 1, 1, 0, 0, 0, 0), (144, .isub, 1, 0, 0, 0, 0), (145, .bipush (-100), 2, 0, 0, 0, 0), (147, .iload 6, 2, 0, 0, 0, 0), (149, .isub, 1, 0, 0, 0, 0), (150, .aload_n 0, 1, 0, 0, 0, 0), (151, .getfield 39, 3, 0, 12, 18, 0), (154, .iload 4, 2, 0, 0, 0, 0), (156, .iconst 1, 1, 0, 0, 0, 0), (157, .isub, 1, 0, 0, 0, 0), (158, .iaload, 1, 0, 0, 0, 0), (159, .aload_n 0, 1, 0, 0, 0, 0), (160, .getfield 39, 3, 0, 12, 18, 0), (163, .iload 4, 2, 0, 0, 0, 0), (165, .iaload, 1, 0, 0, 0, 0), (166, .invokestatic 285, 3, 2, 309, 0, 0), (169, .iastore, 1, 0, 0, 0, 0), (170, .iinc 5 1, 3, 0, 0, 0, 0), (173, .goto (-136), 3, 0, 0, 0, 0), (176, .aload_n 0, 1, 0, 0, 0, 0), (177, .getfield 39, 3, 0, 12, 18, 0), (180, .iconst 0, 1, 0, 0, 0, 0), (181, .iaload, 1, 0, 0, 0, 0), (182, .ireturn, 1, 0, 0, 0, 0)]
set_option maxRecDepth 100000 in
theorem sx_k308 : sx_c308.all (sx_chk 12 prog_14_method_86_code) = true := by decide +kernel
def sx_c309 : List sx_I := [(0, .iload_n 0, 1, 0, 0, 0, 0), (1, .lookupswitch 105 #[(13, 51), (14, 65), (143, 101), (160, 79), (161, 90)], 51, 0, 0, 0, 0), (52, .iload_n 1, 1, 0, 0, 0, 0), (53, .ifCond .ne 7, 3, 0, 0, 0, 0), (56, .iload_n 2, 1, 0, 0, 0, 0), (57, .ifCond .eq 7, 3, 0, 0, 0, 0), (60, .iconst 1, 1, 0, 0, 0, 0), (61, .goto 4, 3, 0, 0, 0, 0), (64, .iconst 0, 1, 0, 0, 0, 0), (65, .ireturn, 1, 0, 0, 0, 0), (66, .iload_n 1, 1, 0, 0, 0, 0), (67, .ifCond .eq 11, 3, 0, 0, 0, 0), (70, .iload_n 2, 1, 0, 0, 0, 0), (71, .ifCond .eq 7, 3, 0, 0, 0, 0), (74, .iconst 1, 1, 0, 0, 0, 0), (75, .goto 4, 3, 0, 0, 0, 0), (78, .iconst 0, 1, 0, 0, 0, 0), (79, .ireturn, 1, 0, 0, 0, 0), (80, .iload_n 1, 1, 0, 0, 0, 0), (81, .iload_n 2, 1, 0, 0, 0, 0), (82, .if_icmp .ge 7, 3, 0, 0, 0, 0), (85, .iconst 1, 1, 0, 0, 0, 0), (86, .goto 4, 3, 0, 0, 0, 0), (89, .iconst 0, 1, 0, 0, 0, 0), (90, .ireturn, 1, 0, 0, 0, 0), (91, .iload_n 1, 1, 0, 0, 0, 0), (92, .iload_n 2, 1, 0, 0, 0, 0), (93, .if_icmp .ne 7, 3, 0, 0, 0, 0), (96, .iconst 1, 1, 0, 0, 0, 0), (97, .goto 4, 3, 0, 0, 0, 0), (100, .iconst 0, 1, 0, 0, 0, 0), (101, .ireturn, 1, 0, 0, 0, 0), (102, .iload_n 1, 1, 0, 0, 0, 0), (103, .iload_n 2, 1, 0, 0, 0, 0), (104, .iadd, 1, 0, 0, 0, 0), (105, .ireturn, 1, 0, 0, 0, 0), (106, .iload_n 1, 1, 0, 0, 0, 0), (107, .iload_n 2, 1, 0, 0, 0, 0), (108, .isub, 1, 0, 0, 0, 0), (109, .ireturn, 1, 0, 0, 0, 0)]
set_option maxRecDepth 100000 in
theorem sx_k309 : sx_c309.all (sx_chk 12 prog_14_method_85_code) = true := by decide +kernel
def sx_c310 : List sx_I := [(0, .aload_n 0, 1, 0, 0, 0, 0), (1, .iload_n 1, 1, 0, 0, 0, 0), (2, .invokevirtual 169, 3, 2, 257, 0, 0), (5, .ifCond .eq 10, 3, 0, 0, 0, 0), (8, .iload_n 2, 1, 0, 0, 0, 0), (9, .invokestatic 175, 3, 2, 263, 0, 0), (12, .ifCond .ne 10, 3, 0, 0, 0, 0), (15, .aload_n 0, 1, 0, 0, 0, 0), (16, .ldc 76, 2, 6, 0, 0, -100001), (18, .invokevirtual 77, 3, 2, 221, 0, 0), (21, .ireturn, 1, 0, 0, 0, 0), (22, .aload_n 0, 1, 0, 0, 0, 0), (23, .iload_n 1, 1, 0, 0, 0, 0), (24, .invokevirtual 140, 3, 2, 234, 0, 0), (27, .ifCond .eq 20, 3, 0, 0, 0, 0), (30, .aload_n 0, 1, 0, 0, 0, 0), (31, .aload_n 0, 1, 0, 0, 0, 0), (32, .iload_n 1, 1, 0, 0, 0, 0), (33, .iconst 0, 1, 0, 0, 0, 0), (34, .invokevirtual 137, 3, 2, 235, 0, 0), (37, .aload_n 0, 1, 0, 0, 0, 0), (38, .invokevirtual 101, 3, 2, 233, 0, 0), (41, .invokevirtual 105, 3, 2, 236, 0, 0), (44, .goto 4, 3, 0, 0, 0, 0), (47, .iconst 0, 1, 0, 0, 0, 0), (48, .istore_n 3, 1, 0, 0, 0, 0), (49, .aload_n 0, 1, 0, 0, 0, 0), (50, .iload_n 1, 1, 0, 0, 0, 0), (51, .invokevirtual 140, 3, 2, 234, 0, 0), (54, .ifCond .eq 11, 3, 0, 0, 0, 0), (57, .aload_n 0, 1, 0, 0, 0, 0), (58, .iload_n 3, 1, 0, 0, 0, 0), (59, .invokevirtual 288, 3, 2, 303, 0, 0), (62, .goto 4, 3, 0, 0, 0, 0), (65, .iconst (-1), 1, 0, 0, 0, 0), (66, .istore 4, 2, 0, 0, 0, 0), (68, .iload 4, 2, 0, 0, 0, 0), (70, .ifCond .ge 12, 3, 0, 0, 0, 0), (73, .aload_n 0, 1, 0, 0, 0, 0), (74, .ldc 114, 2, 6, 0, 0, -100006), (76, .invokevirtual 77, 3, 2, 221, 0, 0), (79, .goto 12, 3, 0, 0, 0, 0), (82, .aload_n 0, 1, 0, 0, 0, 0), (83, .iload 4, 2, 0, 0, 0, 0), (85, .iload_n 1, 1, 0, 0, 0, 0), (86, .iload_n 2, 1, 0, 0, 0, 0), (87, .iload_n 3, 1, 0, 0, 0, 0), (88, .invokevirtual 300, 3, 2, 305, 0, 0), (91, .ireturn, 1, 0, 0, 0, 0)]
set_option maxRecDepth 100000 in
theorem sx_k310 : sx_c310.all (sx_chk 12 prog_14_method_94_code) = true := by decide +kernel
def sx_c311 : List sx_I := [(0, .aload_n 0, 1, 0, 0, 0, 0), (1, .iload_n 1, 1, 0, 0, 0, 0), (2, .invokevirtual 86, 3, 2, 225, 0, 0), (5, .ifCond .eq 11, 3, 0, 0, 0, 0), (8, .aload_n 0, 1, 0, 0, 0, 0), (9, .iload_n 2, 1, 0, 0, 0, 0), (10, .invokevirtual 86, 3, 2, 225, 0, 0), (13, .ifCond .ne 10, 3, 0, 0, 0, 0), (16, .aload_n 0, 1, 0, 0, 0, 0), (17, .ldc 76, 2, 6, 0, 0, -100001), (19, .invokevirtual 77, 3, 2, 221, 0, 0), (22, .ireturn, 1, 0, 0, 0, 0), (23, .iload_n 1, 1, 0, 0, 0, 0), (24, .iload_n 2, 1, 0, 0, 0, 0), (25, .if_icmp .ne 10, 3, 0, 0, 0, 0), (28, .aload_n 0, 1, 0, 0, 0, 0), (29, .ldc 118, 2, 6, 0, 0, -100003), (31, .invokevirtual 77, 3, 2, 221, 0, 0), (34, .ireturn, 1, 0, 0, 0, 0), (35, .aload_n 0, 1, 0, 0, 0, 0), (36, .iload_n 1, 1, 0, 0, 0, 0), (37, .invokevirtual 111, 3, 2, 239, 0, 0), (40, .ifCond .ne 11, 3, 0, 0, 0, 0), (43, .aload_n 0, 1, 0, 0, 0, 0), (44, .iload_n 2, 1, 0, 0, 0, 0), (45, .invokevirtual 111, 3, 2, 239, 0, 0), (48, .ifCond .eq 10, 3, 0, 0, 0, 0), (51, .aload_n 0, 1, 0, 0, 0, 0), (52, .ldc 114, 2, 6, 0, 0, -100006), (54, .invokevirtual 77, 3, 2, 221, 0, 0), (57, .ireturn, 1, 0, 0, 0, 0), (58, .aload_n 0, 1, 0, 0, 0, 0), (59, .aload_n 0, 1, 0, 0, 0, 0), (60, .iload_n 1, 1, 0, 0, 0, 0), (61, .aload_n 0, 1, 0, 0, 0, 0), (62, .invokevirtual 101, 3, 2, 233, 0, 0), (65, .invokevirtual 105, 3, 2, 236, 0, 0), (68, .invokevirtual 288, 3, 2, 303, 0, 0), (71, .istore_n 3, 1, 0, 0, 0, 0), (72, .iload_n 3, 1, 0, 0, 0, 0), (73, .ifCond .ge 10, 3, 0, 0, 0, 0), (76, .aload_n 0, 1, 0, 0, 0, 0), (77, .ldc 114, 2, 6, 0, 0, -100006), (79, .invokevirtual 77, 3, 2, 221, 0, 0), (82, .ireturn, 1, 0, 0, 0, 0), (83, .aload_n 0, 1, 0, 0, 0, 0), (84, .aload_n 0, 1, 0, 0, 0, 0), (85, .iload_n 1, 1, 0, 0, 0, 0), (86, .aload_n 0, 1, 0, 0, 0, 0), (87, .invokevirtual 101, 3, 2, 233, 0, 0), (90, .invokevirtual 105, 3, 2, 236, 0, 0), (93, .aload_n 0, 1, 0, 0, 0, 0), (94, .iload_n 2, 1, 0, 0, 0, 0), (95, .aload_n 0, 1, 0, 0, 0, 0), (96, .invokevirtual 101, 3, 2, 233, 0, 0), (99, .invokevirtual 105, 3, 2, 236, 0, 0), (102, .ior, 1, 0, 0, 0, 0), (103, .invokevirtual 291, 3, 2, 306, 0, 0), (106, .aload_n 0, 1, 0, 0, 0, 0), (107, .getfield 36, 3, 0, 12, 11, 0), (110, .iconst 4, 1, 0, 0, 0, 0), (111, .aload_n 0, 1, 0, 0, 0, 0), (112, .iload_n 1, 1, 0, 0, 0, 0), (113, .iload_n 2, 1, 0, 0, 0, 0), (114, .invokevirtual 294, 3, 2, 307, 0, 0), (117, .iastore, 1, 0, 0, 0, 0), (118, .aload_n 0, 1, 0, 0, 0, 0), (119, .iload_n 3, 1, 0, 0, 0, 0), (120, .iconst 0, 1, 0, 0, 0, 0), (121, .invokevirtual 297, 3, 2, 308, 0, 0), (124, .ireturn, 1, 0, 0, 0, 0)]
set_option maxRecDepth 100000 in
theorem sx_k311 : sx_c311.all (sx_chk 12 prog_14_method_95_code) = true := by decide +kernel
def sx_c312 : List sx_I := [(0, .aload_n 0, 1, 0, 0, 0, 0), (1, .iload_n 1, 1, 0, 0, 0, 0), (2, .invokevirtual 86, 3, 2, 225, 0, 0), (5, .ifCond .ne 10, 3, 0, 0, 0, 0), (8, .aload_n 0, 1, 0, 0, 0, 0), (9, .ldc 76, 2, 6, 0, 0, -100001), (11, .invokevirtual 77, 3, 2, 221, 0, 0), (14, .ireturn, 1, 0, 0, 0, 0), (15, .aload_n 0, 1, 0, 0, 0, 0), (16, .iload_n 1, 1, 0, 0, 0, 0), (17, .invokevirtual 111, 3, 2, 239, 0, 0), (20, .ifCond .eq 7, 3, 0, 0, 0, 0), (23, .iconst 0, 1, 0, 0, 0, 0), (24, .goto 12, 3, 0, 0, 0, 0), (27, .aload_n 0, 1, 0, 0, 0, 0), (28, .iload_n 1, 1, 0, 0, 0, 0), (29, .aload_n 0, 1, 0, 0, 0, 0), (30, .invokevirtual 101, 3, 2, 233, 0, 0), (33, .invokevirtual 105, 3, 2, 236, 0, 0), (36, .istore_n 2, 1, 0, 0, 0, 0), (37, .aload_n 0, 1, 0, 0, 0, 0), (38, .iload_n 2, 1, 0, 0, 0, 0), (39, .invokevirtual 288, 3, 2, 303, 0, 0), (42, .istore_n 3, 1, 0, 0, 0, 0), (43, .iconst (-1), 1, 0, 0, 0, 0), (44, .istore 4, 2, 0, 0, 0, 0), (46, .iconst 0, 1, 0, 0, 0, 0), (47, .istore 5, 2, 0, 0, 0, 0), (49, .iconst 0, 1, 0, 0, 0, 0), (50, .istore 6, 2, 0, 0, 0, 0), (52, .iload 6, 2, 0, 0, 0, 0), (54, .aload_n 0, 1, 0, 0, 0, 0), (55, .getfield 7, 3, 0, 12, 0, 0), (58, .iconst 1, 1, 0, 0, 0, 0), (59, .iaload, 1, 0, 0, 0, 0), (60, .if_icmp .ge 160, 3, 0, 0, 0, 0), (63, .iload_n 3, 1, 0, 0, 0, 0), (64, .ifCond .lt 156, 3, 0, 0, 0, 0), (67, .aload_n 0, 1, 0, 0, 0, 0), (68, .iload 6, 2, 0, 0, 0, 0), (70, .invokevirtual 124, 3, 2, 230, 0, 0), (73, .ifCond .ne 141, 3, 0, 0, 0, 0), (76, .iload_n 2, 1, 0, 0, 0, 0), (77, .aload_n 0, 1, 0, 0, 0, 0), (78, .iload 6, 2, 0, 0, 0, 0), (80, .iconst 0, 1, 0, 0, 0, 0), (81, .invokevirtual 121, 3, 2, 231, 0, 0), (84, .ishr, 1, 0, 0, 0, 0), (85, .iconst 1, 1, 0, 0, 0, 0), (86, .iand, 1, 0, 0, 0, 0), (87, .ifCond .ne 6, 3, 0, 0, 0, 0), (90, .goto 124, 3, 0, 0, 0, 0), (93, .aload_n 0, 1, 0, 0, 0, 0), (94, .iload_n 2, 1, 0, 0, 0, 0), (95, .invokevirtual 291, 3, 2, 306, 0, 0), (98, .aload_n 0, 1, 0, 0, 0, 0), (99, .getfield 36, 3, 0, 12, 11, 0), (102, .bipush 8, 2, 0, 0, 0, 0), (104, .aload_n 0, 1, 0, 0, 0, 0), (105, .iload 6, 2, 0, 0, 0, 0), (107, .iconst 1, 1, 0, 0, 0, 0), (108, .invokevirtual 121, 3, 2, 231, 0, 0), (111, .iastore, 1, 0, 0, 0, 0), (112, .iconst 0, 1, 0, 0, 0, 0), (113, .istore 7, 2, 0, 0, 0, 0), (115, .iload 7, 2, 0, 0, 0, 0), (117, .aload_n 0, 1, 0, 0, 0, 0), (118, .getfield 7, 3, 0, 12, 0, 0), (121, .iconst 1, 1, 0, 0, 0, 0), (122, .iaload, 1, 0, 0, 0, 0), (123, .if_icmp .ge 60, 3, 0, 0, 0, 0), (126, .aload_n 0, 1, 0, 0, 0, 0), (127, .getfield 36, 3, 0, 12, 11, 0), (130, .iconst 4, 1, 0, 0, 0, 0), (131, .dup2, 1, 0, 0, 0, 0), (132, .iaload, 1, 0, 0, 0, 0), (133, .iload 7, 2, 0, 0, 0, 0), (135, .iload 6, 2, 0, 0, 0, 0), (137, .if_icmp .eq 37, 3, 0, 0, 0, 0), (140, .aload_n 0, 1, 0, 0, 0, 0), (141, .iload 7, 2, 0, 0, 0, 0), (143, .invokevirtual 124, 3, 2, 230, 0, 0), (146, .ifCond .ne 28, 3, 0, 0, 0, 0), (149, .aload_n 0, 1, 0, 0, 0, 0), (150, .iload 6, 2, 0, 0, 0, 0), (152, .iload 7, 2, 0, 0, 0, 0), (154, .invokevirtual 134, 3, 2, 247, 0, 0), (157, .ifCond .eq 17, 3, 0, 0, 0, 0), (160, .iload_n 2, 1, 0, 0, 0, 0), (161, .aload_n 0, 1, 0, 0, 0, 0), (162, .iload 7, 2, 0, 0, 0, 0), (164, .iconst 0, 1, 0, 0, 0, 0), (165, .invokevirtual 121, 3, 2, 231, 0, 0), (168, .ishr, 1, 0, 0, 0, 0), (169, .iconst 1, 1, 0, 0, 0, 0), (170, .iand, 1, 0, 0, 0, 0), (171, .goto 4, 3, 0, 0, 0, 0), (174, .iconst 0, 1, 0, 0, 0, 0), (175, .iadd, 1, 0, 0, 0, 0), (176, .iastore, 1, 0, 0, 0, 0), (177, .iinc 7 1, 3, 0, 0, 0, 0), (180, .goto (-65), 3, 0, 0, 0, 0), (183, .aload_n 0, 1, 0, 0, 0, 0), (184, .iload_n 3, 1, 0, 0, 0, 0), (185, .iconst 2, 1, 0, 0, 0, 0), (186, .invokevirtual 297, 3, 2, 308, 0, 0), (189, .istore 7, 2, 0, 0, 0, 0), (191, .iload 4, 2, 0, 0, 0, 0), (193, .ifCond .lt 13, 3, 0, 0, 0, 0), (196, .iload 7, 2, 0, 0, 0, 0), (198, .iload 5, 2, 0, 0, 0, 0), (200, .if_icmp .gt 6, 3, 0, 0, 0, 0), (203, .goto 11, 3, 0, 0, 0, 0), (206, .iload 6, 2, 0, 0, 0, 0), (208, .istore 4, 2, 0, 0, 0, 0), (210, .iload 7, 2, 0, 0, 0, 0), (212, .istore 5, 2, 0, 0, 0, 0), (214, .iinc 6 1, 3, 0, 0, 0, 0), (217, .goto (-165), 3, 0, 0, 0, 0), (220, .iload 4, 2, 0, 0, 0, 0), (222, .ifCond .ge 12, 3, 0, 0, 0, 0), (225, .aload_n 0, 1, 0, 0, 0, 0), (226, .ldc 114, 2, 6, 0, 0, -100006), (228, .invokevirtual 77, 3, 2, 221, 0, 0), (231, .goto 5, 3, 0, 0, 0, 0), (234, .iload 4, 2, 0, 0, 0, 0), (236, .ireturn, 1, 0, 0, 0, 0)]
set_option maxRecDepth 100000 in
theorem sx_k312 : sx_c312.all (sx_chk 12 prog_14_method_96_code) = true := by decide +kernel
def sx_c313 : List sx_I := [(0, .aload_n 0, 1, 0, 0, 0, 0), (1, .iload_n 1, 1, 0, 0, 0, 0), (2, .invokevirtual 86, 3, 2, 225, 0, 0), (5, .ifCond .eq 10, 3, 0, 0, 0, 0), (8, .iload_n 2, 1, 0, 0, 0, 0), (9, .invokestatic 175, 3, 2, 263, 0, 0), (12, .ifCond .ne 10, 3, 0, 0, 0, 0), (15, .aload_n 0, 1, 0, 0, 0, 0), (16, .ldc 76, 2, 6, 0, 0, -100001), (18, .invokevirtual 77, 3, 2, 221, 0, 0), (21, .ireturn, 1, 0, 0, 0, 0), (22, .aload_n 0, 1, 0, 0, 0, 0), (23, .iload_n 1, 1, 0, 0, 0, 0), (24, .invokevirtual 111, 3, 2, 239, 0, 0), (27, .ifCond .eq 10, 3, 0, 0, 0, 0), (30, .aload_n 0, 1, 0, 0, 0, 0), (31, .ldc 114, 2, 6, 0, 0, -100006), (33, .invokevirtual 77, 3, 2, 221, 0, 0), (36, .ireturn, 1, 0, 0, 0, 0), (37, .aload_n 0, 1, 0, 0, 0, 0), (38, .iload_n 1, 1, 0, 0, 0, 0), (39, .aload_n 0, 1, 0, 0, 0, 0), (40, .invokevirtual 101, 3, 2, 233, 0, 0), (43, .invokevirtual 105, 3, 2, 236, 0, 0), (46, .istore_n 3, 1, 0, 0, 0, 0), (47, .iconst 0, 1, 0, 0, 0, 0), (48, .istore 4, 2, 0, 0, 0, 0), (50, .iconst 0, 1, 0, 0, 0, 0), (51, .istore 5, 2, 0, 0, 0, 0), (53, .iload 5, 2, 0, 0, 0, 0), (55, .aload_n 0, 1, 0, 0, 0, 0), (56, .getfield 7, 3, 0, 12, 0, 0), (59, .iconst 2, 1, 0, 0, 0, 0), (60, .iaload, 1, 0, 0, 0, 0), (61, .if_icmp .ge 46, 3, 0, 0, 0, 0), (64, .iload 4, 2, 0, 0, 0, 0), (66, .aload_n 0, 1, 0, 0, 0, 0), (67, .iload 5, 2, 0, 0, 0, 0), (69, .invokevirtual 140, 3, 2, 234, 0, 0), (72, .ifCond .eq 25, 3, 0, 0, 0, 0), (75, .iload_n 3, 1, 0, 0, 0, 0), (76, .aload_n 0, 1, 0, 0, 0, 0), (77, .iload 5, 2, 0, 0, 0, 0), (79, .iconst 0, 1, 0, 0, 0, 0), (80, .invokevirtual 137, 3, 2, 235, 0, 0), (83, .ishr, 1, 0, 0, 0, 0), (84, .iconst 1, 1, 0, 0, 0, 0), (85, .iand, 1, 0, 0, 0, 0), (86, .iconst 1, 1, 0, 0, 0, 0), (87, .if_icmp .ne 10, 3, 0, 0, 0, 0), (90, .iconst 1, 1, 0, 0, 0, 0), (91, .iload 5, 2, 0, 0, 0, 0), (93, .ishl, 1, 0, 0, 0, 0), (94, .goto 4, 3, 0, 0, 0, 0), (97, .iconst 0, 1, 0, 0, 0, 0), (98, .ior, 1, 0, 0, 0, 0), (99, .istore 4, 2, 0, 0, 0, 0), (101, .iinc 5 1, 3, 0, 0, 0, 0), (104, .goto (-51), 3, 0, 0, 0, 0), (107, .aload_n 0, 1, 0, 0, 0, 0), (108, .invokevirtual 172, 3, 2, 259, 0, 0), (111, .iconst (-1), 1, 0, 0, 0, 0), (112, .istore 5, 2, 0, 0, 0, 0), (114, .iconst 0, 1, 0, 0, 0, 0), (115, .istore 6, 2, 0, 0, 0, 0), (117, .iload 6, 2, 0, 0, 0, 0), (119, .iconst 1, 1, 0, 0, 0, 0), (120, .aload_n 0, 1, 0, 0, 0, 0), (121, .getfield 7, 3, 0, 12, 0, 0), (124, .iconst 2, 1, 0, 0, 0, 0), (125, .iaload, 1, 0, 0, 0, 0), (126, .ishl, 1, 0, 0, 0, 0), (127, .if_icmp .ge 65, 3, 0, 0, 0, 0), (130, .iload 6, 2, 0, 0, 0, 0), (132, .iload 4, 2, 0, 0, 0, 0), (134, .iconst (-1), 1, 0, 0, 0, 0), (135, .ixor, 1, 0, 0, 0, 0), (136, .iand, 1, 0, 0, 0, 0), (137, .ifCond .ne 49, 3, 0, 0, 0, 0), (140, .iload 5, 2, 0, 0, 0, 0), (142, .ifCond .lt 19, 3, 0, 0, 0, 0), (145, .iload 6, 2, 0, 0, 0, 0), (147, .invokestatic 305, 3, 2, 314, 0, 0), (150, .iload 5, 2, 0, 0, 0, 0), (152, .invokestatic 305, 3, 2, 314, 0, 0), (155, .if_icmp .lt 6, 3, 0, 0, 0, 0), (158, .goto 28, 3, 0, 0, 0, 0), (161, .aload_n 0, 1, 0, 0, 0, 0), (162, .iload_n 1, 1, 0, 0, 0, 0), (163, .iload 6, 2, 0, 0, 0, 0), (165, .invokevirtual 105, 3, 2, 236, 0, 0), (168, .iload_n 3, 1, 0, 0, 0, 0), (169, .if_icmp .ne 17, 3, 0, 0, 0, 0), (172, .aload_n 0, 1, 0, 0, 0, 0), (173, .iload 6, 2, 0, 0, 0, 0), (175, .iload_n 2, 1, 0, 0, 0, 0), (176, .invokevirtual 308, 3, 2, 315, 0, 0), (179, .ifCond .eq 7, 3, 0, 0, 0, 0), (182, .iload 6, 2, 0, 0, 0, 0), (184, .istore 5, 2, 0, 0, 0, 0), (186, .iinc 6 1, 3, 0, 0, 0, 0), (189, .goto (-72), 3, 0, 0, 0, 0), (192, .iload 5, 2, 0, 0, 0, 0), (194, .ifCond .ge 12, 3, 0, 0, 0, 0), (197, .aload_n 0, 1, 0, 0, 0, 0), (198, .ldc 114, 2, 6, 0, 0, -100006), (200, .invokevirtual 77, 3, 2, 221, 0, 0), (203, .goto 5, 3, 0, 0, 0, 0), (206, .iload 5, 2, 0, 0, 0, 0), (208, .ireturn, 1, 0, 0, 0, 0)]
set_option maxRecDepth 100000 in
theorem sx_k313 : sx_c313.all (sx_chk 12 prog_14_method_98_code) = true := by decide +kernel
def sx_c314 : List sx_I := [(0, .iconst 0, 1, 0, 0, 0, 0), (1, .istore_n 1, 1, 0, 0, 0, 0), (2, .iload_n 0, 1, 0, 0, 0, 0), (3, .istore_n 2, 1, 0, 0, 0, 0), (4, .iload_n 2, 1, 0, 0, 0, 0), (5, .ifCond .eq 15, 3, 0, 0, 0, 0), (8, .iinc 1 1, 3, 0, 0, 0, 0), (11, .iload_n 2, 1, 0, 0, 0, 0), (12, .iload_n 2, 1, 0, 0, 0, 0), (13, .iconst 1, 1, 0, 0, 0, 0), (14, .isub, 1, 0, 0, 0, 0), (15, .iand, 1, 0, 0, 0, 0), (16, .istore_n 2, 1, 0, 0, 0, 0), (17, .goto (-13), 3, 0, 0, 0, 0), (20, .iload_n 1, 1, 0, 0, 0, 0), (21, .ireturn, 1, 0, 0, 0, 0)]
set_option maxRecDepth 100000 in
theorem sx_k314 : sx_c314.all (sx_chk 12 prog_14_method_35_code) = true := by decide +kernel
def sx_c315 : List sx_I := [(0, .aload_n 0, 1, 0, 0, 0, 0), (1, .iload_n 1, 1, 0, 0, 0, 0), (2, .iload_n 2, 1, 0, 0, 0, 0), (3, .invokevirtual 178, 3, 2, 266, 0, 0), (6, .ifCond .ge 7, 3, 0, 0, 0, 0), (9, .iconst 1, 1, 0, 0, 0, 0), (10, .goto 4, 3, 0, 0, 0, 0), (13, .iconst 0, 1, 0, 0, 0, 0), (14, .ireturn, 1, 0, 0, 0, 0)]
set_option maxRecDepth 100000 in
theorem sx_k315 : sx_c315.all (sx_chk 12 prog_14_method_97_code) = true := by decide +kernel
def sx_c316 : List sx_I := [(0, .iload_n 1, 1, 0, 0, 0, 0), (1, .invokestatic 175, 3, 2, 263, 0, 0), (4, .ifCond .ne 10, 3, 0, 0, 0, 0), (7, .aload_n 0, 1, 0, 0, 0, 0), (8, .ldc 76, 2, 6, 0, 0, -100001), (10, .invokevirtual 77, 3, 2, 221, 0, 0), (13, .ireturn, 1, 0, 0, 0, 0), (14, .aload_n 0, 1, 0, 0, 0, 0), (15, .invokevirtual 101, 3, 2, 233, 0, 0), (18, .istore_n 3, 1, 0, 0, 0, 0), (19, .aload_n 0, 1, 0, 0, 0, 0), (20, .invokevirtual 172, 3, 2, 259, 0, 0), (23, .iconst 0, 1, 0, 0, 0, 0), (24, .istore 4, 2, 0, 0, 0, 0), (26, .iload 4, 2, 0, 0, 0, 0), (28, .sipush 4096, 3, 0, 0, 0, 0), (31, .if_icmp .ge 17, 3, 0, 0, 0, 0), (34, .aload_n 0, 1, 0, 0, 0, 0), (35, .getfield 42, 3, 0, 12, 19, 0), (38, .iload 4, 2, 0, 0, 0, 0), (40, .iconst (-1), 1, 0, 0, 0, 0), (41, .iastore, 1, 0, 0, 0, 0), (42, .iinc 4 1, 3, 0, 0, 0, 0), (45, .goto (-19), 3, 0, 0, 0, 0), (48, .iconst 0, 1, 0, 0, 0, 0), (49, .istore 4, 2, 0, 0, 0, 0), (51, .bipush 100, 2, 0, 0, 0, 0), (53, .istore 5, 2, 0, 0, 0, 0), (55, .iconst 0, 1, 0, 0, 0, 0), (56, .istore 6, 2, 0, 0, 0, 0), (58, .iload 6, 2, 0, 0, 0, 0), (60, .iconst 1, 1, 0, 0, 0, 0), (61, .aload_n 0, 1, 0, 0, 0, 0), (62, .getfield 7, 3, 0, 12, 0, 0), (65, .iconst 2, 1, 0, 0, 0, 0), (66, .iaload, 1, 0, 0, 0, 0), (67, .ishl, 1, 0, 0, 0, 0), (68, .if_icmp .ge 68, 3, 0, 0, 0, 0), (71, .iload 6, 2, 0, 0, 0, 0), (73, .iload_n 3, 1, 0, 0, 0, 0), (74, .iconst (-1), 1, 0, 0, 0, 0), (75, .ixor, 1, 0, 0, 0, 0), (76, .iand, 1, 0, 0, 0, 0), (77, .ifCond .ne 53, 3, 0, 0, 0, 0), (80, .iload 6, 2, 0, 0, 0, 0), (82, .invokestatic 305, 3, 2, 314, 0, 0), (85, .iload 5, 2, 0, 0, 0, 0), (87, .if_icmp .lt 6, 3, 0, 0, 0, 0), (90, .goto 40, 3, 0, 0, 0, 0), (93, .iload 6, 2, 0, 0, 0, 0), (95, .invokestatic 305, 3, 2, 314, 0, 0), (98, .aload_n 0, 1, 0, 0, 0, 0), (99, .iload_n 3, 1, 0, 0, 0, 0), (100, .iload 6, 2, 0, 0, 0, 0), (102, .iconst (-1), 1, 0, 0, 0, 0), (103, .ixor, 1, 0, 0, 0, 0), (104, .iand, 1, 0, 0, 0, 0), (105, .iload_n 1, 1, 0, 0, 0, 0), (106, .invokevirtual 311, 3, 2, 317, 0, 0), (109, .iadd, 1, 0, 0, 0, 0), (110, .istore 7, 2, 0, 0, 0, 0), (112, .iload 7, 2, 0, 0, 0, 0), (114, .iload 5, 2, 0, 0, 0, 0), (116, .if_icmp .lt 6, 3, 0, 0, 0, 0), (119, .goto 11, 3, 0, 0, 0, 0), (122, .iload 7, 2, 0, 0, 0, 0), (124, .istore 5, 2, 0, 0, 0, 0), (126, .iload 6, 2, 0, 0, 0, 0), (128, .istore 4, 2, 0, 0, 0, 0), (130, .iinc 6 1, 3, 0, 0, 0, 0), (133, .goto (-75), 3, 0, 0, 0, 0), (136, .iload_n 2, 1, 0, 0, 0, 0), (137, .ifCond .eq 8, 3, 0, 0, 0, 0), (140, .iload 5, 2, 0, 0, 0, 0), (142, .goto 5, 3, 0, 0, 0, 0), (145, .iload 4, 2, 0, 0, 0, 0), (147, .ireturn, 1, 0, 0, 0, 0)]
set_option maxRecDepth 100000 in
theorem sx_k316 : sx_c316.all (sx_chk 12 prog_14_method_100_code) = true := by decide +kernel
def sx_c317 : List sx_I := [(0, .iload_n 1, 1, 0, 0, 0, 0), (1, .istore_n 3, 1, 0, 0, 0, 0), (2, .iconst 0, 1, 0, 0, 0, 0), (3, .istore 4, 2, 0, 0, 0, 0), (5, .aload_n 0, 1, 0, 0, 0, 0), (6, .getfield 42, 3, 0, 12, 19, 0), (9, .iload_n 3, 1, 0, 0, 0, 0), (10, .iaload, 1, 0, 0, 0, 0), (11, .ifCond .ge 41, 3, 0, 0, 0, 0), (14, .aload_n 0, 1, 0, 0, 0, 0), (15, .iload_n 3, 1, 0, 0, 0, 0), (16, .iload_n 2, 1, 0, 0, 0, 0), (17, .invokevirtual 178, 3, 2, 266, 0, 0), (20, .istore 5, 2, 0, 0, 0, 0), (22, .iload 5, 2, 0, 0, 0, 0), (24, .ifCond .ge 13, 3, 0, 0, 0, 0), (27, .aload_n 0, 1, 0, 0, 0, 0), (28, .getfield 42, 3, 0, 12, 19, 0), (31, .iload_n 3, 1, 0, 0, 0, 0), (32, .iconst 0, 1, 0, 0, 0, 0), (33, .iastore, 1, 0, 0, 0, 0), (34, .goto 15, 3, 0, 0, 0, 0), (37, .iload_n 3, 1, 0, 0, 0, 0), (38, .iconst 1, 1, 0, 0, 0, 0), (39, .iload 5, 2, 0, 0, 0, 0), (41, .ishl, 1, 0, 0, 0, 0), (42, .iconst (-1), 1, 0, 0, 0, 0), (43, .ixor, 1, 0, 0, 0, 0), (44, .iand, 1, 0, 0, 0, 0), (45, .istore_n 3, 1, 0, 0, 0, 0), (46, .iinc 4 1, 3, 0, 0, 0, 0), (49, .goto (-44), 3, 0, 0, 0, 0), (52, .aload_n 0, 1, 0, 0, 0, 0), (53, .getfield 42, 3, 0, 12, 19, 0), (56, .iload_n 1, 1, 0, 0, 0, 0), (57, .iload 4, 2, 0, 0, 0, 0), (59, .aload_n 0, 1, 0, 0, 0, 0), (60, .getfield 42, 3, 0, 12, 19, 0), (63, .iload_n 3, 1, 0, 0, 0, 0), (64, .iaload, 1, 0, 0, 0, 0), (65, .iadd, 1, 0, 0, 0, 0), (66, .iastore, 1, 0, 0, 0, 0), (67, .aload_n 0, 1, 0, 0, 0, 0), (68, .getfield 42, 3, 0, 12, 19, 0), (71, .iload_n 1, 1, 0, 0, 0, 0), (72, .iaload, 1, 0, 0, 0, 0), (73, .ireturn, 1, 0, 0, 0, 0)]
set_option maxRecDepth 100000 in
theorem sx_k317 : sx_c317.all (sx_chk 12 prog_14_method_99_code) = true := by decide +kernel
def sx_c318 : List sx_I := [(0, .aload_n 0, 1, 0, 0, 0, 0), (1, .invokevirtual 101, 3, 2, 233, 0, 0), (4, .istore 4, 2, 0, 0, 0, 0), (6, .iload_n 1, 1, 0, 0, 0, 0), (7, .ifCond .lt 26, 3, 0, 0, 0, 0), (10, .iload_n 1, 1, 0, 0, 0, 0), (11, .iload 4, 2, 0, 0, 0, 0), (13, .iconst (-1), 1, 0, 0, 0, 0), (14, .ixor, 1, 0, 0, 0, 0), (15, .iand, 1, 0, 0, 0, 0), (16, .ifCond .ne 17, 3, 0, 0, 0, 0), (19, .iload_n 2, 1, 0, 0, 0, 0), (20, .invokestatic 175, 3, 2, 263, 0, 0), (23, .ifCond .eq 10, 3, 0, 0, 0, 0), (26, .iload_n 3, 1, 0, 0, 0, 0), (27, .invokestatic 215, 3, 2, 282, 0, 0), (30, .ifCond .ne 10, 3, 0, 0, 0, 0), (33, .aload_n 0, 1, 0, 0, 0, 0), (34, .ldc 76, 2, 6, 0, 0, -100001), (36, .invokevirtual 77, 3, 2, 221, 0, 0), (39, .ireturn, 1, 0, 0, 0, 0), (40, .aload_n 0, 1, 0, 0, 0, 0), (41, .getfield 52, 3, 0, 12, 22, 0), (44, .iload_n 3, 1, 0, 0, 0, 0), (45, .iaload, 1, 0, 0, 0, 0), (46, .ifCond .ne 10, 3, 0, 0, 0, 0), (49, .aload_n 0, 1, 0, 0, 0, 0), (50, .ldc 120, 2, 6, 0, 0, -100002), (52, .invokevirtual 77, 3, 2, 221, 0, 0), (55, .ireturn, 1, 0, 0, 0, 0), (56, .aload_n 0, 1, 0, 0, 0, 0), (57, .getfield 55, 3, 0, 12, 23, 0), (60, .iload_n 3, 1, 0, 0, 0, 0), (61, .iaload, 1, 0, 0, 0, 0), (62, .iload_n 1, 1, 0, 0, 0, 0), (63, .invokestatic 305, 3, 2, 314, 0, 0), (66, .if_icmp .eq 8, 3, 0, 0, 0, 0), (69, .iload_n 1, 1, 0, 0, 0, 0), (70, .invokestatic 305, 3, 2, 314, 0, 0), (73, .ireturn, 1, 0, 0, 0, 0), (74, .aload_n 0, 1, 0, 0, 0, 0), (75, .invokevirtual 172, 3, 2, 259, 0, 0), (78, .iconst 0, 1, 0, 0, 0, 0), (79, .istore 5, 2, 0, 0, 0, 0), (81, .iconst 0, 1, 0, 0, 0, 0), (82, .istore 6, 2, 0, 0, 0, 0), (84, .iload 6, 2, 0, 0, 0, 0), (86, .aload_n 0, 1, 0, 0, 0, 0), (87, .getfield 7, 3, 0, 12, 0, 0), (90, .iconst 2, 1, 0, 0, 0, 0), (91, .iaload, 1, 0, 0, 0, 0), (92, .if_icmp .ge 65, 3, 0, 0, 0, 0), (95, .iload_n 1, 1, 0, 0, 0, 0), (96, .iload 6, 2, 0, 0, 0, 0), (98, .ishr, 1, 0, 0, 0, 0), (99, .iconst 1, 1, 0, 0, 0, 0), (100, .iand, 1, 0, 0, 0, 0), (101, .ifCond .ne 6, 3, 0, 0, 0, 0), (104, .goto 47, 3, 0, 0, 0, 0), (107, .aload_n 0, 1, 0, 0, 0, 0), (108, .iload 6, 2, 0, 0, 0, 0), (110, .iload_n 1, 1, 0, 0, 0, 0), (111, .iload_n 2, 1, 0, 0, 0, 0), (112, .invokevirtual 162, 3, 2, 264, 0, 0), (115, .istore 7, 2, 0, 0, 0, 0), (117, .aload_n 0, 1, 0, 0, 0, 0), (118, .getfield 58, 3, 0, 12, 24, 0), (121, .bipush 20, 2, 0, 0, 0, 0), (123, .iload_n 3, 1, 0, 0, 0, 0), (124, .imul, 1, 0, 0, 0, 0), (125, .iload 5, 2, 0, 0, 0, 0), (127, .iadd, 1, 0, 0, 0, 0), (128, .iaload, 1, 0, 0, 0, 0), (129, .iload 7, 2, 0, 0, 0, 0), (131, .if_icmp .ne 14, 3, 0, 0, 0, 0), (134, .iload 7, 2, 0, 0, 0, 0), (136, .aload_n 0, 1, 0, 0, 0, 0), (137, .iload 6, 2, 0, 0, 0, 0), (139, .invokevirtual 166, 3, 2, 258, 0, 0), (142, .if_icmp .le 6, 3, 0, 0, 0, 0), (145, .iload 5, 2, 0, 0, 0, 0), (147, .ireturn, 1, 0, 0, 0, 0), (148, .iinc 5 1, 3, 0, 0, 0, 0), (151, .iinc 6 1, 3, 0, 0, 0, 0), (154, .goto (-70), 3, 0, 0, 0, 0), (157, .iconst (-1), 1, 0, 0, 0, 0), (158, .ireturn, 1, 0, 0, 0, 0)]
set_option maxRecDepth 100000 in
theorem sx_k318 : sx_c318.all (sx_chk 12 prog_14_method_101_code) = true := by decide +kernel
def sx_c319 : List sx_I := [(0, .aload_n 0, 1, 0, 0, 0, 0), (1, .iload_n 1, 1, 0, 0, 0, 0), (2, .invokevirtual 86, 3, 2, 225, 0, 0), (5, .ifCond .eq 13, 3, 0, 0, 0, 0), (8, .iload_n 2, 1, 0, 0, 0, 0), (9, .iconst 0, 1, 0, 0, 0, 0), (10, .bipush 30, 2, 0, 0, 0, 0), (12, .invokestatic 68, 3, 2, 220, 0, 0), (15, .ifCond .ne 10, 3, 0, 0, 0, 0), (18, .aload_n 0, 1, 0, 0, 0, 0), (19, .ldc 76, 2, 6, 0, 0, -100001), (21, .invokevirtual 77, 3, 2, 221, 0, 0), (24, .ireturn, 1, 0, 0, 0, 0), (25, .aload_n 0, 1, 0, 0, 0, 0), (26, .iload_n 1, 1, 0, 0, 0, 0), (27, .invokevirtual 111, 3, 2, 239, 0, 0), (30, .ifCond .eq 10, 3, 0, 0, 0, 0), (33, .aload_n 0, 1, 0, 0, 0, 0), (34, .ldc 114, 2, 6, 0, 0, -100006), (36, .invokevirtual 77, 3, 2, 221, 0, 0), (39, .ireturn, 1, 0, 0, 0, 0), (40, .aload_n 0, 1, 0, 0, 0, 0), (41, .aload_n 0, 1, 0, 0, 0, 0), (42, .iload_n 1, 1, 0, 0, 0, 0), (43, .aload_n 0, 1, 0, 0, 0, 0), (44, .invokevirtual 101, 3, 2, 233, 0, 0), (47, .invokevirtual 105, 3, 2, 236, 0, 0), (50, .invokevirtual 314, 3, 2, 320, 0, 0), (53, .istore_n 3, 1, 0, 0, 0, 0), (54, .iconst 0, 1, 0, 0, 0, 0), (55, .istore 4, 2, 0, 0, 0, 0), (57, .iload 4, 2, 0, 0, 0, 0), (59, .bipush 36, 2, 0, 0, 0, 0), (61, .if_icmp .ge 32, 3, 0, 0, 0, 0), (64, .aload_n 0, 1, 0, 0, 0, 0), (65, .getfield 45, 3, 0, 12, 20, 0), (68, .iload 4, 2, 0, 0, 0, 0), (70, .iload 4, 2, 0, 0, 0, 0), (72, .aload_n 0, 1, 0, 0, 0, 0), (73, .iload_n 1, 1, 0, 0, 0, 0), (74, .iconst 1, 1, 0, 0, 0, 0), (75, .invokevirtual 72, 3, 2, 226, 0, 0), (78, .if_icmp .ne 7, 3, 0, 0, 0, 0), (81, .iconst 1, 1, 0, 0, 0, 0), (82, .goto 4, 3, 0, 0, 0, 0), (85, .iconst 0, 1, 0, 0, 0, 0), (86, .bastore, 1, 0, 0, 0, 0), (87, .iinc 4 1, 3, 0, 0, 0, 0), (90, .goto (-33), 3, 0, 0, 0, 0), (93, .iconst 0, 1, 0, 0, 0, 0), (94, .istore 4, 2, 0, 0, 0, 0), (96, .iload 4, 2, 0, 0, 0, 0), (98, .iload_n 2, 1, 0, 0, 0, 0), (99, .if_icmp .ge 128, 3, 0, 0, 0, 0), (102, .iconst 0, 1, 0, 0, 0, 0), (103, .istore 5, 2, 0, 0, 0, 0), (105, .iload 5, 2, 0, 0, 0, 0), (107, .bipush 36, 2, 0, 0, 0, 0), (109, .if_icmp .ge 35, 3, 0, 0, 0, 0), (112, .aload_n 0, 1, 0, 0, 0, 0), (113, .getfield 49, 3, 0, 12, 21, 0), (116, .iload 5, 2, 0, 0, 0, 0), (118, .iload_n 3, 1, 0, 0, 0, 0), (119, .ifCond .eq 17, 3, 0, 0, 0, 0), (122, .aload_n 0, 1, 0, 0, 0, 0), (123, .getfield 45, 3, 0, 12, 20, 0), (126, .iload 5, 2, 0, 0, 0, 0), (128, .baload, 1, 0, 0, 0, 0), (129, .ifCond .eq 7, 3, 0, 0, 0, 0), (132, .iconst 1, 1, 0, 0, 0, 0), (133, .goto 4, 3, 0, 0, 0, 0), (136, .iconst 0, 1, 0, 0, 0, 0), (137, .bastore, 1, 0, 0, 0, 0), (138, .iinc 5 1, 3, 0, 0, 0, 0), (141, .goto (-36), 3, 0, 0, 0, 0), (144, .iconst 0, 1, 0, 0, 0, 0), (145, .istore 5, 2, 0, 0, 0, 0), (147, .iload 5, 2, 0, 0, 0, 0), (149, .bipush 36, 2, 0, 0, 0, 0), (151, .if_icmp .ge 66, 3, 0, 0, 0, 0), (154, .iconst 0, 1, 0, 0, 0, 0), (155, .istore 6, 2, 0, 0, 0, 0), (157, .iload 6, 2, 0, 0, 0, 0), (159, .bipush 36, 2, 0, 0, 0, 0), (161, .if_icmp .ge 50, 3, 0, 0, 0, 0), (164, .aload_n 0, 1, 0, 0, 0, 0), (165, .getfield 45, 3, 0, 12, 20, 0), (168, .iload 5, 2, 0, 0, 0, 0), (170, .baload, 1, 0, 0, 0, 0), (171, .ifCond .eq 40, 3, 0, 0, 0, 0), (174, .iload 5, 2, 0, 0, 0, 0), (176, .iload 6, 2, 0, 0, 0, 0), (178, .if_icmp .eq 13, 3, 0, 0, 0, 0), (181, .iload 5, 2, 0, 0, 0, 0), (183, .iload 6, 2, 0, 0, 0, 0), (185, .invokestatic 317, 3, 2, 321, 0, 0), (188, .ifCond .eq 17, 3, 0, 0, 0, 0), (191, .aload_n 0, 1, 0, 0, 0, 0), (192, .getfield 49, 3, 0, 12, 21, 0), (195, .aload_n 0, 1, 0, 0, 0, 0), (196, .iload 5, 2, 0, 0, 0, 0), (198, .iload 6, 2, 0, 0, 0, 0), (200, .invokevirtual 191, 3, 2, 280, 0, 0), (203, .iconst 1, 1, 0, 0, 0, 0), (204, .bastore, 1, 0, 0, 0, 0), (205, .iinc 6 1, 3, 0, 0, 0, 0), (208, .goto (-51), 3, 0, 0, 0, 0), (211, .iinc 5 1, 3, 0, 0, 0, 0), (214, .goto (-67), 3, 0, 0, 0, 0), (217, .aload_n 0, 1, 0, 0, 0, 0), (218, .invokevirtual 320, 3, 2, 322, 0, 0), (221, .iinc 4 1, 3, 0, 0, 0, 0), (224, .goto (-128), 3, 0, 0, 0, 0), (227, .iconst 0, 1, 0, 0, 0, 0), (228, .istore 4, 2, 0, 0, 0, 0), (230, .iconst 0, 1, 0, 0, 0, 0), (231, .istore 5, 2, 0, 0, 0, 0), (233, .iload 5, 2, 0, 0, 0, 0), (235, .bipush 36, 2, 0, 0, 0, 0), (237, .if_icmp .ge 29, 3, 0, 0, 0, 0), (240, .iload 4, 2, 0, 0, 0, 0), (242, .aload_n 0, 1, 0, 0, 0, 0), (243, .getfield 45, 3, 0, 12, 20, 0), (246, .iload 5, 2, 0, 0, 0, 0), (248, .baload, 1, 0, 0, 0, 0), (249, .ifCond .eq 7, 3, 0, 0, 0, 0), (252, .iconst 1, 1, 0, 0, 0, 0), (253, .goto 4, 3, 0, 0, 0, 0), (256, .iconst 0, 1, 0, 0, 0, 0), (257, .iadd, 1, 0, 0, 0, 0), (258, .istore 4, 2, 0, 0, 0, 0), (260, .iinc 5 1, 3, 0, 0, 0, 0), (263, .goto (-30), 3, 0, 0, 0, 0), (266, .iload 4, 2, 0, 0, 0, 0), (268, .ireturn, 1, 0, 0, 0, 0)]
set_option maxRecDepth 100000 in
theorem sx_k319_0 : ((sx_c319.drop 0).take 64).all (sx_chk 12 prog_14_method_105_code) = true := by decide +kernel
set_option maxRecDepth 100000 in
theorem sx_k319_1 : ((sx_c319.drop 64).take 64).all (sx_chk 12 prog_14_method_105_code) = true := by decide +kernel
set_option maxRecDepth 100000 in
theorem sx_k319_2 : ((sx_c319.drop 128).take 64).all (sx_chk 12 prog_14_method_105_code) = true := by decide +kernel
set_option maxRecDepth 100000 in
theorem sx_k319 : sx_c319.all (sx_chk 12 prog_14_method_105_code) = true := sx_ck 64 sx_k319_0 (sx_ck 64 sx_k319_1 (sx_ce sx_k319_2 rfl))
def sx_c320 : List sx_I := [(0, .iconst 0, 1, 0, 0, 0, 0), (1, .istore_n 2, 1, 0, 0, 0, 0), (2, .iload_n 2, 1, 0, 0, 0, 0), (3, .aload_n 0, 1, 0, 0, 0, 0), (4, .getfield 7, 3, 0, 12, 0, 0), (7, .iconst 0, 1, 0, 0, 0, 0), (8, .iaload, 1, 0, 0, 0, 0), (9, .if_icmp .ge 30, 3, 0, 0, 0, 0), (12, .iload_n 1, 1, 0, 0, 0, 0), (13, .iload_n 2, 1, 0, 0, 0, 0), (14, .ishr, 1, 0, 0, 0, 0), (15, .iconst 1, 1, 0, 0, 0, 0), (16, .iand, 1, 0, 0, 0, 0), (17, .iconst 1, 1, 0, 0, 0, 0), (18, .if_icmp .ne 15, 3, 0, 0, 0, 0), (21, .aload_n 0, 1, 0, 0, 0, 0), (22, .iload_n 2, 1, 0, 0, 0, 0), (23, .iconst 0, 1, 0, 0, 0, 0), (24, .invokevirtual 72, 3, 2, 226, 0, 0), (27, .iconst 4, 1, 0, 0, 0, 0), (28, .if_icmp .ne 5, 3, 0, 0, 0, 0), (31, .iconst 1, 1, 0, 0, 0, 0), (32, .ireturn, 1, 0, 0, 0, 0), (33, .iinc 2 1, 3, 0, 0, 0, 0), (36, .goto (-34), 3, 0, 0, 0, 0), (39, .iconst 0, 1, 0, 0, 0, 0), (40, .ireturn, 1, 0, 0, 0, 0)]
set_option maxRecDepth 100000 in
theorem sx_k320 : sx_c320.all (sx_chk 12 prog_14_method_102_code) = true := by decide +kernel
def sx_c321 : List sx_I := [(0, .iload_n 0, 1, 0, 0, 0, 0), (1, .bipush 6, 2, 0, 0, 0, 0), (3, .irem, 1, 0, 0, 0, 0), (4, .iload_n 1, 1, 0, 0, 0, 0), (5, .bipush 6, 2, 0, 0, 0, 0), (7, .irem, 1, 0, 0, 0, 0), (8, .isub, 1, 0, 0, 0, 0), (9, .istore_n 2, 1, 0, 0, 0, 0), (10, .iload_n 0, 1, 0, 0, 0, 0), (11, .bipush 6, 2, 0, 0, 0, 0), (13, .idiv, 1, 0, 0, 0, 0), (14, .iload_n 1, 1, 0, 0, 0, 0), (15, .bipush 6, 2, 0, 0, 0, 0), (17, .idiv, 1, 0, 0, 0, 0), (18, .isub, 1, 0, 0, 0, 0), (19, .istore_n 3, 1, 0, 0, 0, 0), (20, .iload_n 2, 1, 0, 0, 0, 0), (21, .iload_n 2, 1, 0, 0, 0, 0), (22, .imul, 1, 0, 0, 0, 0), (23, .iload_n 3, 1, 0, 0, 0, 0), (24, .iload_n 3, 1, 0, 0, 0, 0), (25, .imul, 1, 0, 0, 0, 0), (26, .iadd, 1, 0, 0, 0, 0), (27, .iconst 1, 1, 0, 0, 0, 0), (28, .if_icmp .ne 7, 3, 0, 0, 0, 0), (31, .iconst 1, 1, 0, 0, 0, 0), (32, .goto 4, 3, 0, 0, 0, 0), (35, .iconst 0, 1, 0, 0, 0, 0), (36, .ireturn, 1, 0, 0, 0, 0)]
set_option maxRecDepth 100000 in
theorem sx_k321 : sx_c321.all (sx_chk 12 prog_14_method_103_code) = true := by decide +kernel
def sx_c322 : List sx_I := [(0, .iconst 0, 1, 0, 0, 0, 0), (1, .istore_n 1, 1, 0, 0, 0, 0), (2, .iload_n 1, 1, 0, 0, 0, 0), (3, .bipush 36, 2, 0, 0, 0, 0), (5, .if_icmp .ge 21, 3, 0, 0, 0, 0), (8, .aload_n 0, 1, 0, 0, 0, 0), (9, .getfield 45, 3, 0, 12, 20, 0), (12, .iload_n 1, 1, 0, 0, 0, 0), (13, .aload_n 0, 1, 0, 0, 0, 0), (14, .getfield 49, 3, 0, 12, 21, 0), (17, .iload_n 1, 1, 0, 0, 0, 0), (18, .baload, 1, 0, 0, 0, 0), (19, .bastore, 1, 0, 0, 0, 0), (20, .iinc 1 1, 3, 0, 0, 0, 0), (23, .goto (-21), 3, 0, 0, 0, 0), (26, .return_, 1, 0, 0, 0, 0)]
set_option maxRecDepth 100000 in
theorem sx_k322 : sx_c322.all (sx_chk 12 prog_14_method_104_code) = true := by decide +kernel
def sx_c323 : List sx_I := [(0, .aload_n 0, 1, 0, 0, 0, 0), (1, .iload_n 1, 1, 0, 0, 0, 0), (2, .invokevirtual 86, 3, 2, 225, 0, 0), (5, .ifCond .eq 11, 3, 0, 0, 0, 0), (8, .aload_n 0, 1, 0, 0, 0, 0), (9, .iload_n 2, 1, 0, 0, 0, 0), (10, .invokevirtual 86, 3, 2, 225, 0, 0), (13, .ifCond .ne 10, 3, 0, 0, 0, 0), (16, .aload_n 0, 1, 0, 0, 0, 0), (17, .ldc 76, 2, 6, 0, 0, -100001), (19, .invokevirtual 77, 3, 2, 221, 0, 0), (22, .ireturn, 1, 0, 0, 0, 0), (23, .aload_n 0, 1, 0, 0, 0, 0), (24, .iload_n 1, 1, 0, 0, 0, 0), (25, .invokevirtual 111, 3, 2, 239, 0, 0), (28, .ifCond .ne 11, 3, 0, 0, 0, 0), (31, .aload_n 0, 1, 0, 0, 0, 0), (32, .iload_n 2, 1, 0, 0, 0, 0), (33, .invokevirtual 111, 3, 2, 239, 0, 0), (36, .ifCond .eq 10, 3, 0, 0, 0, 0), (39, .aload_n 0, 1, 0, 0, 0, 0), (40, .ldc 114, 2, 6, 0, 0, -100006), (42, .invokevirtual 77, 3, 2, 221, 0, 0), (45, .ireturn, 1, 0, 0, 0, 0), (46, .aload_n 0, 1, 0, 0, 0, 0), (47, .aload_n 0, 1, 0, 0, 0, 0), (48, .iload_n 1, 1, 0, 0, 0, 0), (49, .aload_n 0, 1, 0, 0, 0, 0), (50, .invokevirtual 101, 3, 2, 233, 0, 0), (53, .invokevirtual 105, 3, 2, 236, 0, 0), (56, .invokevirtual 314, 3, 2, 320, 0, 0), (59, .istore_n 3, 1, 0, 0, 0, 0), (60, .aload_n 0, 1, 0, 0, 0, 0), (61, .iload_n 2, 1, 0, 0, 0, 0), (62, .iconst 1, 1, 0, 0, 0, 0), (63, .invokevirtual 72, 3, 2, 226, 0, 0), (66, .istore 4, 2, 0, 0, 0, 0), (68, .iconst 0, 1, 0, 0, 0, 0), (69, .istore 5, 2, 0, 0, 0, 0), (71, .iload 5, 2, 0, 0, 0, 0), (73, .bipush 36, 2, 0, 0, 0, 0), (75, .if_icmp .ge 32, 3, 0, 0, 0, 0), (78, .aload_n 0, 1, 0, 0, 0, 0), (79, .getfield 45, 3, 0, 12, 20, 0), (82, .iload 5, 2, 0, 0, 0, 0), (84, .iload 5, 2, 0, 0, 0, 0), (86, .aload_n 0, 1, 0, 0, 0, 0), (87, .iload_n 1, 1, 0, 0, 0, 0), (88, .iconst 1, 1, 0, 0, 0, 0), (89, .invokevirtual 72, 3, 2, 226, 0, 0), (92, .if_icmp .ne 7, 3, 0, 0, 0, 0), (95, .iconst 1, 1, 0, 0, 0, 0), (96, .goto 4, 3, 0, 0, 0, 0), (99, .iconst 0, 1, 0, 0, 0, 0), (100, .bastore, 1, 0, 0, 0, 0), (101, .iinc 5 1, 3, 0, 0, 0, 0), (104, .goto (-33), 3, 0, 0, 0, 0), (107, .iconst 0, 1, 0, 0, 0, 0), (108, .istore 5, 2, 0, 0, 0, 0), (110, .iload 5, 2, 0, 0, 0, 0), (112, .bipush 30, 2, 0, 0, 0, 0), (114, .if_icmp .gt 182, 3, 0, 0, 0, 0), (117, .aload_n 0, 1, 0, 0, 0, 0), (118, .getfield 45, 3, 0, 12, 20, 0), (121, .iload 4, 2, 0, 0, 0, 0), (123, .baload, 1, 0, 0, 0, 0), (124, .ifCond .eq 6, 3, 0, 0, 0, 0), (127, .iload 5, 2, 0, 0, 0, 0), (129, .ireturn, 1, 0, 0, 0, 0), (130, .iconst 0, 1, 0, 0, 0, 0), (131, .istore 6, 2, 0, 0, 0, 0), (133, .iload 6, 2, 0, 0, 0, 0), (135, .bipush 36, 2, 0, 0, 0, 0), (137, .if_icmp .ge 17, 3, 0, 0, 0, 0), (140, .aload_n 0, 1, 0, 0, 0, 0), (141, .getfield 49, 3, 0, 12, 21, 0), (144, .iload 6, 2, 0, 0, 0, 0), (146, .iconst 0, 1, 0, 0, 0, 0), (147, .bastore, 1, 0, 0, 0, 0), (148, .iinc 6 1, 3, 0, 0, 0, 0), (151, .goto (-18), 3, 0, 0, 0, 0), (154, .iconst 0, 1, 0, 0, 0, 0), (155, .istore 6, 2, 0, 0, 0, 0), (157, .iload 6, 2, 0, 0, 0, 0), (159, .bipush 36, 2, 0, 0, 0, 0), (161, .if_icmp .ge 33, 3, 0, 0, 0, 0), (164, .aload_n 0, 1, 0, 0, 0, 0), (165, .getfield 45, 3, 0, 12, 20, 0), (168, .iload 6, 2, 0, 0, 0, 0), (170, .baload, 1, 0, 0, 0, 0), (171, .ifCond .eq 17, 3, 0, 0, 0, 0), (174, .aload_n 0, 1, 0, 0, 0, 0), (175, .getfield 49, 3, 0, 12, 21, 0), (178, .aload_n 0, 1, 0, 0, 0, 0), (179, .iload 6, 2, 0, 0, 0, 0), (181, .iload 6, 2, 0, 0, 0, 0), (183, .invokevirtual 191, 3, 2, 280, 0, 0), (186, .iconst 1, 1, 0, 0, 0, 0), (187, .bastore, 1, 0, 0, 0, 0), (188, .iinc 6 1, 3, 0, 0, 0, 0), (191, .goto (-34), 3, 0, 0, 0, 0), (194, .aload_n 0, 1, 0, 0, 0, 0), (195, .invokevirtual 320, 3, 2, 322, 0, 0), (198, .iconst 0, 1, 0, 0, 0, 0), (199, .istore 6, 2, 0, 0, 0, 0), (201, .iload 6, 2, 0, 0, 0, 0), (203, .bipush 36, 2, 0, 0, 0, 0), (205, .if_icmp .ge 71, 3, 0, 0, 0, 0), (208, .iconst 0, 1, 0, 0, 0, 0), (209, .istore 7, 2, 0, 0, 0, 0), (211, .iload 7, 2, 0, 0, 0, 0), (213, .bipush 36, 2, 0, 0, 0, 0), (215, .if_icmp .ge 55, 3, 0, 0, 0, 0), (218, .aload_n 0, 1, 0, 0, 0, 0), (219, .getfield 45, 3, 0, 12, 20, 0), (222, .iload 6, 2, 0, 0, 0, 0), (224, .baload, 1, 0, 0, 0, 0), (225, .ifCond .eq 45, 3, 0, 0, 0, 0), (228, .iload_n 3, 1, 0, 0, 0, 0), (229, .ifCond .eq 41, 3, 0, 0, 0, 0), (232, .aload_n 0, 1, 0, 0, 0, 0), (233, .getfield 49, 3, 0, 12, 21, 0), (236, .iload 7, 2, 0, 0, 0, 0), (238, .aload_n 0, 1, 0, 0, 0, 0), (239, .getfield 49, 3, 0, 12, 21, 0), (242, .iload 7, 2, 0, 0, 0, 0), (244, .baload, 1, 0, 0, 0, 0), (245, .ifCond .ne 13, 3, 0, 0, 0, 0), (248, .iload 6, 2, 0, 0, 0, 0), (250, .iload 7, 2, 0, 0, 0, 0), (252, .invokestatic 317, 3, 2, 321, 0, 0), (255, .ifCond .eq 7, 3, 0, 0, 0, 0), (258, .iconst 1, 1, 0, 0, 0, 0), (259, .goto 4, 3, 0, 0, 0, 0), (262, .iconst 0, 1, 0, 0, 0, 0), (263, .bastore, 1, 0, 0, 0, 0), (264, .iinc 7 1, 3, 0, 0, 0, 0), (267, .goto (-56), 3, 0, 0, 0, 0), (270, .iinc 6 1, 3, 0, 0, 0, 0), (273, .goto (-72), 3, 0, 0, 0, 0), (276, .aload_n 0, 1, 0, 0, 0, 0), (277, .invokevirtual 320, 3, 2, 322, 0, 0), (280, .aload_n 0, 1, 0, 0, 0, 0), (281, .iload 4, 2, 0, 0, 0, 0), (283, .iload 4, 2, 0, 0, 0, 0), (285, .invokevirtual 191, 3, 2, 280, 0, 0), (288, .istore 4, 2, 0, 0, 0, 0), (290, .iinc 5 1, 3, 0, 0, 0, 0), (293, .goto (-183), 3, 0, 0, 0, 0), (296, .aload_n 0, 1, 0, 0, 0, 0), (297, .ldc 114, 2, 6, 0, 0, -100006), (299, .invokevirtual 77, 3, 2, 221, 0, 0), (302, .ireturn, 1, 0, 0, 0, 0)]
set_option maxRecDepth 100000 in
theorem sx_k323_0 : ((sx_c323.drop 0).take 64).all (sx_chk 12 prog_14_method_106_code) = true := by decide +kernel
set_option maxRecDepth 100000 in
theorem sx_k323_1 : ((sx_c323.drop 64).take 64).all (sx_chk 12 prog_14_method_106_code) = true := by decide +kernel
set_option maxRecDepth 100000 in
theorem sx_k323_2 : ((sx_c323.drop 128).take 64).all (sx_chk 12 prog_14_method_106_code) = true := by decide +kernel
set_option maxRecDepth 100000 in
theorem sx_k323 : sx_c323.all (sx_chk 12 prog_14_method_106_code) = true := sx_ck 64 sx_k323_0 (sx_ck 64 sx_k323_1 (sx_ce sx_k323_2 rfl))
def sx_c324 : List sx_I := [(0, .iload_n 1, 1, 0, 0, 0, 0), (1, .invokestatic 215, 3, 2, 282, 0, 0), (4, .ifCond .eq 25, 3, 0, 0, 0, 0), (7, .iload_n 2, 1, 0, 0, 0, 0), (8, .ifCond .eq 28, 3, 0, 0, 0, 0), (11, .iload_n 2, 1, 0, 0, 0, 0), (12, .bipush 8, 2, 0, 0, 0, 0), (14, .if_icmp .eq 22, 3, 0, 0, 0, 0), (17, .iload_n 2, 1, 0, 0, 0, 0), (18, .bipush 16, 2, 0, 0, 0, 0), (20, .if_icmp .eq 16, 3, 0, 0, 0, 0), (23, .iload_n 2, 1, 0, 0, 0, 0), (24, .bipush 32, 2, 0, 0, 0, 0), (26, .if_icmp .eq 10, 3, 0, 0, 0, 0), (29, .aload_n 0, 1, 0, 0, 0, 0), (30, .ldc 76, 2, 6, 0, 0, -100001), (32, .invokevirtual 77, 3, 2, 221, 0, 0), (35, .ireturn, 1, 0, 0, 0, 0), (36, .iload_n 3, 1, 0, 0, 0, 0), (37, .ifCond .ge 10, 3, 0, 0, 0, 0), (40, .aload_n 0, 1, 0, 0, 0, 0), (41, .ldc 118, 2, 6, 0, 0, -100003), (43, .invokevirtual 77, 3, 2, 221, 0, 0), (46, .ireturn, 1, 0, 0, 0, 0), (47, .iload_n 3, 1, 0, 0, 0, 0), (48, .bipush 20, 2, 0, 0, 0, 0), (50, .if_icmp .le 10, 3, 0, 0, 0, 0), (53, .aload_n 0, 1, 0, 0, 0, 0), (54, .ldc 76, 2, 6, 0, 0, -100001), (56, .invokevirtual 77, 3, 2, 221, 0, 0), (59, .ireturn, 1, 0, 0, 0, 0), (60, .aload_n 0, 1, 0, 0, 0, 0), (61, .getfield 52, 3, 0, 12, 22, 0), (64, .iload_n 1, 1, 0, 0, 0, 0), (65, .iload_n 2, 1, 0, 0, 0, 0), (66, .iastore, 1, 0, 0, 0, 0), (67, .aload_n 0, 1, 0, 0, 0, 0), (68, .getfield 55, 3, 0, 12, 23, 0), (71, .iload_n 1, 1, 0, 0, 0, 0), (72, .iload_n 2, 1, 0, 0, 0, 0), (73, .ifCond .ne 7, 3, 0, 0, 0, 0), (76, .iconst 0, 1, 0, 0, 0, 0), (77, .goto 4, 3, 0, 0, 0, 0), (80, .iload_n 3, 1, 0, 0, 0, 0), (81, .iastore, 1, 0, 0, 0, 0), (82, .iconst 0, 1, 0, 0, 0, 0), (83, .istore 4, 2, 0, 0, 0, 0), (85, .iload 4, 2, 0, 0, 0, 0), (87, .bipush 20, 2, 0, 0, 0, 0), (89, .if_icmp .ge 22, 3, 0, 0, 0, 0), (92, .aload_n 0, 1, 0, 0, 0, 0), (93, .getfield 58, 3, 0, 12, 24, 0), (96, .bipush 20, 2, 0, 0, 0, 0), (98, .iload_n 1, 1, 0, 0, 0, 0), (99, .imul, 1, 0, 0, 0, 0), (100, .iload 4, 2, 0, 0, 0, 0), (102, .iadd, 1, 0, 0, 0, 0), (103, .iconst 0, 1, 0, 0, 0, 0), (104, .iastore, 1, 0, 0, 0, 0), (105, .iinc 4 1, 3, 0, 0, 0, 0), (108, .goto (-23), 3, 0, 0, 0, 0), (111, .aload_n 0, 1, 0, 0, 0, 0), (112, .getfield 55, 3, 0, 12, 23, 0), (115, .iload_n 1, 1, 0, 0, 0, 0), (116, .iaload, 1, 0, 0, 0, 0), (117, .ireturn, 1, 0, 0, 0, 0)]
set_option maxRecDepth 100000 in
theorem sx_k324 : sx_c324.all (sx_chk 12 prog_14_method_108_code) = true := by decide +kernel
def sx_c325 : List sx_I := [(0, .iload_n 1, 1, 0, 0, 0, 0), (1, .invokestatic 215, 3, 2, 282, 0, 0), (4, .ifCond .ne 10, 3, 0, 0, 0, 0), (7, .aload_n 0, 1, 0, 0, 0, 0), (8, .ldc 76, 2, 6, 0, 0, -100001), (10, .invokevirtual 77, 3, 2, 221, 0, 0), (13, .ireturn, 1, 0, 0, 0, 0), (14, .aload_n 0, 1, 0, 0, 0, 0), (15, .getfield 52, 3, 0, 12, 22, 0), (18, .iload_n 1, 1, 0, 0, 0, 0), (19, .iaload, 1, 0, 0, 0, 0), (20, .ifCond .ne 10, 3, 0, 0, 0, 0), (23, .aload_n 0, 1, 0, 0, 0, 0), (24, .ldc 120, 2, 6, 0, 0, -100002), (26, .invokevirtual 77, 3, 2, 221, 0, 0), (29, .ireturn, 1, 0, 0, 0, 0), (30, .iload_n 2, 1, 0, 0, 0, 0), (31, .iconst 0, 1, 0, 0, 0, 0), (32, .aload_n 0, 1, 0, 0, 0, 0), (33, .getfield 55, 3, 0, 12, 23, 0), (36, .iload_n 1, 1, 0, 0, 0, 0), (37, .iaload, 1, 0, 0, 0, 0), (38, .iconst 1, 1, 0, 0, 0, 0), (39, .isub, 1, 0, 0, 0, 0), (40, .invokestatic 68, 3, 2, 220, 0, 0), (43, .ifCond .ne 10, 3, 0, 0, 0, 0), (46, .aload_n 0, 1, 0, 0, 0, 0), (47, .ldc 76, 2, 6, 0, 0, -100001), (49, .invokevirtual 77, 3, 2, 221, 0, 0), (52, .ireturn, 1, 0, 0, 0, 0), (53, .aload_n 0, 1, 0, 0, 0, 0), (54, .getfield 58, 3, 0, 12, 24, 0), (57, .bipush 20, 2, 0, 0, 0, 0), (59, .iload_n 1, 1, 0, 0, 0, 0), (60, .imul, 1, 0, 0, 0, 0), (61, .iload_n 2, 1, 0, 0, 0, 0), (62, .iadd, 1, 0, 0, 0, 0), (63, .aload_n 0, 1, 0, 0, 0, 0), (64, .getfield 52, 3, 0, 12, 22, 0), (67, .iload_n 1, 1, 0, 0, 0, 0), (68, .iaload, 1, 0, 0, 0, 0), (69, .bipush 8, 2, 0, 0, 0, 0), (71, .if_icmp .ne 8, 3, 0, 0, 0, 0), (74, .iload_n 3, 1, 0, 0, 0, 0), (75, .i2b, 1, 0, 0, 0, 0), (76, .goto 20, 3, 0, 0, 0, 0), (79, .aload_n 0, 1, 0, 0, 0, 0), (80, .getfield 52, 3, 0, 12, 22, 0), (83, .iload_n 1, 1, 0, 0, 0, 0), (84, .iaload, 1, 0, 0, 0, 0), (85, .bipush 16, 2, 0, 0, 0, 0), (87, .if_icmp .ne 8, 3, 0, 0, 0, 0), (90, .iload_n 3, 1, 0, 0, 0, 0), (91, .i2s, 1, 0, 0, 0, 0), (92, .goto 4, 3, 0, 0, 0, 0), (95, .iload_n 3, 1, 0, 0, 0, 0), (96, .iastore, 1, 0, 0, 0, 0), (97, .iconst 0, 1, 0, 0, 0, 0), (98, .ireturn, 1, 0, 0, 0, 0)]
set_option maxRecDepth 100000 in
theorem sx_k325 : sx_c325.all (sx_chk 12 prog_14_method_109_code) = true := by decide +kernel
def sx_c326 : List sx_I := [(0, .iload_n 1, 1, 0, 0, 0, 0), (1, .invokestatic 215, 3, 2, 282, 0, 0), (4, .ifCond .eq 10, 3, 0, 0, 0, 0), (7, .iload_n 3, 1, 0, 0, 0, 0), (8, .invokestatic 215, 3, 2, 282, 0, 0), (11, .ifCond .ne 10, 3, 0, 0, 0, 0), (14, .aload_n 0, 1, 0, 0, 0, 0), (15, .ldc 76, 2, 6, 0, 0, -100001), (17, .invokevirtual 77, 3, 2, 221, 0, 0), (20, .ireturn, 1, 0, 0, 0, 0), (21, .aload_n 0, 1, 0, 0, 0, 0), (22, .getfield 52, 3, 0, 12, 22, 0), (25, .iload_n 1, 1, 0, 0, 0, 0), (26, .iaload, 1, 0, 0, 0, 0), (27, .ifCond .eq 12, 3, 0, 0, 0, 0), (30, .aload_n 0, 1, 0, 0, 0, 0), (31, .getfield 52, 3, 0, 12, 22, 0), (34, .iload_n 3, 1, 0, 0, 0, 0), (35, .iaload, 1, 0, 0, 0, 0), (36, .ifCond .ne 10, 3, 0, 0, 0, 0), (39, .aload_n 0, 1, 0, 0, 0, 0), (40, .ldc 120, 2, 6, 0, 0, -100002), (42, .invokevirtual 77, 3, 2, 221, 0, 0), (45, .ireturn, 1, 0, 0, 0, 0), (46, .aload_n 0, 1, 0, 0, 0, 0), (47, .getfield 52, 3, 0, 12, 22, 0), (50, .iload_n 1, 1, 0, 0, 0, 0), (51, .iaload, 1, 0, 0, 0, 0), (52, .aload_n 0, 1, 0, 0, 0, 0), (53, .getfield 52, 3, 0, 12, 22, 0), (56, .iload_n 3, 1, 0, 0, 0, 0), (57, .iaload, 1, 0, 0, 0, 0), (58, .if_icmp .eq 10, 3, 0, 0, 0, 0), (61, .aload_n 0, 1, 0, 0, 0, 0), (62, .ldc 90, 2, 6, 0, 0, -100004), (64, .invokevirtual 77, 3, 2, 221, 0, 0), (67, .ireturn, 1, 0, 0, 0, 0), (68, .iload_n 2, 1, 0, 0, 0, 0), (69, .ifCond .lt 48, 3, 0, 0, 0, 0), (72, .iload 4, 2, 0, 0, 0, 0), (74, .ifCond .lt 43, 3, 0, 0, 0, 0), (77, .iload 5, 2, 0, 0, 0, 0), (79, .ifCond .lt 38, 3, 0, 0, 0, 0), (82, .iload_n 2, 1, 0, 0, 0, 0), (83, .i2l, 1, 0, 0, 0, 0), (84, .iload 5, 2, 0, 0, 0, 0), (86, .i2l, 1, 0, 0, 0, 0), (87, .ladd, 1, 0, 0, 0, 0), (88, .aload_n 0, 1, 0, 0, 0, 0), (89, .getfield 55, 3, 0, 12, 23, 0), (92, .iload_n 1, 1, 0, 0, 0, 0), (93, .iaload, 1, 0, 0, 0, 0), (94, .i2l, 1, 0, 0, 0, 0), (95, .lcmp, 1, 0, 0, 0, 0), (96, .ifCond .gt 21, 3, 0, 0, 0, 0), (99, .iload 4, 2, 0, 0, 0, 0), (101, .i2l, 1, 0, 0, 0, 0), (102, .iload 5, 2, 0, 0, 0, 0), (104, .i2l, 1, 0, 0, 0, 0), (105, .ladd, 1, 0, 0, 0, 0), (106, .aload_n 0, 1, 0, 0, 0, 0), (107, .getfield 55, 3, 0, 12, 23, 0), (110, .iload_n 3, 1, 0, 0, 0, 0), (111, .iaload, 1, 0, 0, 0, 0), (112, .i2l, 1, 0, 0, 0, 0), (113, .lcmp, 1, 0, 0, 0, 0), (114, .ifCond .le 10, 3, 0, 0, 0, 0), (117, .aload_n 0, 1, 0, 0, 0, 0), (118, .ldc 76, 2, 6, 0, 0, -100001), (120, .invokevirtual 77, 3, 2, 221, 0, 0), (123, .ireturn, 1, 0, 0, 0, 0), (124, .iconst 0, 1, 0, 0, 0, 0), (125, .istore 6, 2, 0, 0, 0, 0), (127, .iload 6, 2, 0, 0, 0, 0), (129, .iload 5, 2, 0, 0, 0, 0), (131, .if_icmp .ge 30, 3, 0, 0, 0, 0), (134, .aload_n 0, 1, 0, 0, 0, 0), (135, .getfield 61, 3, 0, 12, 25, 0), (138, .iload 6, 2, 0, 0, 0, 0), (140, .aload_n 0, 1, 0, 0, 0, 0), (141, .getfield 58, 3, 0, 12, 24, 0), (144, .bipush 20, 2, 0, 0, 0, 0), (146, .iload_n 1, 1, 0, 0, 0, 0), (147, .imul, 1, 0, 0, 0, 0), (148, .iload_n 2, 1, 0, 0, 0, 0), (149, .iadd, 1, 0, 0, 0, 0), (150, .iload 6, 2, 0, 0, 0, 0), (152, .iadd, 1, 0, 0, 0, 0), (153, .iaload, 1, 0, 0, 0, 0), (154, .iastore, 1, 0, 0, 0, 0), (155, .iinc 6 1, 3, 0, 0, 0, 0), (158, .goto (-31), 3, 0, 0, 0, 0), (161, .iconst 0, 1, 0, 0, 0, 0), (162, .istore 6, 2, 0, 0, 0, 0), (164, .iload 6, 2, 0, 0, 0, 0), (166, .iload 5, 2, 0, 0, 0, 0), (168, .if_icmp .ge 31, 3, 0, 0, 0, 0), (171, .aload_n 0, 1, 0, 0, 0, 0), (172, .getfield 58, 3, 0, 12, 24, 0), (175, .bipush 20, 2, 0, 0, 0, 0), (177, .iload_n 3, 1, 0, 0, 0, 0), (178, .imul, 1, 0, 0, 0, 0), (179, .iload 4, 2, 0, 0, 0, 0), (181, .iadd, 1, 0, 0, 0, 0), (182, .iload 6, 2, 0, 0, 0, 0), (184, .iadd, 1, 0, 0, 0, 0), (185, .aload_n 0, 1, 0, 0, 0, 0), (186, .getfield 61, 3, 0, 12, 25, 0), (189, .iload 6, 2, 0, 0, 0, 0), (191, .iaload, 1, 0, 0, 0, 0), (192, .iastore, 1, 0, 0, 0, 0), (193, .iinc 6 1, 3, 0, 0, 0, 0), (196, .goto (-32), 3, 0, 0, 0, 0), (199, .iload 5, 2, 0, 0, 0, 0), (201, .ireturn, 1, 0, 0, 0, 0)]
set_option maxRecDepth 100000 in
theorem sx_k326 : sx_c326.all (sx_chk 12 prog_14_method_110_code) = true := by decide +kernel
def sx_c327 : List sx_I := [(0, .iconst 0, 1, 0, 0, 0, 0), (1, .istore_n 1, 1, 0, 0, 0, 0), (2, .iload_n 1, 1, 0, 0, 0, 0), (3, .sipush 2973, 3, 0, 0, 0, 0), (6, .if_icmp .ge 21, 3, 0, 0, 0, 0), (9, .aload_n 0, 1, 0, 0, 0, 0), (10, .getfield 13, 3, 0, 12, 1, 0), (13, .iload_n 1, 1, 0, 0, 0, 0), (14, .aload_n 0, 1, 0, 0, 0, 0), (15, .getfield 7, 3, 0, 12, 0, 0), (18, .iload_n 1, 1, 0, 0, 0, 0), (19, .iaload, 1, 0, 0, 0, 0), (20, .iastore, 1, 0, 0, 0, 0), (21, .iinc 1 1, 3, 0, 0, 0, 0), (24, .goto (-22), 3, 0, 0, 0, 0), (27, .aload_n 0, 1, 0, 0, 0, 0), (28, .iconst 1, 1, 0, 0, 0, 0), (29, .putfield 323, 3, 0, 12, 2, 0), (32, .aload_n 0, 1, 0, 0, 0, 0), (33, .getfield 7, 3, 0, 12, 0, 0), (36, .iconst 3, 1, 0, 0, 0, 0), (37, .iaload, 1, 0, 0, 0, 0), (38, .ireturn, 1, 0, 0, 0, 0)]
set_option maxRecDepth 100000 in
theorem sx_k327 : sx_c327.all (sx_chk 12 prog_14_method_111_code) = true := by decide +kernel
def sx_c328 : List sx_I := [(0, .aload_n 0, 1, 0, 0, 0, 0), (1, .getfield 323, 3, 0, 12, 2, 0), (4, .ifCond .ne 10, 3, 0, 0, 0, 0), (7, .aload_n 0, 1, 0, 0, 0, 0), (8, .ldc 114, 2, 6, 0, 0, -100006), (10, .invokevirtual 77, 3, 2, 221, 0, 0), (13, .ireturn, 1, 0, 0, 0, 0), (14, .iconst 0, 1, 0, 0, 0, 0), (15, .istore_n 1, 1, 0, 0, 0, 0), (16, .iload_n 1, 1, 0, 0, 0, 0), (17, .sipush 2973, 3, 0, 0, 0, 0), (20, .if_icmp .ge 21, 3, 0, 0, 0, 0), (23, .aload_n 0, 1, 0, 0, 0, 0), (24, .getfield 7, 3, 0, 12, 0, 0), (27, .iload_n 1, 1, 0, 0, 0, 0), (28, .aload_n 0, 1, 0, 0, 0, 0), (29, .getfield 13, 3, 0, 12, 1, 0), (32, .iload_n 1, 1, 0, 0, 0, 0), (33, .iaload, 1, 0, 0, 0, 0), (34, .iastore, 1, 0, 0, 0, 0), (35, .iinc 1 1, 3, 0, 0, 0, 0), (38, .goto (-22), 3, 0, 0, 0, 0), (41, .aload_n 0, 1, 0, 0, 0, 0), (42, .getfield 7, 3, 0, 12, 0, 0), (45, .iconst 3, 1, 0, 0, 0, 0), (46, .iaload, 1, 0, 0, 0, 0), (47, .ireturn, 1, 0, 0, 0, 0)]
set_option maxRecDepth 100000 in
theorem sx_k328 : sx_c328.all (sx_chk 12 prog_14_method_112_code) = true := by decide +kernel
def sx_c329 : List sx_I := [(0, .iconst 0, 1, 0, 0, 0, 0), (1, .istore_n 2, 1, 0, 0, 0, 0), (2, .iload_n 1, 1, 0, 0, 0, 0), (3, .tableswitch 187 0 7 #[45, 81, 117, 125, 132, 168, 175, 182], 45, 0, 0, 0, 0), (48, .iconst 0, 1, 0, 0, 0, 0), (49, .istore_n 3, 1, 0, 0, 0, 0), (50, .iload_n 3, 1, 0, 0, 0, 0), (51, .aload_n 0, 1, 0, 0, 0, 0), (52, .getfield 7, 3, 0, 12, 0, 0), (55, .iconst 0, 1, 0, 0, 0, 0), (56, .iaload, 1, 0, 0, 0, 0), (57, .if_icmp .ge 25, 3, 0, 0, 0, 0), (60, .iload_n 2, 1, 0, 0, 0, 0), (61, .aload_n 0, 1, 0, 0, 0, 0), (62, .iload_n 3, 1, 0, 0, 0, 0), (63, .invokevirtual 111, 3, 2, 239, 0, 0), (66, .ifCond .eq 7, 3, 0, 0, 0, 0), (69, .iconst 0, 1, 0, 0, 0, 0), (70, .goto 4, 3, 0, 0, 0, 0), (73, .iconst 1, 1, 0, 0, 0, 0), (74, .iadd, 1, 0, 0, 0, 0), (75, .istore_n 2, 1, 0, 0, 0, 0), (76, .iinc 3 1, 3, 0, 0, 0, 0), (79, .goto (-29), 3, 0, 0, 0, 0), (82, .iload_n 2, 1, 0, 0, 0, 0), (83, .ireturn, 1, 0, 0, 0, 0), (84, .iconst 0, 1, 0, 0, 0, 0), (85, .istore_n 3, 1, 0, 0, 0, 0), (86, .iload_n 3, 1, 0, 0, 0, 0), (87, .aload_n 0, 1, 0, 0, 0, 0), (88, .getfield 7, 3, 0, 12, 0, 0), (91, .iconst 1, 1, 0, 0, 0, 0), (92, .iaload, 1, 0, 0, 0, 0), (93, .if_icmp .ge 25, 3, 0, 0, 0, 0), (96, .iload_n 2, 1, 0, 0, 0, 0), (97, .aload_n 0, 1, 0, 0, 0, 0), (98, .iload_n 3, 1, 0, 0, 0, 0), (99, .invokevirtual 124, 3, 2, 230, 0, 0), (102, .ifCond .eq 7, 3, 0, 0, 0, 0), (105, .iconst 0, 1, 0, 0, 0, 0), (106, .goto 4, 3, 0, 0, 0, 0), (109, .iconst 1, 1, 0, 0, 0, 0), (110, .iadd, 1, 0, 0, 0, 0), (111, .istore_n 2, 1, 0, 0, 0, 0), (112, .iinc 3 1, 3, 0, 0, 0, 0), (115, .goto (-29), 3, 0, 0, 0, 0), (118, .iload_n 2, 1, 0, 0, 0, 0), (119, .ireturn, 1, 0, 0, 0, 0), (120, .aload_n 0, 1, 0, 0, 0, 0), (121, .invokevirtual 101, 3, 2, 233, 0, 0), (124, .invokestatic 305, 3, 2, 314, 0, 0), (127, .ireturn, 1, 0, 0, 0, 0), (128, .aload_n 0, 1, 0, 0, 0, 0), (129, .getfield 7, 3, 0, 12, 0, 0), (132, .iconst 3, 1, 0, 0, 0, 0), (133, .iaload, 1, 0, 0, 0, 0), (134, .ireturn, 1, 0, 0, 0, 0), (135, .iconst 0, 1, 0, 0, 0, 0), (136, .istore_n 3, 1, 0, 0, 0, 0), (137, .iload_n 3, 1, 0, 0, 0, 0), (138, .aload_n 0, 1, 0, 0, 0, 0), (139, .getfield 7, 3, 0, 12, 0, 0), (142, .iconst 0, 1, 0, 0, 0, 0), (143, .iaload, 1, 0, 0, 0, 0), (144, .if_icmp .ge 25, 3, 0, 0, 0, 0), (147, .iload_n 2, 1, 0, 0, 0, 0), (148, .aload_n 0, 1, 0, 0, 0, 0), (149, .iload_n 3, 1, 0, 0, 0, 0), (150, .iconst 4, 1, 0, 0, 0, 0), (151, .invokevirtual 72, 3, 2, 226, 0, 0), (154, .aload_n 0, 1, 0, 0, 0, 0), (155, .iload_n 3, 1, 0, 0, 0, 0), (156, .iconst 5, 1, 0, 0, 0, 0), (157, .invokevirtual 72, 3, 2, 226, 0, 0), (160, .iadd, 1, 0, 0, 0, 0), (161, .iadd, 1, 0, 0, 0, 0), (162, .istore_n 2, 1, 0, 0, 0, 0), (163, .iinc 3 1, 3, 0, 0, 0, 0), (166, .goto (-29), 3, 0, 0, 0, 0), (169, .iload_n 2, 1, 0, 0, 0, 0), (170, .ireturn, 1, 0, 0, 0, 0), (171, .aload_n 0, 1, 0, 0, 0, 0), (172, .getfield 7, 3, 0, 12, 0, 0), (175, .iconst 4, 1, 0, 0, 0, 0), (176, .iaload, 1, 0, 0, 0, 0), (177, .ireturn, 1, 0, 0, 0, 0), (178, .aload_n 0, 1, 0, 0, 0, 0), (179, .getfield 7, 3, 0, 12, 0, 0), (182, .iconst 5, 1, 0, 0, 0, 0), (183, .iaload, 1, 0, 0, 0, 0), (184, .ireturn, 1, 0, 0, 0, 0), (185, .aload_n 0, 1, 0, 0, 0, 0), (186, .getfield 64, 3, 0, 12, 3, 0), (189, .ireturn, 1, 0, 0, 0, 0), (190, .aload_n 0, 1, 0, 0, 0, 0), (191, .ldc 76, 2, 6, 0, 0, -100001), (193, .invokevirtual 77, 3, 2, 221, 0, 0), (196, .ireturn, 1, 0, 0, 0, 0)]
set_option maxRecDepth 100000 in
theorem sx_k329 : sx_c329.all (sx_chk 12 prog_14_method_113_code) = true := by decide +kernel
end
section
/-! ===== printed by wip/gen_code.py: the methods' instructions ===== -/
def sx_c330 : List sx_I := [(0, .new 7, 3, 4, 11, 1023, 1001), (3, .dup, 1, 0, 0, 0, 0), (4, .invokespecial 9, 3, 2, 0, 0, 0), (7, .astore_n 1, 1, 0, 0, 0, 0), (8, .new 10, 3, 4, 12, 6138, 1013), (11, .dup, 1, 0, 0, 0, 0), (12, .invokespecial 12, 3, 2, 218, 0, 0), (15, .astore_n 2, 1, 0, 0, 0, 0), (16, .iconst 0, 1, 0, 0, 0, 0), (17, .istore_n 3, 1, 0, 0, 0, 0), (18, .iload_n 3, 1, 0, 0, 0, 0), (19, .aload_n 0, 1, 0, 0, 0, 0), (20, .arraylength, 1, 0, 0, 0, 0), (21, .bipush 6, 2, 0, 0, 0, 0), (23, .isub, 1, 0, 0, 0, 0), (24, .if_icmp .gt 1618, 3, 0, 0, 0, 0), (27, .aload_n 0, 1, 0, 0, 0, 0), (28, .iload_n 3, 1, 0, 0, 0, 0), (29, .iaload, 1, 0, 0, 0, 0), (30, .bipush 63, 2, 0, 0, 0, 0), (32, .iand, 1, 0, 0, 0, 0), (33, .tableswitch 1603 0 39 #[175, 218, 271, 304, 337, 396, 465, 518, 551, 584, 617, 680, 703, 736, 769, 782, 805, 838, 871, 904, 927, 990, 1013, 1046, 1069, 1102, 1135, 1158, 1181, 1214, 1247, 1296, 1339, 1372, 1405, 1448, 1491, 1554, 1567, 1580], 175, 0, 0, 0, 0), (208, .aload_n 1, 1, 0, 0, 0, 0), (209, .aload_n 0, 1, 0, 0, 0, 0), (210, .iload_n 3, 1, 0, 0, 0, 0), (211, .iconst 1, 1, 0, 0, 0, 0), (212, .iadd, 1, 0, 0, 0, 0), (213, .iaload, 1, 0, 0, 0, 0), (214, .aload_n 0, 1, 0, 0, 0, 0), (215, .iload_n 3, 1, 0, 0, 0, 0), (216, .iconst 2, 1, 0, 0, 0, 0), (217, .iadd, 1, 0, 0, 0, 0), (218, .iaload, 1, 0, 0, 0, 0), (219, .aload_n 0, 1, 0, 0, 0, 0), (220, .iload_n 3, 1, 0, 0, 0, 0), (221, .iconst 3, 1, 0, 0, 0, 0), (222, .iadd, 1, 0, 0, 0, 0), (223, .iaload, 1, 0, 0, 0, 0), (224, .invokevirtual 13, 3, 2, 12, 0, 0), (227, .aload_n 2, 1, 0, 0, 0, 0), (228, .aload_n 0, 1, 0, 0, 0, 0), (229, .iload_n 3, 1, 0, 0, 0, 0), (230, .iconst 1, 1, 0, 0, 0, 0), (231, .iadd, 1, 0, 0, 0, 0), (232, .iaload, 1, 0, 0, 0, 0), (233, .aload_n 0, 1, 0, 0, 0, 0), (234, .iload_n 3, 1, 0, 0, 0, 0), (235, .iconst 2, 1, 0, 0, 0, 0), (236, .iadd, 1, 0, 0, 0, 0), (237, .iaload, 1, 0, 0, 0, 0), (238, .aload_n 0, 1, 0, 0, 0, 0), (239, .iload_n 3, 1, 0, 0, 0, 0), (240, .iconst 3, 1, 0, 0, 0, 0), (241, .iadd, 1, 0, 0, 0, 0), (242, .iaload, 1, 0, 0, 0, 0), (243, .invokevirtual 17, 3, 2, 219, 0, 0), (246, .if_icmp .eq 1390, 3, 0, 0, 0, 0), (249, .iconst 0, 1, 0, 0, 0, 0), (250, .ireturn, 1, 0, 0, 0, 0), (251, .aload_n 1, 1, 0, 0, 0, 0), (252, .aload_n 0, 1, 0, 0, 0, 0), (253, .iload_n 3, 1, 0, 0, 0, 0), (254, .iconst 1, 1, 0, 0, 0, 0), (255, .iadd, 1, 0, 0, 0, 0), (256, .iaload, 1, 0, 0, 0, 0), (257, .aload_n 0, 1, 0, 0, 0, 0), (258, .iload_n 3, 1, 0, 0, 0, 0), (259, .iconst 2, 1, 0, 0, 0, 0), (260, .iadd, 1, 0, 0, 0, 0), (261, .iaload, 1, 0, 0, 0, 0), (262, .aload_n 0, 1, 0, 0, 0, 0), (263, .iload_n 3, 1, 0, 0, 0, 0), (264, .iconst 3, 1, 0, 0, 0, 0), (265, .iadd, 1, 0, 0, 0, 0), (266, .iaload, 1, 0, 0, 0, 0), (267, .aload_n 0, 1, 0, 0, 0, 0), (268, .iload_n 3, 1, 0, 0, 0, 0), (269, .iconst 4, 1, 0, 0, 0, 0), (270, .iadd, 1, 0, 0, 0, 0), (271, .iaload, 1, 0, 0, 0, 0), (272, .invokevirtual 18, 3, 2, 17, 0, 0), (275, .aload_n 2, 1, 0, 0, 0, 0), (276, .aload_n 0, 1, 0, 0, 0, 0), (277, .iload_n 3, 1, 0, 0, 0, 0), (278, .iconst 1, 1, 0, 0, 0, 0), (279, .iadd, 1, 0, 0, 0, 0), (280, .iaload, 1, 0, 0, 0, 0), (281, .aload_n 0, 1, 0, 0, 0, 0), (282, .iload_n 3, 1, 0, 0, 0, 0), (283, .iconst 2, 1, 0, 0, 0, 0), (284, .iadd, 1, 0, 0, 0, 0), (285, .iaload, 1, 0, 0, 0, 0), (286, .aload_n 0, 1, 0, 0, 0, 0), (287, .iload_n 3, 1, 0, 0, 0, 0), (288, .iconst 3, 1, 0, 0, 0, 0), (289, .iadd, 1, 0, 0, 0, 0), (290, .iaload, 1, 0, 0, 0, 0), (291, .aload_n 0, 1, 0, 0, 0, 0), (292, .iload_n 3, 1, 0, 0, 0, 0), (293, .iconst 4, 1, 0, 0, 0, 0), (294, .iadd, 1, 0, 0, 0, 0), (295, .iaload, 1, 0, 0, 0, 0), (296, .invokevirtual 22, 3, 2, 222, 0, 0), (299, .if_icmp .eq 1337, 3, 0, 0, 0, 0), (302, .iconst 0, 1, 0, 0, 0, 0), (303, .ireturn, 1, 0, 0, 0, 0), (304, .aload_n 1, 1, 0, 0, 0, 0), (305, .aload_n 0, 1, 0, 0, 0, 0), (306, .iload_n 3, 1, 0, 0, 0, 0), (307, .iconst 1, 1, 0, 0, 0, 0), (308, .iadd, 1, 0, 0, 0, 0), (309, .iaload, 1, 0, 0, 0, 0), (310, .aload_n 0, 1, 0, 0, 0, 0), (311, .iload_n 3, 1, 0, 0, 0, 0), (312, .iconst 2, 1, 0, 0, 0, 0), (313, .iadd, 1, 0, 0, 0, 0), (314, .iaload, 1, 0, 0, 0, 0), (315, .invokevirtual 23, 3, 2, 22, 0, 0), (318, .aload_n 2, 1, 0, 0, 0, 0), (319, .aload_n 0, 1, 0, 0, 0, 0), (320, .iload_n 3, 1, 0, 0, 0, 0), (321, .iconst 1, 1, 0, 0, 0, 0), (322, .iadd, 1, 0, 0, 0, 0), (323, .iaload, 1, 0, 0, 0, 0), (324, .aload_n 0, 1, 0, 0, 0, 0), (325, .iload_n 3, 1, 0, 0, 0, 0), (326, .iconst 2, 1, 0, 0, 0, 0), (327, .iadd, 1, 0, 0, 0, 0), (328, .iaload, 1, 0, 0, 0, 0), (329, .invokevirtual 27, 3, 2, 224, 0, 0), (332, .if_icmp .eq 1304, 3, 0, 0, 0, 0), (335, .iconst 0, 1, 0, 0, 0, 0), (336, .ireturn, 1, 0, 0, 0, 0), (337, .aload_n 1, 1, 0, 0, 0, 0), (338, .aload_n 0, 1, 0, 0, 0, 0), (339, .iload_n 3, 1, 0, 0, 0, 0), (340, .iconst 1, 1, 0, 0, 0, 0), (341, .iadd, 1, 0, 0, 0, 0), (342, .iaload, 1, 0, 0, 0, 0), (343, .aload_n 0, 1, 0, 0, 0, 0), (344, .iload_n 3, 1, 0, 0, 0, 0), (345, .iconst 2, 1, 0, 0, 0, 0), (346, .iadd, 1, 0, 0, 0, 0), (347, .iaload, 1, 0, 0, 0, 0), (348, .invokevirtual 28, 3, 2, 25, 0, 0), (351, .aload_n 2, 1, 0, 0, 0, 0), (352, .aload_n 0, 1, 0, 0, 0, 0), (353, .iload_n 3, 1, 0, 0, 0, 0), (354, .iconst 1, 1, 0, 0, 0, 0), (355, .iadd, 1, 0, 0, 0, 0), (356, .iaload, 1, 0, 0, 0, 0), (357, .aload_n 0, 1, 0, 0, 0, 0), (358, .iload_n 3, 1, 0, 0, 0, 0), (359, .iconst 2, 1, 0, 0, 0, 0), (360, .iadd, 1, 0, 0, 0, 0), (361, .iaload, 1, 0, 0, 0, 0), (362, .invokevirtual 31, 3, 2, 227, 0, 0), (365, .if_icmp .eq 1271, 3, 0, 0, 0, 0), (368, .iconst 0, 1, 0, 0, 0, 0), (369, .ireturn, 1, 0, 0, 0, 0), (370, .aload_n 1, 1, 0, 0, 0, 0), (371, .aload_n 0, 1, 0, 0, 0, 0), (372, .iload_n 3, 1, 0, 0, 0, 0), (373, .iconst 1, 1, 0, 0, 0, 0), (374, .iadd, 1, 0, 0, 0, 0), (375, .iaload, 1, 0, 0, 0, 0), (376, .aload_n 0, 1, 0, 0, 0, 0), (377, .iload_n 3, 1, 0, 0, 0, 0), (378, .iconst 2, 1, 0, 0, 0, 0), (379, .iadd, 1, 0, 0, 0, 0), (380, .iaload, 1, 0, 0, 0, 0), (381, .aload_n 0, 1, 0, 0, 0, 0), (382, .iload_n 3, 1, 0, 0, 0, 0), (383, .iconst 3, 1, 0, 0, 0, 0), (384, .iadd, 1, 0, 0, 0, 0), (385, .iaload, 1, 0, 0, 0, 0), (386, .ifCond .eq 7, 3, 0, 0, 0, 0), (389, .iconst 1, 1, 0, 0, 0, 0), (390, .goto 4, 3, 0, 0, 0, 0), (393, .iconst 0, 1, 0, 0, 0, 0), (394, .invokevirtual 32, 3, 2, 38, 0, 0), (397, .aload_n 2, 1, 0, 0, 0, 0), (398, .aload_n 0, 1, 0, 0, 0, 0), (399, .iload_n 3, 1, 0, 0, 0, 0), (400, .iconst 1, 1, 0, 0, 0, 0), (401, .iadd, 1, 0, 0, 0, 0), (402, .iaload, 1, 0, 0, 0, 0), (403, .aload_n 0, 1, 0, 0, 0, 0), (404, .iload_n 3, 1, 0, 0, 0, 0), (405, .iconst 2, 1, 0, 0, 0, 0), (406, .iadd, 1, 0, 0, 0, 0), (407, .iaload, 1, 0, 0, 0, 0), (408, .aload_n 0, 1, 0, 0, 0, 0), (409, .iload_n 3, 1, 0, 0, 0, 0), (410, .iconst 3, 1, 0, 0, 0, 0), (411, .iadd, 1, 0, 0, 0, 0), (412, .iaload, 1, 0, 0, 0, 0), (413, .ifCond .eq 7, 3, 0, 0, 0, 0), (416, .iconst 1, 1, 0, 0, 0, 0), (417, .goto 4, 3, 0, 0, 0, 0), (420, .iconst 0, 1, 0, 0, 0, 0), (421, .invokevirtual 36, 3, 2, 238, 0, 0), (424, .if_icmp .eq 1212, 3, 0, 0, 0, 0), (427, .iconst 0, 1, 0, 0, 0, 0), (428, .ireturn, 1, 0, 0, 0, 0), (429, .aload_n 1, 1, 0, 0, 0, 0), (430, .aload_n 0, 1, 0, 0, 0, 0), (431, .iload_n 3, 1, 0, 0, 0, 0), (432, .iconst 1, 1, 0, 0, 0, 0), (433, .iadd, 1, 0, 0, 0, 0), (434, .iaload, 1, 0, 0, 0, 0), (435, .aload_n 0, 1, 0, 0, 0, 0), (436, .iload_n 3, 1, 0, 0, 0, 0), (437, .iconst 2, 1, 0, 0, 0, 0), (438, .iadd, 1, 0, 0, 0, 0), (439, .iaload, 1, 0, 0, 0, 0), (440, .aload_n 0, 1, 0, 0, 0, 0), (441, .iload_n 3, 1, 0, 0, 0, 0), (442, .iconst 3, 1, 0, 0, 0, 0), (443, .iadd, 1, 0, 0, 0, 0), (444, .iaload, 1, 0, 0, 0, 0), (445, .aload_n 0, 1, 0, 0, 0, 0), (446, .iload_n 3, 1, 0, 0, 0, 0), (447, .iconst 4, 1, 0, 0, 0, 0), (448, .iadd, 1, 0, 0, 0, 0), (449, .iaload, 1, 0, 0, 0, 0), (450, .ifCond .eq 7, 3, 0, 0, 0, 0), (453, .iconst 1, 1, 0, 0, 0, 0), (454, .goto 4, 3, 0, 0, 0, 0), (457, .iconst 0, 1, 0, 0, 0, 0), (458, .invokevirtual 37, 3, 2, 42, 0, 0), (461, .aload_n 2, 1, 0, 0, 0, 0), (462, .aload_n 0, 1, 0, 0, 0, 0), (463, .iload_n 3, 1, 0, 0, 0, 0), (464, .iconst 1, 1, 0, 0, 0, 0), (465, .iadd, 1, 0, 0, 0, 0), (466, .iaload, 1, 0, 0, 0, 0), (467, .aload_n 0, 1, 0, 0, 0, 0), (468, .iload_n 3, 1, 0, 0, 0, 0), (469, .iconst 2, 1, 0, 0, 0, 0), (470, .iadd, 1, 0, 0, 0, 0), (471, .iaload, 1, 0, 0, 0, 0), (472, .aload_n 0, 1, 0, 0, 0, 0), (473, .iload_n 3, 1, 0, 0, 0, 0), (474, .iconst 3, 1, 0, 0, 0, 0), (475, .iadd, 1, 0, 0, 0, 0), (476, .iaload, 1, 0, 0, 0, 0), (477, .aload_n 0, 1, 0, 0, 0, 0), (478, .iload_n 3, 1, 0, 0, 0, 0), (479, .iconst 4, 1, 0, 0, 0, 0), (480, .iadd, 1, 0, 0, 0, 0), (481, .iaload, 1, 0, 0, 0, 0), (482, .ifCond .eq 7, 3, 0, 0, 0, 0), (485, .iconst 1, 1, 0, 0, 0, 0), (486, .goto 4, 3, 0, 0, 0, 0), (489, .iconst 0, 1, 0, 0, 0, 0), (490, .invokevirtual 41, 3, 2, 241, 0, 0), (493, .if_icmp .eq 1143, 3, 0, 0, 0, 0), (496, .iconst 0, 1, 0, 0, 0, 0), (497, .ireturn, 1, 0, 0, 0, 0), (498, .aload_n 1, 1, 0, 0, 0, 0), (499, .aload_n 0, 1, 0, 0, 0, 0), (500, .iload_n 3, 1, 0, 0, 0, 0), (501, .iconst 1, 1, 0, 0, 0, 0), (502, .iadd, 1, 0, 0, 0, 0), (503, .iaload, 1, 0, 0, 0, 0), (504, .aload_n 0, 1, 0, 0, 0, 0), (505, .iload_n 3, 1, 0, 0, 0, 0), (506, .iconst 2, 1, 0, 0, 0, 0), (507, .iadd, 1, 0, 0, 0, 0), (508, .iaload, 1, 0, 0, 0, 0), (509, .aload_n 0, 1, 0, 0, 0, 0), (510, .iload_n 3, 1, 0, 0, 0, 0), (511, .iconst 3, 1, 0, 0, 0, 0), (512, .iadd, 1, 0, 0, 0, 0), (513, .iaload, 1, 0, 0, 0, 0), (514, .aload_n 0, 1, 0, 0, 0, 0), (515, .iload_n 3, 1, 0, 0, 0, 0), (516, .iconst 4, 1, 0, 0, 0, 0), (517, .iadd, 1, 0, 0, 0, 0), (518, .iaload, 1, 0, 0, 0, 0), (519, .invokevirtual 42, 3, 2, 45, 0, 0), (522, .aload_n 2, 1, 0, 0, 0, 0), (523, .aload_n 0, 1, 0, 0, 0, 0), (524, .iload_n 3, 1, 0, 0, 0, 0), (525, .iconst 1, 1, 0, 0, 0, 0), (526, .iadd, 1, 0, 0, 0, 0), (527, .iaload, 1, 0, 0, 0, 0), (528, .aload_n 0, 1, 0, 0, 0, 0), (529, .iload_n 3, 1, 0, 0, 0, 0), (530, .iconst 2, 1, 0, 0, 0, 0), (531, .iadd, 1, 0, 0, 0, 0), (532, .iaload, 1, 0, 0, 0, 0), (533, .aload_n 0, 1, 0, 0, 0, 0), (534, .iload_n 3, 1, 0, 0, 0, 0), (535, .iconst 3, 1, 0, 0, 0, 0), (536, .iadd, 1, 0, 0, 0, 0), (537, .iaload, 1, 0, 0, 0, 0), (538, .aload_n 0, 1, 0, 0, 0, 0), (539, .iload_n 3, 1, 0, 0, 0, 0), (540, .iconst 4, 1, 0, 0, 0, 0), (541, .iadd, 1, 0, 0, 0, 0), (542, .iaload, 1, 0, 0, 0, 0), (543, .invokevirtual 45, 3, 2, 242, 0, 0), (546, .if_icmp .eq 1090, 3, 0, 0, 0, 0), (549, .iconst 0, 1, 0, 0, 0, 0), (550, .ireturn, 1, 0, 0, 0, 0), (551, .aload_n 1, 1, 0, 0, 0, 0), (552, .aload_n 0, 1, 0, 0, 0, 0), (553, .iload_n 3, 1, 0, 0, 0, 0), (554, .iconst 1, 1, 0, 0, 0, 0), (555, .iadd, 1, 0, 0, 0, 0), (556, .iaload, 1, 0, 0, 0, 0), (557, .aload_n 0, 1, 0, 0, 0, 0), (558, .iload_n 3, 1, 0, 0, 0, 0), (559, .iconst 2, 1, 0, 0, 0, 0), (560, .iadd, 1, 0, 0, 0, 0), (561, .iaload, 1, 0, 0, 0, 0), (562, .invokevirtual 46, 3, 2, 49, 0, 0), (565, .aload_n 2, 1, 0, 0, 0, 0), (566, .aload_n 0, 1, 0, 0, 0, 0), (567, .iload_n 3, 1, 0, 0, 0, 0), (568, .iconst 1, 1, 0, 0, 0, 0), (569, .iadd, 1, 0, 0, 0, 0), (570, .iaload, 1, 0, 0, 0, 0), (571, .aload_n 0, 1, 0, 0, 0, 0), (572, .iload_n 3, 1, 0, 0, 0, 0), (573, .iconst 2, 1, 0, 0, 0, 0), (574, .iadd, 1, 0, 0, 0, 0), (575, .iaload, 1, 0, 0, 0, 0), (576, .invokevirtual 49, 3, 2, 243, 0, 0), (579, .if_icmp .eq 1057, 3, 0, 0, 0, 0), (582, .iconst 0, 1, 0, 0, 0, 0), (583, .ireturn, 1, 0, 0, 0, 0), (584, .aload_n 1, 1, 0, 0, 0, 0), (585, .aload_n 0, 1, 0, 0, 0, 0), (586, .iload_n 3, 1, 0, 0, 0, 0), (587, .iconst 1, 1, 0, 0, 0, 0), (588, .iadd, 1, 0, 0, 0, 0), (589, .iaload, 1, 0, 0, 0, 0), (590, .aload_n 0, 1, 0, 0, 0, 0), (591, .iload_n 3, 1, 0, 0, 0, 0), (592, .iconst 2, 1, 0, 0, 0, 0), (593, .iadd, 1, 0, 0, 0, 0), (594, .iaload, 1, 0, 0, 0, 0), (595, .invokevirtual 50, 3, 2, 51, 0, 0), (598, .aload_n 2, 1, 0, 0, 0, 0), (599, .aload_n 0, 1, 0, 0, 0, 0), (600, .iload_n 3, 1, 0, 0, 0, 0), (601, .iconst 1, 1, 0, 0, 0, 0), (602, .iadd, 1, 0, 0, 0, 0), (603, .iaload, 1, 0, 0, 0, 0), (604, .aload_n 0, 1, 0, 0, 0, 0), (605, .iload_n 3, 1, 0, 0, 0, 0), (606, .iconst 2, 1, 0, 0, 0, 0), (607, .iadd, 1, 0, 0, 0, 0), (608, .iaload, 1, 0, 0, 0, 0), (609, .invokevirtual 53, 3, 2, 245, 0, 0), (612, .if_icmp .eq 1024, 3, 0, 0, 0, 0), (615, .iconst 0, 1, 0, 0, 0, 0), (616, .ireturn, 1, 0, 0, 0, 0), (617, .aload_n 1, 1, 0, 0, 0, 0), (618, .aload_n 0, 1, 0, 0, 0, 0), (619, .iload_n 3, 1, 0, 0, 0, 0), (620, .iconst 1, 1, 0, 0, 0, 0), (621, .iadd, 1, 0, 0, 0, 0), (622, .iaload, 1, 0, 0, 0, 0), (623, .aload_n 0, 1, 0, 0, 0, 0), (624, .iload_n 3, 1, 0, 0, 0, 0), (625, .iconst 2, 1, 0, 0, 0, 0), (626, .iadd, 1, 0, 0, 0, 0), (627, .iaload, 1, 0, 0, 0, 0), (628, .invokevirtual 54, 3, 2, 52, 0, 0), (631, .aload_n 2, 1, 0, 0, 0, 0), (632, .aload_n 0, 1, 0, 0, 0, 0), (633, .iload_n 3, 1, 0, 0, 0, 0), (634, .iconst 1, 1, 0, 0, 0, 0), (635, .iadd, 1, 0, 0, 0, 0), (636, .iaload, 1, 0, 0, 0, 0), (637, .aload_n 0, 1, 0, 0, 0, 0), (638, .iload_n 3, 1, 0, 0, 0, 0), (639, .iconst 2, 1, 0, 0, 0, 0), (640, .iadd, 1, 0, 0, 0, 0), (641, .iaload, 1, 0, 0, 0, 0), (642, .invokevirtual 57, 3, 2, 246, 0, 0), (645, .if_icmp .eq 991, 3, 0, 0, 0, 0), (648, .iconst 0, 1, 0, 0, 0, 0), (649, .ireturn, 1, 0, 0, 0, 0), (650, .aload_n 1, 1, 0, 0, 0, 0), (651, .aload_n 0, 1, 0, 0, 0, 0), (652, .iload_n 3, 1, 0, 0, 0, 0), (653, .iconst 1, 1, 0, 0, 0, 0), (654, .iadd, 1, 0, 0, 0, 0), (655, .iaload, 1, 0, 0, 0, 0), (656, .aload_n 0, 1, 0, 0, 0, 0), (657, .iload_n 3, 1, 0, 0, 0, 0), (658, .iconst 2, 1, 0, 0, 0, 0), (659, .iadd, 1, 0, 0, 0, 0), (660, .iaload, 1, 0, 0, 0, 0), (661, .aload_n 0, 1, 0, 0, 0, 0), (662, .iload_n 3, 1, 0, 0, 0, 0), (663, .iconst 3, 1, 0, 0, 0, 0), (664, .iadd, 1, 0, 0, 0, 0), (665, .iaload, 1, 0, 0, 0, 0), (666, .aload_n 0, 1, 0, 0, 0, 0), (667, .iload_n 3, 1, 0, 0, 0, 0), (668, .iconst 4, 1, 0, 0, 0, 0), (669, .iadd, 1, 0, 0, 0, 0), (670, .iaload, 1, 0, 0, 0, 0), (671, .aload_n 0, 1, 0, 0, 0, 0), (672, .iload_n 3, 1, 0, 0, 0, 0), (673, .iconst 5, 1, 0, 0, 0, 0), (674, .iadd, 1, 0, 0, 0, 0), (675, .iaload, 1, 0, 0, 0, 0), (676, .invokevirtual 58, 3, 2, 56, 0, 0), (679, .aload_n 2, 1, 0, 0, 0, 0), (680, .aload_n 0, 1, 0, 0, 0, 0), (681, .iload_n 3, 1, 0, 0, 0, 0), (682, .iconst 1, 1, 0, 0, 0, 0), (683, .iadd, 1, 0, 0, 0, 0), (684, .iaload, 1, 0, 0, 0, 0), (685, .aload_n 0, 1, 0, 0, 0, 0), (686, .iload_n 3, 1, 0, 0, 0, 0), (687, .iconst 2, 1, 0, 0, 0, 0), (688, .iadd, 1, 0, 0, 0, 0), (689, .iaload, 1, 0, 0, 0, 0), (690, .aload_n 0, 1, 0, 0, 0, 0), (691, .iload_n 3, 1, 0, 0, 0, 0), (692, .iconst 3, 1, 0, 0, 0, 0), (693, .iadd, 1, 0, 0, 0, 0), (694, .iaload, 1, 0, 0, 0, 0), (695, .aload_n 0, 1, 0, 0, 0, 0), (696, .iload_n 3, 1, 0, 0, 0, 0), (697, .iconst 4, 1, 0, 0, 0, 0), (698, .iadd, 1, 0, 0, 0, 0), (699, .iaload, 1, 0, 0, 0, 0), (700, .aload_n 0, 1, 0, 0, 0, 0), (701, .iload_n 3, 1, 0, 0, 0, 0), (702, .iconst 5, 1, 0, 0, 0, 0), (703, .iadd, 1, 0, 0, 0, 0), (704, .iaload, 1, 0, 0, 0, 0), (705, .invokevirtual 62, 3, 2, 252, 0, 0), (708, .if_icmp .eq 928, 3, 0, 0, 0, 0), (711, .iconst 0, 1, 0, 0, 0, 0), (712, .ireturn, 1, 0, 0, 0, 0), (713, .aload_n 1, 1, 0, 0, 0, 0), (714, .aload_n 0, 1, 0, 0, 0, 0), (715, .iload_n 3, 1, 0, 0, 0, 0), (716, .iconst 1, 1, 0, 0, 0, 0), (717, .iadd, 1, 0, 0, 0, 0), (718, .iaload, 1, 0, 0, 0, 0), (719, .invokevirtual 63, 3, 2, 65, 0, 0), (722, .aload_n 2, 1, 0, 0, 0, 0), (723, .aload_n 0, 1, 0, 0, 0, 0), (724, .iload_n 3, 1, 0, 0, 0, 0), (725, .iconst 1, 1, 0, 0, 0, 0), (726, .iadd, 1, 0, 0, 0, 0), (727, .iaload, 1, 0, 0, 0, 0), (728, .invokevirtual 67, 3, 2, 304, 0, 0), (731, .if_icmp .eq 905, 3, 0, 0, 0, 0), (734, .iconst 0, 1, 0, 0, 0, 0), (735, .ireturn, 1, 0, 0, 0, 0), (736, .aload_n 1, 1, 0, 0, 0, 0), (737, .aload_n 0, 1, 0, 0, 0, 0), (738, .iload_n 3, 1, 0, 0, 0, 0), (739, .iconst 1, 1, 0, 0, 0, 0), (740, .iadd, 1, 0, 0, 0, 0), (741, .iaload, 1, 0, 0, 0, 0), (742, .aload_n 0, 1, 0, 0, 0, 0), (743, .iload_n 3, 1, 0, 0, 0, 0), (744, .iconst 2, 1, 0, 0, 0, 0), (745, .iadd, 1, 0, 0, 0, 0), (746, .iaload, 1, 0, 0, 0, 0), (747, .invokevirtual 68, 3, 2, 93, 0, 0), (750, .aload_n 2, 1, 0, 0, 0, 0), (751, .aload_n 0, 1, 0, 0, 0, 0), (752, .iload_n 3, 1, 0, 0, 0, 0), (753, .iconst 1, 1, 0, 0, 0, 0), (754, .iadd, 1, 0, 0, 0, 0), (755, .iaload, 1, 0, 0, 0, 0), (756, .aload_n 0, 1, 0, 0, 0, 0), (757, .iload_n 3, 1, 0, 0, 0, 0), (758, .iconst 2, 1, 0, 0, 0, 0), (759, .iadd, 1, 0, 0, 0, 0), (760, .iaload, 1, 0, 0, 0, 0), (761, .invokevirtual 71, 3, 2, 256, 0, 0), (764, .if_icmp .eq 872, 3, 0, 0, 0, 0), (767, .iconst 0, 1, 0, 0, 0, 0), (768, .ireturn, 1, 0, 0, 0, 0), (769, .aload_n 1, 1, 0, 0, 0, 0), (770, .aload_n 0, 1, 0, 0, 0, 0), (771, .iload_n 3, 1, 0, 0, 0, 0), (772, .iconst 1, 1, 0, 0, 0, 0), (773, .iadd, 1, 0, 0, 0, 0), (774, .iaload, 1, 0, 0, 0, 0), (775, .aload_n 0, 1, 0, 0, 0, 0), (776, .iload_n 3, 1, 0, 0, 0, 0), (777, .iconst 2, 1, 0, 0, 0, 0), (778, .iadd, 1, 0, 0, 0, 0), (779, .iaload, 1, 0, 0, 0, 0), (780, .invokevirtual 72, 3, 2, 94, 0, 0), (783, .aload_n 2, 1, 0, 0, 0, 0), (784, .aload_n 0, 1, 0, 0, 0, 0), (785, .iload_n 3, 1, 0, 0, 0, 0), (786, .iconst 1, 1, 0, 0, 0, 0), (787, .iadd, 1, 0, 0, 0, 0), (788, .iaload, 1, 0, 0, 0, 0), (789, .aload_n 0, 1, 0, 0, 0, 0), (790, .iload_n 3, 1, 0, 0, 0, 0), (791, .iconst 2, 1, 0, 0, 0, 0), (792, .iadd, 1, 0, 0, 0, 0), (793, .iaload, 1, 0, 0, 0, 0), (794, .invokevirtual 75, 3, 2, 262, 0, 0), (797, .if_icmp .eq 839, 3, 0, 0, 0, 0), (800, .iconst 0, 1, 0, 0, 0, 0), (801, .ireturn, 1, 0, 0, 0, 0), (802, .aload_n 1, 1, 0, 0, 0, 0), (803, .invokevirtual 76, 3, 2, 96, 0, 0), (806, .aload_n 2, 1, 0, 0, 0, 0), (807, .invokevirtual 80, 3, 2, 249, 0, 0), (810, .if_icmp .eq 826, 3, 0, 0, 0, 0), (813, .iconst 0, 1, 0, 0, 0, 0), (814, .ireturn, 1, 0, 0, 0, 0), (815, .aload_n 1, 1, 0, 0, 0, 0), (816, .aload_n 0, 1, 0, 0, 0, 0), (817, .iload_n 3, 1, 0, 0, 0, 0), (818, .iconst 1, 1, 0, 0, 0, 0), (819, .iadd, 1, 0, 0, 0, 0), (820, .iaload, 1, 0, 0, 0, 0), (821, .invokevirtual 81, 3, 2, 97, 0, 0), (824, .aload_n 2, 1, 0, 0, 0, 0), (825, .aload_n 0, 1, 0, 0, 0, 0), (826, .iload_n 3, 1, 0, 0, 0, 0), (827, .iconst 1, 1, 0, 0, 0, 0), (828, .iadd, 1, 0, 0, 0, 0), (829, .iaload, 1, 0, 0, 0, 0), (830, .invokevirtual 84, 3, 2, 251, 0, 0), (833, .if_icmp .eq 803, 3, 0, 0, 0, 0), (836, .iconst 0, 1, 0, 0, 0, 0), (837, .ireturn, 1, 0, 0, 0, 0), (838, .aload_n 1, 1, 0, 0, 0, 0), (839, .aload_n 0, 1, 0, 0, 0, 0), (840, .iload_n 3, 1, 0, 0, 0, 0), (841, .iconst 1, 1, 0, 0, 0, 0), (842, .iadd, 1, 0, 0, 0, 0), (843, .iaload, 1, 0, 0, 0, 0), (844, .aload_n 0, 1, 0, 0, 0, 0), (845, .iload_n 3, 1, 0, 0, 0, 0), (846, .iconst 2, 1, 0, 0, 0, 0), (847, .iadd, 1, 0, 0, 0, 0), (848, .iaload, 1, 0, 0, 0, 0), (849, .invokevirtual 85, 3, 2, 98, 0, 0), (852, .aload_n 2, 1, 0, 0, 0, 0), (853, .aload_n 0, 1, 0, 0, 0, 0), (854, .iload_n 3, 1, 0, 0, 0, 0), (855, .iconst 1, 1, 0, 0, 0, 0), (856, .iadd, 1, 0, 0, 0, 0), (857, .iaload, 1, 0, 0, 0, 0), (858, .aload_n 0, 1, 0, 0, 0, 0), (859, .iload_n 3, 1, 0, 0, 0, 0), (860, .iconst 2, 1, 0, 0, 0, 0), (861, .iadd, 1, 0, 0, 0, 0), (862, .iaload, 1, 0, 0, 0, 0), (863, .invokevirtual 88, 3, 2, 265, 0, 0), (866, .if_icmp .eq 770, 3, 0, 0, 0, 0), (869, .iconst 0, 1, 0, 0, 0, 0), (870, .ireturn, 1, 0, 0, 0, 0), (871, .aload_n 1, 1, 0, 0, 0, 0), (872, .aload_n 0, 1, 0, 0, 0, 0), (873, .iload_n 3, 1, 0, 0, 0, 0), (874, .iconst 1, 1, 0, 0, 0, 0), (875, .iadd, 1, 0, 0, 0, 0), (876, .iaload, 1, 0, 0, 0, 0), (877, .aload_n 0, 1, 0, 0, 0, 0), (878, .iload_n 3, 1, 0, 0, 0, 0), (879, .iconst 2, 1, 0, 0, 0, 0), (880, .iadd, 1, 0, 0, 0, 0), (881, .iaload, 1, 0, 0, 0, 0), (882, .invokevirtual 89, 3, 2, 102, 0, 0), (885, .aload_n 2, 1, 0, 0, 0, 0), (886, .aload_n 0, 1, 0, 0, 0, 0), (887, .iload_n 3, 1, 0, 0, 0, 0), (888, .iconst 1, 1, 0, 0, 0, 0), (889, .iadd, 1, 0, 0, 0, 0), (890, .iaload, 1, 0, 0, 0, 0), (891, .aload_n 0, 1, 0, 0, 0, 0), (892, .iload_n 3, 1, 0, 0, 0, 0), (893, .iconst 2, 1, 0, 0, 0, 0), (894, .iadd, 1, 0, 0, 0, 0), (895, .iaload, 1, 0, 0, 0, 0), (896, .invokevirtual 92, 3, 2, 269, 0, 0), (899, .if_icmp .eq 737, 3, 0, 0, 0, 0), (902, .iconst 0, 1, 0, 0, 0, 0), (903, .ireturn, 1, 0, 0, 0, 0), (904, .aload_n 1, 1, 0, 0, 0, 0), (905, .aload_n 0, 1, 0, 0, 0, 0), (906, .iload_n 3, 1, 0, 0, 0, 0), (907, .iconst 1, 1, 0, 0, 0, 0), (908, .iadd, 1, 0, 0, 0, 0), (909, .iaload, 1, 0, 0, 0, 0), (910, .aload_n 0, 1, 0, 0, 0, 0), (911, .iload_n 3, 1, 0, 0, 0, 0), (912, .iconst 2, 1, 0, 0, 0, 0), (913, .iadd, 1, 0, 0, 0, 0), (914, .iaload, 1, 0, 0, 0, 0), (915, .invokevirtual 93, 3, 2, 121, 0, 0), (918, .aload_n 2, 1, 0, 0, 0, 0), (919, .aload_n 0, 1, 0, 0, 0, 0), (920, .iload_n 3, 1, 0, 0, 0, 0), (921, .iconst 1, 1, 0, 0, 0, 0), (922, .iadd, 1, 0, 0, 0, 0), (923, .iaload, 1, 0, 0, 0, 0), (924, .aload_n 0, 1, 0, 0, 0, 0), (925, .iload_n 3, 1, 0, 0, 0, 0), (926, .iconst 2, 1, 0, 0, 0, 0), (927, .iadd, 1, 0, 0, 0, 0), (928, .iaload, 1, 0, 0, 0, 0), (929, .invokevirtual 96, 3, 2, 281, 0, 0), (932, .if_icmp .eq 704, 3, 0, 0, 0, 0), (935, .iconst 0, 1, 0, 0, 0, 0), (936, .ireturn, 1, 0, 0, 0, 0), (937, .aload_n 1, 1, 0, 0, 0, 0), (938, .aload_n 0, 1, 0, 0, 0, 0), (939, .iload_n 3, 1, 0, 0, 0, 0), (940, .iconst 1, 1, 0, 0, 0, 0), (941, .iadd, 1, 0, 0, 0, 0), (942, .iaload, 1, 0, 0, 0, 0), (943, .invokevirtual 97, 3, 2, 125, 0, 0), (946, .aload_n 2, 1, 0, 0, 0, 0), (947, .aload_n 0, 1, 0, 0, 0, 0), (948, .iload_n 3, 1, 0, 0, 0, 0), (949, .iconst 1, 1, 0, 0, 0, 0), (950, .iadd, 1, 0, 0, 0, 0), (951, .iaload, 1, 0, 0, 0, 0), (952, .invokevirtual 100, 3, 2, 283, 0, 0), (955, .if_icmp .eq 681, 3, 0, 0, 0, 0), (958, .iconst 0, 1, 0, 0, 0, 0), (959, .ireturn, 1, 0, 0, 0, 0), (960, .aload_n 1, 1, 0, 0, 0, 0), (961, .aload_n 0, 1, 0, 0, 0, 0), (962, .iload_n 3, 1, 0, 0, 0, 0), (963, .iconst 1, 1, 0, 0, 0, 0), (964, .iadd, 1, 0, 0, 0, 0), (965, .iaload, 1, 0, 0, 0, 0), (966, .aload_n 0, 1, 0, 0, 0, 0), (967, .iload_n 3, 1, 0, 0, 0, 0), (968, .iconst 2, 1, 0, 0, 0, 0), (969, .iadd, 1, 0, 0, 0, 0), (970, .iaload, 1, 0, 0, 0, 0), (971, .i2l, 1, 0, 0, 0, 0), (972, .bipush 32, 2, 0, 0, 0, 0), (974, .lshl, 1, 0, 0, 0, 0), (975, .aload_n 0, 1, 0, 0, 0, 0), (976, .iload_n 3, 1, 0, 0, 0, 0), (977, .iconst 3, 1, 0, 0, 0, 0), (978, .iadd, 1, 0, 0, 0, 0), (979, .iaload, 1, 0, 0, 0, 0), (980, .i2l, 1, 0, 0, 0, 0), (981, .ldc2_w 101, 3, 7, 0, 0, 4294967295), (984, .land, 1, 0, 0, 0, 0), (985, .lor, 1, 0, 0, 0, 0), (986, .invokevirtual 103, 3, 2, 127, 0, 0), (989, .aload_n 2, 1, 0, 0, 0, 0), (990, .aload_n 0, 1, 0, 0, 0, 0), (991, .iload_n 3, 1, 0, 0, 0, 0), (992, .iconst 1, 1, 0, 0, 0, 0), (993, .iadd, 1, 0, 0, 0, 0), (994, .iaload, 1, 0, 0, 0, 0), (995, .aload_n 0, 1, 0, 0, 0, 0), (996, .iload_n 3, 1, 0, 0, 0, 0), (997, .iconst 2, 1, 0, 0, 0, 0), (998, .iadd, 1, 0, 0, 0, 0), (999, .iaload, 1, 0, 0, 0, 0), (1000, .i2l, 1, 0, 0, 0, 0), (1001, .bipush 32, 2, 0, 0, 0, 0), (1003, .lshl, 1, 0, 0, 0, 0), (1004, .aload_n 0, 1, 0, 0, 0, 0), (1005, .iload_n 3, 1, 0, 0, 0, 0), (1006, .iconst 3, 1, 0, 0, 0, 0), (1007, .iadd, 1, 0, 0, 0, 0), (1008, .iaload, 1, 0, 0, 0, 0), (1009, .i2l, 1, 0, 0, 0, 0), (1010, .ldc2_w 101, 3, 7, 0, 0, 4294967295), (1013, .land, 1, 0, 0, 0, 0), (1014, .lor, 1, 0, 0, 0, 0), (1015, .invokevirtual 107, 3, 2, 286, 0, 0), (1018, .if_icmp .eq 618, 3, 0, 0, 0, 0), (1021, .iconst 0, 1, 0, 0, 0, 0), (1022, .ireturn, 1, 0, 0, 0, 0), (1023, .aload_n 1, 1, 0, 0, 0, 0), (1024, .aload_n 0, 1, 0, 0, 0, 0), (1025, .iload_n 3, 1, 0, 0, 0, 0), (1026, .iconst 1, 1, 0, 0, 0, 0), (1027, .iadd, 1, 0, 0, 0, 0), (1028, .iaload, 1, 0, 0, 0, 0), (1029, .invokevirtual 108, 3, 2, 130, 0, 0), (1032, .aload_n 2, 1, 0, 0, 0, 0), (1033, .aload_n 0, 1, 0, 0, 0, 0), (1034, .iload_n 3, 1, 0, 0, 0, 0), (1035, .iconst 1, 1, 0, 0, 0, 0), (1036, .iadd, 1, 0, 0, 0, 0), (1037, .iaload, 1, 0, 0, 0, 0), (1038, .invokevirtual 111, 3, 2, 287, 0, 0), (1041, .if_icmp .eq 595, 3, 0, 0, 0, 0), (1044, .iconst 0, 1, 0, 0, 0, 0), (1045, .ireturn, 1, 0, 0, 0, 0), (1046, .aload_n 1, 1, 0, 0, 0, 0), (1047, .aload_n 0, 1, 0, 0, 0, 0), (1048, .iload_n 3, 1, 0, 0, 0, 0), (1049, .iconst 1, 1, 0, 0, 0, 0), (1050, .iadd, 1, 0, 0, 0, 0), (1051, .iaload, 1, 0, 0, 0, 0), (1052, .aload_n 0, 1, 0, 0, 0, 0), (1053, .iload_n 3, 1, 0, 0, 0, 0), (1054, .iconst 2, 1, 0, 0, 0, 0), (1055, .iadd, 1, 0, 0, 0, 0), (1056, .iaload, 1, 0, 0, 0, 0), (1057, .invokevirtual 112, 3, 2, 165, 0, 0), (1060, .aload_n 2, 1, 0, 0, 0, 0), (1061, .aload_n 0, 1, 0, 0, 0, 0), (1062, .iload_n 3, 1, 0, 0, 0, 0), (1063, .iconst 1, 1, 0, 0, 0, 0), (1064, .iadd, 1, 0, 0, 0, 0), (1065, .iaload, 1, 0, 0, 0, 0), (1066, .aload_n 0, 1, 0, 0, 0, 0), (1067, .iload_n 3, 1, 0, 0, 0, 0), (1068, .iconst 2, 1, 0, 0, 0, 0), (1069, .iadd, 1, 0, 0, 0, 0), (1070, .iaload, 1, 0, 0, 0, 0), (1071, .invokevirtual 115, 3, 2, 301, 0, 0), (1074, .if_icmp .eq 562, 3, 0, 0, 0, 0), (1077, .iconst 0, 1, 0, 0, 0, 0), (1078, .ireturn, 1, 0, 0, 0, 0), (1079, .aload_n 1, 1, 0, 0, 0, 0), (1080, .aload_n 0, 1, 0, 0, 0, 0), (1081, .iload_n 3, 1, 0, 0, 0, 0), (1082, .iconst 1, 1, 0, 0, 0, 0), (1083, .iadd, 1, 0, 0, 0, 0), (1084, .iaload, 1, 0, 0, 0, 0), (1085, .invokevirtual 116, 3, 2, 167, 0, 0), (1088, .aload_n 2, 1, 0, 0, 0, 0), (1089, .aload_n 0, 1, 0, 0, 0, 0), (1090, .iload_n 3, 1, 0, 0, 0, 0), (1091, .iconst 1, 1, 0, 0, 0, 0), (1092, .iadd, 1, 0, 0, 0, 0), (1093, .iaload, 1, 0, 0, 0, 0), (1094, .invokevirtual 119, 3, 2, 302, 0, 0), (1097, .if_icmp .eq 539, 3, 0, 0, 0, 0), (1100, .iconst 0, 1, 0, 0, 0, 0), (1101, .ireturn, 1, 0, 0, 0, 0), (1102, .aload_n 1, 1, 0, 0, 0, 0), (1103, .aload_n 0, 1, 0, 0, 0, 0), (1104, .iload_n 3, 1, 0, 0, 0, 0), (1105, .iconst 1, 1, 0, 0, 0, 0), (1106, .iadd, 1, 0, 0, 0, 0), (1107, .iaload, 1, 0, 0, 0, 0), (1108, .aload_n 0, 1, 0, 0, 0, 0), (1109, .iload_n 3, 1, 0, 0, 0, 0), (1110, .iconst 2, 1, 0, 0, 0, 0), (1111, .iadd, 1, 0, 0, 0, 0), (1112, .iaload, 1, 0, 0, 0, 0), (1113, .invokevirtual 120, 3, 2, 169, 0, 0), (1116, .aload_n 2, 1, 0, 0, 0, 0), (1117, .aload_n 0, 1, 0, 0, 0, 0), (1118, .iload_n 3, 1, 0, 0, 0, 0), (1119, .iconst 1, 1, 0, 0, 0, 0), (1120, .iadd, 1, 0, 0, 0, 0), (1121, .iaload, 1, 0, 0, 0, 0), (1122, .aload_n 0, 1, 0, 0, 0, 0), (1123, .iload_n 3, 1, 0, 0, 0, 0), (1124, .iconst 2, 1, 0, 0, 0, 0), (1125, .iadd, 1, 0, 0, 0, 0), (1126, .iaload, 1, 0, 0, 0, 0), (1127, .invokevirtual 123, 3, 2, 310, 0, 0), (1130, .if_icmp .eq 506, 3, 0, 0, 0, 0), (1133, .iconst 0, 1, 0, 0, 0, 0), (1134, .ireturn, 1, 0, 0, 0, 0), (1135, .aload_n 1, 1, 0, 0, 0, 0), (1136, .aload_n 0, 1, 0, 0, 0, 0), (1137, .iload_n 3, 1, 0, 0, 0, 0), (1138, .iconst 1, 1, 0, 0, 0, 0), (1139, .iadd, 1, 0, 0, 0, 0), (1140, .iaload, 1, 0, 0, 0, 0), (1141, .aload_n 0, 1, 0, 0, 0, 0), (1142, .iload_n 3, 1, 0, 0, 0, 0), (1143, .iconst 2, 1, 0, 0, 0, 0), (1144, .iadd, 1, 0, 0, 0, 0), (1145, .iaload, 1, 0, 0, 0, 0), (1146, .invokevirtual 124, 3, 2, 170, 0, 0), (1149, .aload_n 2, 1, 0, 0, 0, 0), (1150, .aload_n 0, 1, 0, 0, 0, 0), (1151, .iload_n 3, 1, 0, 0, 0, 0), (1152, .iconst 1, 1, 0, 0, 0, 0), (1153, .iadd, 1, 0, 0, 0, 0), (1154, .iaload, 1, 0, 0, 0, 0), (1155, .aload_n 0, 1, 0, 0, 0, 0), (1156, .iload_n 3, 1, 0, 0, 0, 0), (1157, .iconst 2, 1, 0, 0, 0, 0), (1158, .iadd, 1, 0, 0, 0, 0), (1159, .iaload, 1, 0, 0, 0, 0), (1160, .invokevirtual 127, 3, 2, 311, 0, 0), (1163, .if_icmp .eq 473, 3, 0, 0, 0, 0), (1166, .iconst 0, 1, 0, 0, 0, 0), (1167, .ireturn, 1, 0, 0, 0, 0), (1168, .aload_n 1, 1, 0, 0, 0, 0), (1169, .aload_n 0, 1, 0, 0, 0, 0), (1170, .iload_n 3, 1, 0, 0, 0, 0), (1171, .iconst 1, 1, 0, 0, 0, 0), (1172, .iadd, 1, 0, 0, 0, 0), (1173, .iaload, 1, 0, 0, 0, 0), (1174, .invokevirtual 128, 3, 2, 172, 0, 0), (1177, .aload_n 2, 1, 0, 0, 0, 0), (1178, .aload_n 0, 1, 0, 0, 0, 0), (1179, .iload_n 3, 1, 0, 0, 0, 0), (1180, .iconst 1, 1, 0, 0, 0, 0), (1181, .iadd, 1, 0, 0, 0, 0), (1182, .iaload, 1, 0, 0, 0, 0), (1183, .invokevirtual 131, 3, 2, 312, 0, 0), (1186, .if_icmp .eq 450, 3, 0, 0, 0, 0), (1189, .iconst 0, 1, 0, 0, 0, 0), (1190, .ireturn, 1, 0, 0, 0, 0), (1191, .aload_n 1, 1, 0, 0, 0, 0), (1192, .aload_n 0, 1, 0, 0, 0, 0), (1193, .iload_n 3, 1, 0, 0, 0, 0), (1194, .iconst 1, 1, 0, 0, 0, 0), (1195, .iadd, 1, 0, 0, 0, 0), (1196, .iaload, 1, 0, 0, 0, 0), (1197, .invokevirtual 132, 3, 2, 174, 0, 0), (1200, .aload_n 2, 1, 0, 0, 0, 0), (1201, .aload_n 0, 1, 0, 0, 0, 0), (1202, .iload_n 3, 1, 0, 0, 0, 0), (1203, .iconst 1, 1, 0, 0, 0, 0), (1204, .iadd, 1, 0, 0, 0, 0), (1205, .iaload, 1, 0, 0, 0, 0), (1206, .invokevirtual 135, 3, 2, 267, 0, 0), (1209, .if_icmp .eq 427, 3, 0, 0, 0, 0), (1212, .iconst 0, 1, 0, 0, 0, 0), (1213, .ireturn, 1, 0, 0, 0, 0), (1214, .aload_n 1, 1, 0, 0, 0, 0), (1215, .aload_n 0, 1, 0, 0, 0, 0), (1216, .iload_n 3, 1, 0, 0, 0, 0), (1217, .iconst 1, 1, 0, 0, 0, 0), (1218, .iadd, 1, 0, 0, 0, 0), (1219, .iaload, 1, 0, 0, 0, 0), (1220, .aload_n 0, 1, 0, 0, 0, 0), (1221, .iload_n 3, 1, 0, 0, 0, 0), (1222, .iconst 2, 1, 0, 0, 0, 0), (1223, .iadd, 1, 0, 0, 0, 0), (1224, .iaload, 1, 0, 0, 0, 0), (1225, .invokevirtual 136, 3, 2, 176, 0, 0), (1228, .aload_n 2, 1, 0, 0, 0, 0), (1229, .aload_n 0, 1, 0, 0, 0, 0), (1230, .iload_n 3, 1, 0, 0, 0, 0), (1231, .iconst 1, 1, 0, 0, 0, 0), (1232, .iadd, 1, 0, 0, 0, 0), (1233, .iaload, 1, 0, 0, 0, 0), (1234, .aload_n 0, 1, 0, 0, 0, 0), (1235, .iload_n 3, 1, 0, 0, 0, 0), (1236, .iconst 2, 1, 0, 0, 0, 0), (1237, .iadd, 1, 0, 0, 0, 0), (1238, .iaload, 1, 0, 0, 0, 0), (1239, .invokevirtual 139, 3, 2, 268, 0, 0), (1242, .if_icmp .eq 394, 3, 0, 0, 0, 0), (1245, .iconst 0, 1, 0, 0, 0, 0), (1246, .ireturn, 1, 0, 0, 0, 0), (1247, .aload_n 1, 1, 0, 0, 0, 0), (1248, .aload_n 0, 1, 0, 0, 0, 0), (1249, .iload_n 3, 1, 0, 0, 0, 0), (1250, .iconst 1, 1, 0, 0, 0, 0), (1251, .iadd, 1, 0, 0, 0, 0), (1252, .iaload, 1, 0, 0, 0, 0), (1253, .aload_n 0, 1, 0, 0, 0, 0), (1254, .iload_n 3, 1, 0, 0, 0, 0), (1255, .iconst 2, 1, 0, 0, 0, 0), (1256, .iadd, 1, 0, 0, 0, 0), (1257, .iaload, 1, 0, 0, 0, 0), (1258, .invokevirtual 140, 3, 2, 178, 0, 0), (1261, .aload_n 2, 1, 0, 0, 0, 0), (1262, .aload_n 0, 1, 0, 0, 0, 0), (1263, .iload_n 3, 1, 0, 0, 0, 0), (1264, .iconst 1, 1, 0, 0, 0, 0), (1265, .iadd, 1, 0, 0, 0, 0), (1266, .iaload, 1, 0, 0, 0, 0), (1267, .aload_n 0, 1, 0, 0, 0, 0), (1268, .iload_n 3, 1, 0, 0, 0, 0), (1269, .iconst 2, 1, 0, 0, 0, 0), (1270, .iadd, 1, 0, 0, 0, 0), (1271, .iaload, 1, 0, 0, 0, 0), (1272, .invokevirtual 143, 3, 2, 313, 0, 0), (1275, .if_icmp .eq 361, 3, 0, 0, 0, 0), (1278, .iconst 0, 1, 0, 0, 0, 0), (1279, .ireturn, 1, 0, 0, 0, 0), (1280, .aload_n 1, 1, 0, 0, 0, 0), (1281, .aload_n 0, 1, 0, 0, 0, 0), (1282, .iload_n 3, 1, 0, 0, 0, 0), (1283, .iconst 1, 1, 0, 0, 0, 0), (1284, .iadd, 1, 0, 0, 0, 0), (1285, .iaload, 1, 0, 0, 0, 0), (1286, .aload_n 0, 1, 0, 0, 0, 0), (1287, .iload_n 3, 1, 0, 0, 0, 0), (1288, .iconst 2, 1, 0, 0, 0, 0), (1289, .iadd, 1, 0, 0, 0, 0), (1290, .iaload, 1, 0, 0, 0, 0), (1291, .ifCond .eq 7, 3, 0, 0, 0, 0), (1294, .iconst 1, 1, 0, 0, 0, 0), (1295, .goto 4, 3, 0, 0, 0, 0), (1298, .iconst 0, 1, 0, 0, 0, 0), (1299, .invokevirtual 144, 3, 2, 186, 0, 0), (1302, .aload_n 2, 1, 0, 0, 0, 0), (1303, .aload_n 0, 1, 0, 0, 0, 0), (1304, .iload_n 3, 1, 0, 0, 0, 0), (1305, .iconst 1, 1, 0, 0, 0, 0), (1306, .iadd, 1, 0, 0, 0, 0), (1307, .iaload, 1, 0, 0, 0, 0), (1308, .aload_n 0, 1, 0, 0, 0, 0), (1309, .iload_n 3, 1, 0, 0, 0, 0), (1310, .iconst 2, 1, 0, 0, 0, 0), (1311, .iadd, 1, 0, 0, 0, 0), (1312, .iaload, 1, 0, 0, 0, 0), (1313, .ifCond .eq 7, 3, 0, 0, 0, 0), (1316, .iconst 1, 1, 0, 0, 0, 0), (1317, .goto 4, 3, 0, 0, 0, 0), (1320, .iconst 0, 1, 0, 0, 0, 0), (1321, .invokevirtual 148, 3, 2, 316, 0, 0), (1324, .if_icmp .eq 312, 3, 0, 0, 0, 0), (1327, .iconst 0, 1, 0, 0, 0, 0), (1328, .ireturn, 1, 0, 0, 0, 0), (1329, .aload_n 1, 1, 0, 0, 0, 0), (1330, .aload_n 0, 1, 0, 0, 0, 0), (1331, .iload_n 3, 1, 0, 0, 0, 0), (1332, .iconst 1, 1, 0, 0, 0, 0), (1333, .iadd, 1, 0, 0, 0, 0), (1334, .iaload, 1, 0, 0, 0, 0), (1335, .aload_n 0, 1, 0, 0, 0, 0), (1336, .iload_n 3, 1, 0, 0, 0, 0), (1337, .iconst 2, 1, 0, 0, 0, 0), (1338, .iadd, 1, 0, 0, 0, 0), (1339, .iaload, 1, 0, 0, 0, 0), (1340, .aload_n 0, 1, 0, 0, 0, 0), (1341, .iload_n 3, 1, 0, 0, 0, 0), (1342, .iconst 3, 1, 0, 0, 0, 0), (1343, .iadd, 1, 0, 0, 0, 0), (1344, .iaload, 1, 0, 0, 0, 0), (1345, .invokevirtual 149, 3, 2, 190, 0, 0), (1348, .aload_n 2, 1, 0, 0, 0, 0), (1349, .aload_n 0, 1, 0, 0, 0, 0), (1350, .iload_n 3, 1, 0, 0, 0, 0), (1351, .iconst 1, 1, 0, 0, 0, 0), (1352, .iadd, 1, 0, 0, 0, 0), (1353, .iaload, 1, 0, 0, 0, 0), (1354, .aload_n 0, 1, 0, 0, 0, 0), (1355, .iload_n 3, 1, 0, 0, 0, 0), (1356, .iconst 2, 1, 0, 0, 0, 0), (1357, .iadd, 1, 0, 0, 0, 0), (1358, .iaload, 1, 0, 0, 0, 0), (1359, .aload_n 0, 1, 0, 0, 0, 0), (1360, .iload_n 3, 1, 0, 0, 0, 0), (1361, .iconst 3, 1, 0, 0, 0, 0), (1362, .iadd, 1, 0, 0, 0, 0), (1363, .iaload, 1, 0, 0, 0, 0), (1364, .invokevirtual 152, 3, 2, 318, 0, 0), (1367, .if_icmp .eq 269, 3, 0, 0, 0, 0), (1370, .iconst 0, 1, 0, 0, 0, 0), (1371, .ireturn, 1, 0, 0, 0, 0), (1372, .aload_n 1, 1, 0, 0, 0, 0), (1373, .aload_n 0, 1, 0, 0, 0, 0), (1374, .iload_n 3, 1, 0, 0, 0, 0), (1375, .iconst 1, 1, 0, 0, 0, 0), (1376, .iadd, 1, 0, 0, 0, 0), (1377, .iaload, 1, 0, 0, 0, 0), (1378, .aload_n 0, 1, 0, 0, 0, 0), (1379, .iload_n 3, 1, 0, 0, 0, 0), (1380, .iconst 2, 1, 0, 0, 0, 0), (1381, .iadd, 1, 0, 0, 0, 0), (1382, .iaload, 1, 0, 0, 0, 0), (1383, .invokevirtual 153, 3, 2, 192, 0, 0), (1386, .aload_n 2, 1, 0, 0, 0, 0), (1387, .aload_n 0, 1, 0, 0, 0, 0), (1388, .iload_n 3, 1, 0, 0, 0, 0), (1389, .iconst 1, 1, 0, 0, 0, 0), (1390, .iadd, 1, 0, 0, 0, 0), (1391, .iaload, 1, 0, 0, 0, 0), (1392, .aload_n 0, 1, 0, 0, 0, 0), (1393, .iload_n 3, 1, 0, 0, 0, 0), (1394, .iconst 2, 1, 0, 0, 0, 0), (1395, .iadd, 1, 0, 0, 0, 0), (1396, .iaload, 1, 0, 0, 0, 0), (1397, .invokevirtual 156, 3, 2, 319, 0, 0), (1400, .if_icmp .eq 236, 3, 0, 0, 0, 0), (1403, .iconst 0, 1, 0, 0, 0, 0), (1404, .ireturn, 1, 0, 0, 0, 0), (1405, .aload_n 1, 1, 0, 0, 0, 0), (1406, .aload_n 0, 1, 0, 0, 0, 0), (1407, .iload_n 3, 1, 0, 0, 0, 0), (1408, .iconst 1, 1, 0, 0, 0, 0), (1409, .iadd, 1, 0, 0, 0, 0), (1410, .iaload, 1, 0, 0, 0, 0), (1411, .aload_n 0, 1, 0, 0, 0, 0), (1412, .iload_n 3, 1, 0, 0, 0, 0), (1413, .iconst 2, 1, 0, 0, 0, 0), (1414, .iadd, 1, 0, 0, 0, 0), (1415, .iaload, 1, 0, 0, 0, 0), (1416, .invokevirtual 157, 3, 2, 197, 0, 0), (1419, .aload_n 2, 1, 0, 0, 0, 0), (1420, .aload_n 0, 1, 0, 0, 0, 0), (1421, .iload_n 3, 1, 0, 0, 0, 0), (1422, .iconst 1, 1, 0, 0, 0, 0), (1423, .iadd, 1, 0, 0, 0, 0), (1424, .iaload, 1, 0, 0, 0, 0), (1425, .aload_n 0, 1, 0, 0, 0, 0), (1426, .iload_n 3, 1, 0, 0, 0, 0), (1427, .iconst 2, 1, 0, 0, 0, 0), (1428, .iadd, 1, 0, 0, 0, 0), (1429, .iaload, 1, 0, 0, 0, 0), (1430, .invokevirtual 160, 3, 2, 323, 0, 0), (1433, .if_icmp .eq 203, 3, 0, 0, 0, 0), (1436, .iconst 0, 1, 0, 0, 0, 0), (1437, .ireturn, 1, 0, 0, 0, 0), (1438, .aload_n 1, 1, 0, 0, 0, 0), (1439, .aload_n 0, 1, 0, 0, 0, 0), (1440, .iload_n 3, 1, 0, 0, 0, 0), (1441, .iconst 1, 1, 0, 0, 0, 0), (1442, .iadd, 1, 0, 0, 0, 0), (1443, .iaload, 1, 0, 0, 0, 0), (1444, .aload_n 0, 1, 0, 0, 0, 0), (1445, .iload_n 3, 1, 0, 0, 0, 0), (1446, .iconst 2, 1, 0, 0, 0, 0), (1447, .iadd, 1, 0, 0, 0, 0), (1448, .iaload, 1, 0, 0, 0, 0), (1449, .aload_n 0, 1, 0, 0, 0, 0), (1450, .iload_n 3, 1, 0, 0, 0, 0), (1451, .iconst 3, 1, 0, 0, 0, 0), (1452, .iadd, 1, 0, 0, 0, 0), (1453, .iaload, 1, 0, 0, 0, 0), (1454, .invokevirtual 161, 3, 2, 199, 0, 0), (1457, .aload_n 2, 1, 0, 0, 0, 0), (1458, .aload_n 0, 1, 0, 0, 0, 0), (1459, .iload_n 3, 1, 0, 0, 0, 0), (1460, .iconst 1, 1, 0, 0, 0, 0), (1461, .iadd, 1, 0, 0, 0, 0), (1462, .iaload, 1, 0, 0, 0, 0), (1463, .aload_n 0, 1, 0, 0, 0, 0), (1464, .iload_n 3, 1, 0, 0, 0, 0), (1465, .iconst 2, 1, 0, 0, 0, 0), (1466, .iadd, 1, 0, 0, 0, 0), (1467, .iaload, 1, 0, 0, 0, 0), (1468, .aload_n 0, 1, 0, 0, 0, 0), (1469, .iload_n 3, 1, 0, 0, 0, 0), (1470, .iconst 3, 1, 0, 0, 0, 0), (1471, .iadd, 1, 0, 0, 0, 0), (1472, .iaload, 1, 0, 0, 0, 0), (1473, .invokevirtual 164, 3, 2, 324, 0, 0), (1476, .if_icmp .eq 160, 3, 0, 0, 0, 0), (1479, .iconst 0, 1, 0, 0, 0, 0), (1480, .ireturn, 1, 0, 0, 0, 0), (1481, .aload_n 1, 1, 0, 0, 0, 0), (1482, .aload_n 0, 1, 0, 0, 0, 0), (1483, .iload_n 3, 1, 0, 0, 0, 0), (1484, .iconst 1, 1, 0, 0, 0, 0), (1485, .iadd, 1, 0, 0, 0, 0), (1486, .iaload, 1, 0, 0, 0, 0), (1487, .aload_n 0, 1, 0, 0, 0, 0), (1488, .iload_n 3, 1, 0, 0, 0, 0), (1489, .iconst 2, 1, 0, 0, 0, 0), (1490, .iadd, 1, 0, 0, 0, 0), (1491, .iaload, 1, 0, 0, 0, 0), (1492, .aload_n 0, 1, 0, 0, 0, 0), (1493, .iload_n 3, 1, 0, 0, 0, 0), (1494, .iconst 3, 1, 0, 0, 0, 0), (1495, .iadd, 1, 0, 0, 0, 0), (1496, .iaload, 1, 0, 0, 0, 0), (1497, .invokevirtual 165, 3, 2, 201, 0, 0), (1500, .aload_n 2, 1, 0, 0, 0, 0), (1501, .aload_n 0, 1, 0, 0, 0, 0), (1502, .iload_n 3, 1, 0, 0, 0, 0), (1503, .iconst 1, 1, 0, 0, 0, 0), (1504, .iadd, 1, 0, 0, 0, 0), (1505, .iaload, 1, 0, 0, 0, 0), (1506, .aload_n 0, 1, 0, 0, 0, 0), (1507, .iload_n 3, 1, 0, 0, 0, 0), (1508, .iconst 2, 1, 0, 0, 0, 0), (1509, .iadd, 1, 0, 0, 0, 0), (1510, .iaload, 1, 0, 0, 0, 0), (1511, .aload_n 0, 1, 0, 0, 0, 0), (1512, .iload_n 3, 1, 0, 0, 0, 0), (1513, .iconst 3, 1, 0, 0, 0, 0), (1514, .iadd, 1, 0, 0, 0, 0), (1515, .iaload, 1, 0, 0, 0, 0), (1516, .invokevirtual 168, 3, 2, 325, 0, 0), (1519, .if_icmp .eq 117, 3, 0, 0, 0, 0), (1522, .iconst 0, 1, 0, 0, 0, 0), (1523, .ireturn, 1, 0, 0, 0, 0), (1524, .aload_n 1, 1, 0, 0, 0, 0), (1525, .aload_n 0, 1, 0, 0, 0, 0), (1526, .iload_n 3, 1, 0, 0, 0, 0), (1527, .iconst 1, 1, 0, 0, 0, 0), (1528, .iadd, 1, 0, 0, 0, 0), (1529, .iaload, 1, 0, 0, 0, 0), (1530, .aload_n 0, 1, 0, 0, 0, 0), (1531, .iload_n 3, 1, 0, 0, 0, 0), (1532, .iconst 2, 1, 0, 0, 0, 0), (1533, .iadd, 1, 0, 0, 0, 0), (1534, .iaload, 1, 0, 0, 0, 0), (1535, .aload_n 0, 1, 0, 0, 0, 0), (1536, .iload_n 3, 1, 0, 0, 0, 0), (1537, .iconst 3, 1, 0, 0, 0, 0), (1538, .iadd, 1, 0, 0, 0, 0), (1539, .iaload, 1, 0, 0, 0, 0), (1540, .aload_n 0, 1, 0, 0, 0, 0), (1541, .iload_n 3, 1, 0, 0, 0, 0), (1542, .iconst 4, 1, 0, 0, 0, 0), (1543, .iadd, 1, 0, 0, 0, 0), (1544, .iaload, 1, 0, 0, 0, 0), (1545, .aload_n 0, 1, 0, 0, 0, 0), (1546, .iload_n 3, 1, 0, 0, 0, 0), (1547, .iconst 5, 1, 0, 0, 0, 0), (1548, .iadd, 1, 0, 0, 0, 0), (1549, .iaload, 1, 0, 0, 0, 0), (1550, .invokevirtual 169, 3, 2, 203, 0, 0), (1553, .aload_n 2, 1, 0, 0, 0, 0), (1554, .aload_n 0, 1, 0, 0, 0, 0), (1555, .iload_n 3, 1, 0, 0, 0, 0), (1556, .iconst 1, 1, 0, 0, 0, 0), (1557, .iadd, 1, 0, 0, 0, 0), (1558, .iaload, 1, 0, 0, 0, 0), (1559, .aload_n 0, 1, 0, 0, 0, 0), (1560, .iload_n 3, 1, 0, 0, 0, 0), (1561, .iconst 2, 1, 0, 0, 0, 0), (1562, .iadd, 1, 0, 0, 0, 0), (1563, .iaload, 1, 0, 0, 0, 0), (1564, .aload_n 0, 1, 0, 0, 0, 0), (1565, .iload_n 3, 1, 0, 0, 0, 0), (1566, .iconst 3, 1, 0, 0, 0, 0), (1567, .iadd, 1, 0, 0, 0, 0), (1568, .iaload, 1, 0, 0, 0, 0), (1569, .aload_n 0, 1, 0, 0, 0, 0), (1570, .iload_n 3, 1, 0, 0, 0, 0), (1571, .iconst 4, 1, 0, 0, 0, 0), (1572, .iadd, 1, 0, 0, 0, 0), (1573, .iaload, 1, 0, 0, 0, 0), (1574, .aload_n 0, 1, 0, 0, 0, 0), (1575, .iload_n 3, 1, 0, 0, 0, 0), (1576, .iconst 5, 1, 0, 0, 0, 0), (1577, .iadd, 1, 0, 0, 0, 0), (1578, .iaload, 1, 0, 0, 0, 0), (1579, .invokevirtual 172, 3, 2, 326, 0, 0), (1582, .if_icmp .eq 54, 3, 0, 0, 0, 0), (1585, .iconst 0, 1, 0, 0, 0, 0), (1586, .ireturn, 1, 0, 0, 0, 0), (1587, .aload_n 1, 1, 0, 0, 0, 0), (1588, .invokevirtual 173, 3, 2, 205, 0, 0), (1591, .aload_n 2, 1, 0, 0, 0, 0), (1592, .invokevirtual 176, 3, 2, 327, 0, 0), (1595, .if_icmp .eq 41, 3, 0, 0, 0, 0), (1598, .iconst 0, 1, 0, 0, 0, 0), (1599, .ireturn, 1, 0, 0, 0, 0), (1600, .aload_n 1, 1, 0, 0, 0, 0), (1601, .invokevirtual 177, 3, 2, 212, 0, 0), (1604, .aload_n 2, 1, 0, 0, 0, 0), (1605, .invokevirtual 180, 3, 2, 328, 0, 0), (1608, .if_icmp .eq 28, 3, 0, 0, 0, 0), (1611, .iconst 0, 1, 0, 0, 0, 0), (1612, .ireturn, 1, 0, 0, 0, 0), (1613, .aload_n 1, 1, 0, 0, 0, 0), (1614, .aload_n 0, 1, 0, 0, 0, 0), (1615, .iload_n 3, 1, 0, 0, 0, 0), (1616, .iconst 1, 1, 0, 0, 0, 0), (1617, .iadd, 1, 0, 0, 0, 0), (1618, .iaload, 1, 0, 0, 0, 0), (1619, .invokevirtual 181, 3, 2, 213, 0, 0), (1622, .aload_n 2, 1, 0, 0, 0, 0), (1623, .aload_n 0, 1, 0, 0, 0, 0), (1624, .iload_n 3, 1, 0, 0, 0, 0), (1625, .iconst 1, 1, 0, 0, 0, 0), (1626, .iadd, 1, 0, 0, 0, 0), (1627, .iaload, 1, 0, 0, 0, 0), (1628, .invokevirtual 184, 3, 2, 329, 0, 0), (1631, .if_icmp .eq 5, 3, 0, 0, 0, 0), (1634, .iconst 0, 1, 0, 0, 0, 0), (1635, .ireturn, 1, 0, 0, 0, 0), (1636, .iinc 3 6, 3, 0, 0, 0, 0), (1639, .goto (-1621), 3, 0, 0, 0, 0), (1642, .iconst 1, 1, 0, 0, 0, 0), (1643, .ireturn, 1, 0, 0, 0, 0)]
set_option maxRecDepth 100000 in
theorem sx_k330_0 : ((sx_c330.drop 0).take 64).all (sx_chk 13 code) = true := by decide +kernel
set_option maxRecDepth 100000 in
theorem sx_k330_1 : ((sx_c330.drop 64).take 64).all (sx_chk 13 code) = true := by decide +kernel
set_option maxRecDepth 100000 in
theorem sx_k330_2 : ((sx_c330.drop 128).take 64).all (sx_chk 13 code) = true := by decide +kernel
set_option maxRecDepth 100000 in
theorem sx_k330_3 : ((sx_c330.drop 192).take 64).all (sx_chk 13 code) = true := by decide +kernel
set_option maxRecDepth 100000 in
theorem sx_k330_4 : ((sx_c330.drop 256).take 64).all (sx_chk 13 code) = true := by decide +kernel
set_option maxRecDepth 100000 in
theorem sx_k330_5 : ((sx_c330.drop 320).take 64).all (sx_chk 13 code) = true := by decide +kernel
set_option maxRecDepth 100000 in
theorem sx_k330_6 : ((sx_c330.drop 384).take 64).all (sx_chk 13 code) = true := by decide +kernel
set_option maxRecDepth 100000 in
theorem sx_k330_7 : ((sx_c330.drop 448).take 64).all (sx_chk 13 code) = true := by decide +kernel
set_option maxRecDepth 100000 in
theorem sx_k330_8 : ((sx_c330.drop 512).take 64).all (sx_chk 13 code) = true := by decide +kernel
set_option maxRecDepth 100000 in
theorem sx_k330_9 : ((sx_c330.drop 576).take 64).all (sx_chk 13 code) = true := by decide +kernel
set_option maxRecDepth 100000 in
theorem sx_k330_10 : ((sx_c330.drop 640).take 64).all (sx_chk 13 code) = true := by decide +kernel
set_option maxRecDepth 100000 in
theorem sx_k330_11 : ((sx_c330.drop 704).take 64).all (sx_chk 13 code) = true := by decide +kernel
set_option maxRecDepth 100000 in
theorem sx_k330_12 : ((sx_c330.drop 768).take 64).all (sx_chk 13 code) = true := by decide +kernel
set_option maxRecDepth 100000 in
theorem sx_k330_13 : ((sx_c330.drop 832).take 64).all (sx_chk 13 code) = true := by decide +kernel
set_option maxRecDepth 100000 in
theorem sx_k330_14 : ((sx_c330.drop 896).take 64).all (sx_chk 13 code) = true := by decide +kernel
set_option maxRecDepth 100000 in
theorem sx_k330_15 : ((sx_c330.drop 960).take 64).all (sx_chk 13 code) = true := by decide +kernel
set_option maxRecDepth 100000 in
theorem sx_k330_16 : ((sx_c330.drop 1024).take 64).all (sx_chk 13 code) = true := by decide +kernel
set_option maxRecDepth 100000 in
theorem sx_k330_17 : ((sx_c330.drop 1088).take 64).all (sx_chk 13 code) = true := by decide +kernel
set_option maxRecDepth 100000 in
theorem sx_k330_18 : ((sx_c330.drop 1152).take 64).all (sx_chk 13 code) = true := by decide +kernel
end
section
/-! ===== printed by wip/gen_code.py: the methods' instructions ===== -/
theorem sx_q330_18 : (sx_c330.drop 1152).all (sx_chk 13 code) = true := by
  have h : (sx_c330.drop 1152).length ≤ 64 := by decide +kernel
  rw [← List.take_of_length_le h]
  exact sx_k330_18
theorem sx_q330_17 : (sx_c330.drop 1088).all (sx_chk 13 code) = true := sx_ck (l := sx_c330) (a := 1088) 64 sx_k330_17 sx_q330_18
theorem sx_q330_16 : (sx_c330.drop 1024).all (sx_chk 13 code) = true := sx_ck (l := sx_c330) (a := 1024) 64 sx_k330_16 sx_q330_17
theorem sx_q330_15 : (sx_c330.drop 960).all (sx_chk 13 code) = true := sx_ck (l := sx_c330) (a := 960) 64 sx_k330_15 sx_q330_16
theorem sx_q330_14 : (sx_c330.drop 896).all (sx_chk 13 code) = true := sx_ck (l := sx_c330) (a := 896) 64 sx_k330_14 sx_q330_15
theorem sx_q330_13 : (sx_c330.drop 832).all (sx_chk 13 code) = true := sx_ck (l := sx_c330) (a := 832) 64 sx_k330_13 sx_q330_14
theorem sx_q330_12 : (sx_c330.drop 768).all (sx_chk 13 code) = true := sx_ck (l := sx_c330) (a := 768) 64 sx_k330_12 sx_q330_13
theorem sx_q330_11 : (sx_c330.drop 704).all (sx_chk 13 code) = true := sx_ck (l := sx_c330) (a := 704) 64 sx_k330_11 sx_q330_12
theorem sx_q330_10 : (sx_c330.drop 640).all (sx_chk 13 code) = true := sx_ck (l := sx_c330) (a := 640) 64 sx_k330_10 sx_q330_11
theorem sx_q330_9 : (sx_c330.drop 576).all (sx_chk 13 code) = true := sx_ck (l := sx_c330) (a := 576) 64 sx_k330_9 sx_q330_10
theorem sx_q330_8 : (sx_c330.drop 512).all (sx_chk 13 code) = true := sx_ck (l := sx_c330) (a := 512) 64 sx_k330_8 sx_q330_9
theorem sx_q330_7 : (sx_c330.drop 448).all (sx_chk 13 code) = true := sx_ck (l := sx_c330) (a := 448) 64 sx_k330_7 sx_q330_8
theorem sx_q330_6 : (sx_c330.drop 384).all (sx_chk 13 code) = true := sx_ck (l := sx_c330) (a := 384) 64 sx_k330_6 sx_q330_7
theorem sx_q330_5 : (sx_c330.drop 320).all (sx_chk 13 code) = true := sx_ck (l := sx_c330) (a := 320) 64 sx_k330_5 sx_q330_6
theorem sx_q330_4 : (sx_c330.drop 256).all (sx_chk 13 code) = true := sx_ck (l := sx_c330) (a := 256) 64 sx_k330_4 sx_q330_5
theorem sx_q330_3 : (sx_c330.drop 192).all (sx_chk 13 code) = true := sx_ck (l := sx_c330) (a := 192) 64 sx_k330_3 sx_q330_4
theorem sx_q330_2 : (sx_c330.drop 128).all (sx_chk 13 code) = true := sx_ck (l := sx_c330) (a := 128) 64 sx_k330_2 sx_q330_3
theorem sx_q330_1 : (sx_c330.drop 64).all (sx_chk 13 code) = true := sx_ck (l := sx_c330) (a := 64) 64 sx_k330_1 sx_q330_2
theorem sx_q330_0 : (sx_c330.drop 0).all (sx_chk 13 code) = true := sx_ck (l := sx_c330) (a := 0) 64 sx_k330_0 sx_q330_1
theorem sx_k330 : sx_c330.all (sx_chk 13 code) = true := by
  have h := sx_q330_0
  rw [List.drop_zero] at h
  exact h
end
section
/-! ===== printed by wip/gen_code.py: the table of the code ===== -/
def sx_cods : List (List sx_I) := [sx_c0, sx_c1, sx_c2, sx_c3, sx_c4, sx_c5, sx_c6, sx_c7, sx_c8, sx_c9, sx_c10, sx_c11, sx_c12, sx_c13, sx_c14, sx_c15, sx_c16, sx_c17, sx_c18, sx_c19, sx_c20, sx_c21, sx_c22, sx_c23, sx_c24, sx_c25, sx_c26, sx_c27, sx_c28, sx_c29, sx_c30, sx_c31, sx_c32, sx_c33, sx_c34, sx_c35, sx_c36, sx_c37, sx_c38, sx_c39, sx_c40, sx_c41, sx_c42, sx_c43, sx_c44, sx_c45, sx_c46, sx_c47, sx_c48, sx_c49, sx_c50, sx_c51, sx_c52, sx_c53, sx_c54, sx_c55, sx_c56, sx_c57, sx_c58, sx_c59, sx_c60, sx_c61, sx_c62, sx_c63, sx_c64, sx_c65, sx_c66, sx_c67, sx_c68, sx_c69, sx_c70, sx_c71, sx_c72, sx_c73, sx_c74, sx_c75, sx_c76, sx_c77, sx_c78, sx_c79, sx_c80, sx_c81, sx_c82, sx_c83, sx_c84, sx_c85, sx_c86, sx_c87, sx_c88, sx_c89, sx_c90, sx_c91, sx_c92, sx_c93, sx_c94, sx_c95, sx_c96, sx_c97, sx_c98, sx_c99, sx_c100, sx_c101, sx_c102, sx_c103, sx_c104, sx_c105, sx_c106, sx_c107, sx_c108, sx_c109, sx_c110, sx_c111, sx_c112, sx_c113, sx_c114, sx_c115, sx_c116, sx_c117, sx_c118, sx_c119, sx_c120, sx_c121, sx_c122, sx_c123, sx_c124, sx_c125, sx_c126, sx_c127, sx_c128, sx_c129, sx_c130, sx_c131, sx_c132, sx_c133, sx_c134, sx_c135, sx_c136, sx_c137, sx_c138, sx_c139, sx_c140, sx_c141, sx_c142, sx_c143, sx_c144, sx_c145, sx_c146, sx_c147, sx_c148, sx_c149, sx_c150, sx_c151, sx_c152, sx_c153, sx_c154, sx_c155, sx_c156, sx_c157, sx_c158, sx_c159, sx_c160, sx_c161, sx_c162, sx_c163, sx_c164, sx_c165, sx_c166, sx_c167, sx_c168, sx_c169, sx_c170, sx_c171, sx_c172, sx_c173, sx_c174, sx_c175, sx_c176, sx_c177, sx_c178, sx_c179, sx_c180, sx_c181, sx_c182, sx_c183, sx_c184, sx_c185, sx_c186, sx_c187, sx_c188, sx_c189, sx_c190, sx_c191, sx_c192, sx_c193, sx_c194, sx_c195, sx_c196, sx_c197, sx_c198, sx_c199, sx_c200, sx_c201, sx_c202, sx_c203, sx_c204, sx_c205, sx_c206, sx_c207, sx_c208, sx_c209, sx_c210, sx_c211, sx_c212, sx_c213, sx_c214, sx_c215, sx_c216, sx_c217, sx_c218, sx_c219, sx_c220, sx_c221, sx_c222, sx_c223, sx_c224, sx_c225, sx_c226, sx_c227, sx_c228, sx_c229, sx_c230, sx_c231, sx_c232, sx_c233, sx_c234, sx_c235, sx_c236, sx_c237, sx_c238, sx_c239, sx_c240, sx_c241, sx_c242, sx_c243, sx_c244, sx_c245, sx_c246, sx_c247, sx_c248, sx_c249, sx_c250, sx_c251, sx_c252, sx_c253, sx_c254, sx_c255, sx_c256, sx_c257, sx_c258, sx_c259, sx_c260, sx_c261, sx_c262, sx_c263, sx_c264, sx_c265, sx_c266, sx_c267, sx_c268, sx_c269, sx_c270, sx_c271, sx_c272, sx_c273, sx_c274, sx_c275, sx_c276, sx_c277, sx_c278, sx_c279, sx_c280, sx_c281, sx_c282, sx_c283, sx_c284, sx_c285, sx_c286, sx_c287, sx_c288, sx_c289, sx_c290, sx_c291, sx_c292, sx_c293, sx_c294, sx_c295, sx_c296, sx_c297, sx_c298, sx_c299, sx_c300, sx_c301, sx_c302, sx_c303, sx_c304, sx_c305, sx_c306, sx_c307, sx_c308, sx_c309, sx_c310, sx_c311, sx_c312, sx_c313, sx_c314, sx_c315, sx_c316, sx_c317, sx_c318, sx_c319, sx_c320, sx_c321, sx_c322, sx_c323, sx_c324, sx_c325, sx_c326, sx_c327, sx_c328, sx_c329, sx_c330]
end
section
/-! ===== the small machine's steps on cells ===== -/
section MM
variable {p : Program} {l : Launch} {e : Env} {R : Room} {s : State} {m : MethodId} {args : Array Value} {below : List Frame} {meth : Method} {c : Code} {Q : State → Prop} {H : Heap} {locs : List Loc} {cells slots : Nat}
variable {φ : Nat → Nat} {kx bs : Nat} {D : va_G} {zs : List mm_Zt} {cc : ByteArray} {o nL : Nat} {own : String} {ini : Bool} {mem : List mm_C} {pc : Nat} {ls : Array Slot} {rest : List Value}
theorem mm_P1c {i ci : Nat} {fs : List Value} (hR : mm_R φ kx bs D vwCl zs s mem H) (hi : mem[i]? = some (.inr (ci, fs))) : va_P D vwCl [(φ i, .inr (ci, fs.map (mm_sh φ)))] H := by
  intro k q hq
  have hz : k < 1 := (List.getElem?_eq_some_iff.mp hq).1
  rw [show k = 0 by omega] at hq
  cases hq
  obtain ⟨r, h1, -, h3⟩ := hR.2.2.1 i _ hi
  exact ⟨r, h1, h3⟩
theorem mm_getf (F : mm_Fx p s m args meth c φ kx bs D o own nL ini cc) (hR : mm_R φ kx bs D vwCl zs s mem H) {i ci k idx : Nat} {fs : List Value} {v : Value} {r : vw_C} (hi : mem[i]? = some (.inr (ci, fs))) (hr : vwCl[ci]? = some r) (hk : k < r.2.2) (hv : fs[k]? = some v) (hl : Cond.fieldLink own idx (r.2.1 k).1 (r.2.1 k).2.1 (r.2.1 k).2.2.1 ∈ mm_gw) (hdg : decode cc pc = .ok (.getfield idx, 3))
    (kk : W p l e R s m args below meth c H locs cells slots Q (F0 m (pc + 3) ls (mm_sh φ v :: rest))) : W p l e R s m args below meth c H locs cells slots Q (F0 m pc ls (.ref (φ i) :: rest)) := by
  obtain ⟨hx, hb, -, hown, -, hts, hctx, -⟩ := F
  exact va_get hx hb hts (mm_cls ci r hr).1 hown hctx.1 (mm_P1c hR hi) 0 rfl hr k hk (hts _ hl) (fun _ h => h) (by rw [List.getElem?_map, hv]; rfl) hdg kk
theorem mm_getN (F : mm_Fx p s m args meth c φ kx bs D o own nL ini cc) (hR : mm_R φ kx bs D vwCl zs s mem H) {i ci k idx : Nat} {fs : List Value} {v : Value} {r : vw_C} (hi : mem[i]? = some (.inr (ci, fs))) (hr : vwCl[ci]? = some r) (hk : k < r.2.2) (hv : fs[k]? = some v) (hl : Cond.fieldLinkNest own idx (r.2.1 k).1 (r.2.1 k).2.1 (r.2.1 k).2.2.1 "RaftTown" ∈ lw_tbl) (hdg : decode cc pc = .ok (.getfield idx, 3))
    (kk : W p l e R s m args below meth c H locs cells slots Q (F0 m (pc + 3) ls (mm_sh φ v :: rest))) : W p l e R s m args below meth c H locs cells slots Q (F0 m pc ls (.ref (φ i) :: rest)) := by
  obtain ⟨hx, hb, -, hown, -, hts, hctx, -⟩ := F
  exact va_getN hx hb hts (mm_cls ci r hr).1 hown hctx.1 (mm_P1c hR hi) 0 rfl hr k hk (va_Nw.use rfl (hctx.2.1 _ hl rfl)) (fun _ h => h) (by rw [List.getElem?_map, hv]; rfl) hdg kk
/-- a field of a cell of ours is another now -/
theorem mm_put_end (F : mm_Fx p s m args meth c φ kx bs D o own nL ini cc) (hR : mm_R φ kx bs D vwCl zs s mem H) (hS : va_S (mm_B bs) s.heap H locs) {i ci k : Nat} {fs : List Value} {v : Value} {r : vw_C} (hki : kx ≤ i) (hi : mem[i]? = some (.inr (ci, fs))) (hr : vwCl[ci]? = some r) (hk : k < r.2.2) {cell : Cell} (q2 : cell.cls = D.1 ci) (q3 : cell.vm = .none) (q4 : ∀ k, k < r.2.2 → cell.slots[D.2 ci k]? = some (vp_V (fs.map (mm_sh φ)) k)) {H' : Heap}
    (e1 : H'[φ i]? = some (cell.setSlot (D.2 ci k) (mm_sh φ v))) (e2 : H'.size = H.size) (e3 : ∀ q : Nat, q ≠ φ i → H'[q]? = H[q]?) (j : Nat) : mm_R φ kx bs D vwCl zs s (mem.set i (.inr (ci, fs.set k v))) H' ∧ va_S (mm_B bs) s.heap H' (locs ++ [⟨φ i, j⟩]) := by
  obtain ⟨hx, hb, -, hown, -, hts, hctx, hph, -⟩ := F
  obtain ⟨r', h1, hlen, -⟩ := hR.2.2.1 i _ hi
  have hrr : r' = r := Option.some.inj (h1.symm.trans hr)
  subst hrr
  have hap := va_apart (own := own) hts (mm_cls ci r' hr).1 (mm_ty ci) (mm_cls ci r' hr).2.1 (mm_cls ci r' hr).2.2 hctx.1 hr
  refine ⟨mm_R_set hph hR hki ⟨r', hr, by simpa using hlen, ?_⟩ e2 e3, hS.put e2 e3 (mm_ph_ge hph hki)⟩
  refine t_OB.to (V := updV (vp_V (fs.map (mm_sh φ))) k (mm_sh φ v)) ⟨_, e1, q2, q3, t_set q4 hap hk _⟩ (fun j _ => ?_)
  rw [vp_updV_set (by rw [List.length_map]; show k < fs.length; rw [show fs.length = r'.2.2 from hlen]; exact hk) _ j, List.map_set]
theorem mm_putf (F : mm_Fx p s m args meth c φ kx bs D o own nL ini cc) (hR : mm_R φ kx bs D vwCl zs s mem H) (hS : va_S (mm_B bs) s.heap H locs) {i ci k idx : Nat} {fs : List Value} {v : Value} {r : vw_C} (hki : kx ≤ i) (hi : mem[i]? = some (.inr (ci, fs))) (hr : vwCl[ci]? = some r) (hk : k < r.2.2) (hfin : (r.2.1 k).2.2.2 = false) (hn : narrow (mm_ty ci k) (mm_sh φ v) = mm_sh φ v) (hfit : fits (mm_ty ci k) (mm_sh φ v) = true) (hl : Cond.fieldLink own idx (r.2.1 k).1 (r.2.1 k).2.1 (r.2.1 k).2.2.1 ∈ mm_gw) (hdg : decode cc pc = .ok (.putfield idx, 3))
    (kk : ∀ (H1 : Heap) (locs1 : List Loc), mm_R φ kx bs D vwCl zs s (mem.set i (.inr (ci, fs.set k v))) H1 → va_S (mm_B bs) s.heap H1 locs1 → W p l e R s m args below meth c H1 locs1 cells slots Q (F0 m (pc + 3) ls rest)) : W p l e R s m args below meth c H locs cells slots Q (F0 m pc ls (mm_sh φ v :: .ref (φ i) :: rest)) := by
  obtain ⟨hx, hb, -, hown, -, hts, hctx, hph, -⟩ := id F
  obtain ⟨r', h1, hlen, cell, q1, q2, q3, q4⟩ := hR.2.2.1 i _ hi
  have hrr : r' = r := Option.some.inj (h1.symm.trans hr)
  subst hrr
  obtain ⟨hSl, hfc, kC, hkC, hkind⟩ := hctx.1.1 ci _ hr
  obtain ⟨cf, kf, fi, f, hif, hsl⟩ := hSl k hk
  have hin := (mm_cls ci r' hr).1
  have hlay := hts _ (hin _ (u_in_lay hk))
  unfold u_lay at hlay
  rw [if_neg (by rw [hfin]; decide)] at hlay
  have hst := (u_facts hfc hkC (u_lays hts hin hk) hif).1
  have h6 := u_store hfc hkC hkind hlay hif ((mm_cls ci r' hr).2.1 k hk) hn hfit
  refine W.putK hx hb (f := f) ⟨hown, hts _ hl, ⟨_, _, _, hif⟩, hst⟩ (by rw [q2]; exact h6) q1 q3 (by rw [hsl]; exact k2_hasslot (q4 k hk)) rfl rfl hdg fun H' e1 e2 e3 => ?_
  rw [hsl] at e1
  obtain ⟨a1, a2⟩ := mm_put_end F hR hS hki hi hr hk q2 q3 q4 e1 e2 e3 f.slot
  exact kk H' _ a1 a2
theorem mm_putN (F : mm_Fx p s m args meth c φ kx bs D o own nL ini cc) (hR : mm_R φ kx bs D vwCl zs s mem H) (hS : va_S (mm_B bs) s.heap H locs) {i ci k idx : Nat} {fs : List Value} {v : Value} {r : vw_C} (hki : kx ≤ i) (hi : mem[i]? = some (.inr (ci, fs))) (hr : vwCl[ci]? = some r) (hk : k < r.2.2) (hfin : (r.2.1 k).2.2.2 = false) (hn : narrow (mm_ty ci k) (mm_sh φ v) = mm_sh φ v) (hfit : fits (mm_ty ci k) (mm_sh φ v) = true) (hl : Cond.fieldLinkNest own idx (r.2.1 k).1 (r.2.1 k).2.1 (r.2.1 k).2.2.1 "RaftTown" ∈ lw_tbl) (hdg : decode cc pc = .ok (.putfield idx, 3))
    (kk : ∀ (H1 : Heap) (locs1 : List Loc), mm_R φ kx bs D vwCl zs s (mem.set i (.inr (ci, fs.set k v))) H1 → va_S (mm_B bs) s.heap H1 locs1 → W p l e R s m args below meth c H1 locs1 cells slots Q (F0 m (pc + 3) ls rest)) : W p l e R s m args below meth c H locs cells slots Q (F0 m pc ls (mm_sh φ v :: .ref (φ i) :: rest)) := by
  obtain ⟨hx, hb, -, hown, -, hts, hctx, hph, -⟩ := id F
  obtain ⟨r', h1, hlen, cell, q1, q2, q3, q4⟩ := hR.2.2.1 i _ hi
  have hrr : r' = r := Option.some.inj (h1.symm.trans hr)
  subst hrr
  obtain ⟨hSl, hfc, kC, hkC, hkind⟩ := hctx.1.1 ci _ hr
  obtain ⟨cf, kf, fi, f, hif, hsl⟩ := hSl k hk
  have hin := (mm_cls ci r' hr).1
  have hlay := hts _ (hin _ (u_in_lay hk))
  unfold u_lay at hlay
  rw [if_neg (by rw [hfin]; decide)] at hlay
  have hst := (u_facts hfc hkC (u_lays hts hin hk) hif).1
  have h6 := u_store hfc hkC hkind hlay hif ((mm_cls ci r' hr).2.1 k hk) hn hfit
  refine va_WputK hx hb (f := f) hown (va_Nw.use rfl (hctx.2.1 _ hl rfl)) hif hst (by rw [q2]; exact h6) q1 q3 (by rw [hsl]; exact k2_hasslot (q4 k hk)) rfl rfl hdg fun H' e1 e2 e3 => ?_
  rw [hsl] at e1
  obtain ⟨a1, a2⟩ := mm_put_end F hR hS hki hi hr hk q2 q3 q4 e1 e2 e3 f.slot
  exact kk H' _ a1 a2
theorem mm_putF (F : mm_Fx p s m args meth c φ kx bs D o own nL true cc) (hR : mm_R φ kx bs D vwCl zs s mem H) (hS : va_S (mm_B bs) s.heap H locs) {i ci k idx : Nat} {fs : List Value} {v : Value} {r : vw_C} (hki : kx ≤ i) (hi : mem[i]? = some (.inr (ci, fs))) (hr : vwCl[ci]? = some r) (hk : k < r.2.2) (hfin : (r.2.1 k).2.2.2 = true) (hdecl : (r.2.1 k).1 = own) (hn : narrow (mm_ty ci k) (mm_sh φ v) = mm_sh φ v) (hfit : fits (mm_ty ci k) (mm_sh φ v) = true) (hl : Cond.fieldLink own idx (r.2.1 k).1 (r.2.1 k).2.1 (r.2.1 k).2.2.1 ∈ mm_gw) (hdg : decode cc pc = .ok (.putfield idx, 3))
    (kk : ∀ (H1 : Heap) (locs1 : List Loc), mm_R φ kx bs D vwCl zs s (mem.set i (.inr (ci, fs.set k v))) H1 → va_S (mm_B bs) s.heap H1 locs1 → W p l e R s m args below meth c H1 locs1 cells slots Q (F0 m (pc + 3) ls rest)) : W p l e R s m args below meth c H locs cells slots Q (F0 m pc ls (mm_sh φ v :: .ref (φ i) :: rest)) := by
  obtain ⟨hx, hb, -, hown, -, hts, hctx, hph, -, hini⟩ := id F
  obtain ⟨r', h1, hlen, cell, q1, q2, q3, q4⟩ := hR.2.2.1 i _ hi
  have hrr : r' = r := Option.some.inj (h1.symm.trans hr)
  subst hrr
  obtain ⟨hSl, hfc, kC, hkC, hkind⟩ := hctx.1.1 ci _ hr
  obtain ⟨cf, kf, fi, f, hif, hsl⟩ := hSl k hk
  have hin := (mm_cls ci r' hr).1
  have hlay := hts _ (hin _ (u_in_lay hk))
  unfold u_lay at hlay
  rw [if_pos hfin] at hlay
  have hst := (u_facts hfc hkC (u_lays hts hin hk) hif).1
  have hcf : m.cls = cf := by
    obtain ⟨_, _, c', _, _, _, -, -, hf', -, -, -, hown2, -⟩ := Cond.laysFinal_spec hlay
    have e1 : c' = cf := by have := hif.symm.trans hf'; simp at this; exact this.1.symm
    rw [hdecl] at hown2
    rw [← e1]; exact Option.some.inj (hown.symm.trans hown2)
  have h6 := u_fits hfc hkC hkind (Or.inr hlay) hif ((mm_cls ci r' hr).2.1 k hk) hn hfit
  refine W.putFinK hx hb hown (hts _ hl) hif hst hcf (hini rfl) (by rw [q2]; exact h6) q1 q3 (by rw [hsl]; exact k2_hasslot (q4 k hk)) rfl rfl hdg fun H' e1 e2 e3 => ?_
  rw [hsl] at e1
  obtain ⟨a1, a2⟩ := mm_put_end F hR hS hki hi hr hk q2 q3 q4 e1 e2 e3 f.slot
  exact kk H' _ a1 a2
/-- what an array's cell is -/
theorem mm_arr {i : Nat} {ty : FieldType} {xs : List Value} (hR : mm_R φ kx bs D vwCl zs s mem H) (hi : mem[i]? = some (.inl (ty, xs))) : ∃ cell : Cell, H[φ i]? = some cell ∧ mm_wk φ cell xs ∧ cell.vm ≠ .unknown ∧ s.isArrayOf cell ty ∧ (kx ≤ i → (mm_pl cell ∧ cell.slots = (xs.map (mm_sh φ)).toArray) ∧ va_RA s cell.cls ty) := hR.2.2.1 i _ hi
theorem mm_arr_sz {xs : List Value} {cell : Cell} (h : cell.slots = (xs.map (mm_sh φ)).toArray) : cell.slots.size = xs.length := by rw [h]; simp
theorem mm_arr_rd {xs : List Value} {cell : Cell} (h : mm_wk φ cell xs) {k : Nat} {v : Value} (hv : xs[k]? = some v) : cell.slots[k]? = some (mm_sh φ v) := h.2.2 k v hv
theorem mm_ast_end (hph : mm_ph φ kx bs) (hR : mm_R φ kx bs D vwCl zs s mem H) (hS : va_S (mm_B bs) s.heap H locs) {i k : Nat} {ty : FieldType} {xs : List Value} {v : Value} (hki : kx ≤ i) {cell : Cell} (_h2 : mm_wk φ cell xs) (h3 : cell.vm ≠ .unknown) (h4 : s.isArrayOf cell ty) (h5 : kx ≤ i → (mm_pl cell ∧ cell.slots = (xs.map (mm_sh φ)).toArray) ∧ va_RA s cell.cls ty) {H' : Heap} (e1 : H'[φ i]? = some (cell.setSlot k (mm_sh φ v))) (e2 : H'.size = H.size) (e3 : ∀ q : Nat, q ≠ φ i → H'[q]? = H[q]?) : mm_R φ kx bs D vwCl zs s (mem.set i (.inl (ty, xs.set k v))) H' ∧ va_S (mm_B bs) s.heap H' (locs ++ [⟨φ i, k⟩]) := by
  have hs : (cell.setSlot k (mm_sh φ v)).slots = ((xs.set k v).map (mm_sh φ)).toArray := by
    show cell.slots.setIfInBounds k (mm_sh φ v) = ((xs.set k v).map (mm_sh φ)).toArray
    rw [(h5 hki).1.2, List.map_set]
    simp
  exact ⟨mm_R_set hph hR hki ⟨_, e1, mm_wk_of hs, h3, h4, fun q => ⟨⟨mm_pl_set (h5 q).1.1 _ _, hs⟩, (h5 q).2⟩⟩ e2 e3, hS.put e2 e3 (mm_ph_ge hph hki)⟩
end MM
end
section
/-! ===== steps on cells, as a function of the state ===== -/
theorem mm_nar {φ : Nat → Nat} {ty : FieldType} {v : Value} (h : narrow ty v = v) : narrow ty (mm_sh φ v) = mm_sh φ v := by
  cases v with
  | ref a => cases ty <;> rfl
  | _ => exact h
theorem mm_fit {φ : Nat → Nat} {ty : FieldType} {v : Value} (h : fits ty v = true) : fits ty (mm_sh φ v) = true := by
  cases v with
  | ref a => cases ty <;> first | rfl | exact h
  | _ => exact h
theorem mm_sh_nar (φ : Nat → Nat) (ty : FieldType) (x : Int32) : mm_sh φ (narrow ty (.int x)) = narrow ty (.int x) := by cases ty <;> rfl
theorem mm_sh_def (φ : Nat → Nat) (ty : FieldType) : mm_sh φ (defaultValue ty) = defaultValue ty := by cases ty <;> rfl
def mm_getS (o len idx : Nat) (σ : mm_S) : Option mm_S := match σ with
  | (pc, lv, .ref a :: r, mem, cb, sb) => match mm_look o idx, mem[a]? with
    | some (idx', kd, ci, k, z, pl), some (.inr (ci', fs)) => if len = 3 ∧ idx' = idx ∧ (kd = 0 ∨ kd = 1) ∧ ci' = ci then (fs[k]?).map (fun v => (pc + 3, lv, v :: r, mem, cb, sb)) else none
    | _, _ => none
  | _ => none
def mm_putS (o kx : Nat) (ini : Bool) (len idx : Nat) (σ : mm_S) : Option mm_S := match σ with
  | (pc, lv, v :: .ref a :: r, mem, cb, sb) => match mm_look o idx, mem[a]? with
    | some (idx', kd, ci, k, z, pl), some (.inr (ci', fs)) => match vwCl[ci]? with
      | some q => if len = 3 ∧ idx' = idx ∧ ci' = ci ∧ kx ≤ a ∧ narrow (mm_ty ci k) v = v ∧ fits (mm_ty ci k) v = true ∧ (((kd = 0 ∨ kd = 1) ∧ (q.2.1 k).2.2.2 = false) ∨ (kd = 0 ∧ (q.2.1 k).2.2.2 = true ∧ ini = true ∧ mm_cns[o]? = some (q.2.1 k).1)) then some (pc + 3, lv, r, mem.set a (.inr (ci, fs.set k v)), cb, sb) else none
      | none => none
    | _, _ => none
  | _ => none
def mm_aldS (P : FieldType → Bool) (len : Nat) (σ : mm_S) : Option mm_S := match σ with
  | (pc, lv, .int j :: .ref a :: r, mem, cb, sb) => match mem[a]? with
    | some (.inl (ty, xs)) => if len = 1 ∧ P ty = true ∧ ¬ (j < 0 ∨ xs.length ≤ j.toNatClampNeg) then (xs[j.toNatClampNeg]?).map (fun v => (pc + 1, lv, v :: r, mem, cb, sb)) else none
    | _ => none
  | _ => none
theorem mm_aldS_inv {P : FieldType → Bool} {len : Nat} {σ σ' : mm_S} (h : mm_aldS P len σ = some σ') : len = 1 ∧ ∃ pc lv j a r mem cb sb ty xs v, σ = (pc, lv, .int j :: .ref a :: r, mem, cb, sb) ∧ mem[a]? = some (.inl (ty, xs)) ∧ P ty = true ∧ ¬ (j < 0 ∨ xs.length ≤ j.toNatClampNeg) ∧ xs[j.toNatClampNeg]? = some v ∧ σ' = (pc + 1, lv, v :: r, mem, cb, sb) := by
  unfold mm_aldS at h
  split at h
  · split at h
    · next e1 =>
      split at h
      · next e2 =>
        obtain ⟨v, hv, rfl⟩ := Option.map_eq_some_iff.mp h
        exact ⟨e2.1, _, _, _, _, _, _, _, _, _, _, _, rfl, e1, e2.2.1, e2.2.2, hv, rfl⟩
      · cases h
    · cases h
  · cases h
def mm_astS (ty0 : FieldType) (kx len : Nat) (σ : mm_S) : Option mm_S := match σ with
  | (pc, lv, .int x :: .int j :: .ref a :: r, mem, cb, sb) => match mem[a]? with
    | some (.inl (ty, xs)) => if len = 1 ∧ ty = ty0 ∧ kx ≤ a ∧ ¬ (j < 0 ∨ xs.length ≤ j.toNatClampNeg) then some (pc + 1, lv, r, mem.set a (.inl (ty0, xs.set j.toNatClampNeg (narrow ty0 (.int x)))), cb, sb) else none
    | _ => none
  | _ => none
theorem mm_astS_inv {ty0 : FieldType} {kx len : Nat} {σ σ' : mm_S} (h : mm_astS ty0 kx len σ = some σ') : len = 1 ∧ ∃ pc lv x j a r mem cb sb xs, σ = (pc, lv, .int x :: .int j :: .ref a :: r, mem, cb, sb) ∧ mem[a]? = some (.inl (ty0, xs)) ∧ kx ≤ a ∧ ¬ (j < 0 ∨ xs.length ≤ j.toNatClampNeg) ∧ σ' = (pc + 1, lv, r, mem.set a (.inl (ty0, xs.set j.toNatClampNeg (narrow ty0 (.int x)))), cb, sb) := by
  unfold mm_astS at h
  split at h
  · split at h
    · next e1 =>
      split at h
      · next e2 =>
        obtain ⟨rfl, rfl, h3, h4⟩ := e2
        cases h
        exact ⟨rfl, _, _, _, _, _, _, _, _, _, _, rfl, e1, h3, h4, rfl⟩
      · cases h
    · cases h
  · cases h
def mm_astlS (kx len : Nat) (σ : mm_S) : Option mm_S := match σ with
  | (pc, lv, .long x :: .int j :: .ref a :: r, mem, cb, sb) => match mem[a]? with
    | some (.inl (ty, xs)) => if len = 1 ∧ ty = .long ∧ kx ≤ a ∧ ¬ (j < 0 ∨ xs.length ≤ j.toNatClampNeg) then some (pc + 1, lv, r, mem.set a (.inl (ty, xs.set j.toNatClampNeg (.long x))), cb, sb) else none
    | _ => none
  | _ => none
def mm_astaS (kx len : Nat) (σ : mm_S) : Option mm_S := match σ with
  | (pc, lv, .ref b :: .int j :: .ref a :: r, mem, cb, sb) => match mem[a]?, mem[b]? with
    | some (.inl (.object C, xs)), some (.inr (ci, fs)) => match vwCl[ci]? with
      | some q => if len = 1 ∧ q.1 = C ∧ kx ≤ a ∧ ¬ (j < 0 ∨ xs.length ≤ j.toNatClampNeg) then some (pc + 1, lv, r, mem.set a (.inl (.object C, xs.set j.toNatClampNeg (.ref b))), cb, sb) else none
      | none => none
    | _, _ => none
  | _ => none
def mm_bstS (kx len : Nat) (σ : mm_S) : Option mm_S := match σ with
  | (_, _, .int _ :: .int _ :: .ref a :: _, mem, _, _) => match mem[a]? with
    | some (.inl (.byte, _)) => mm_astS .byte kx len σ
    | some (.inl (.boolean, _)) => mm_astS .boolean kx len σ
    | _ => none
  | _ => none
def mm_alenS (len : Nat) (σ : mm_S) : Option mm_S := match σ with
  | (pc, lv, .ref a :: r, mem, cb, sb) => match mem[a]? with
    | some (.inl (ty, xs)) => if len = 1 then some (pc + 1, lv, .int (Int32.ofNat xs.length) :: r, mem, cb, sb) else none
    | _ => none
  | _ => none
def mm_ldcS (o k len idx : Nat) (σ : mm_S) : Option mm_S := match σ with
  | (pc, lv, st, mem, cb, sb) => match mm_look o idx with
    | some (idx', 6, a, b, z, pl) => if len = k ∧ idx' = idx then some (pc + k, lv, .int (Int32.ofInt z) :: st, mem, cb, sb) else none
    | _ => none
def mm_ldc2S (o len idx : Nat) (σ : mm_S) : Option mm_S := match σ with
  | (pc, lv, st, mem, cb, sb) => match mm_look o idx with
    | some (idx', 7, a, b, z, pl) => if len = 3 ∧ idx' = idx then some (pc + 3, lv, .long (Int64.ofInt z) :: st, mem, cb, sb) else none
    | _ => none
def mm_getstS (o : Nat) (zs : List mm_Zt) (len idx : Nat) (σ : mm_S) : Option mm_S := match σ with
  | (pc, lv, st, mem, cb, sb) => match mm_look o idx with
    | some (idx', kd, a, b, z, pl) => match mm_sts[a]? with
      | some q => match zs.find? (fun t => decide (t.1 = q.1 ∧ t.2.1 = q.2.1 ∧ t.2.2.1 = q.2.2)) with
        | some t => if len = 3 ∧ idx' = idx ∧ (kd = 10 ∨ kd = 11) then some (pc + 3, lv, t.2.2.2 :: st, mem, cb, sb) else none
        | none => none
      | none => none
    | none => none
def mm_newS (o len idx : Nat) (σ : mm_S) : Option mm_S := match σ with
  | (pc, lv, st, mem, cb, sb) => match mm_look o idx with
    | some (idx', kd, ci, b, z, pl) => match vwCl[ci]? with
      | some q => if len = 3 ∧ idx' = idx ∧ kd = 4 ∧ 1 ≤ cb ∧ q.2.2 ≤ sb then some (pc + 3, lv, .ref mem.length :: st, mem ++ [.inr (ci, (List.range q.2.2).map (fun k => defaultValue (mm_ty ci k)))], cb - 1, sb - q.2.2) else none
      | none => none
    | none => none
def mm_naS (at_ : ArrayType) (len : Nat) (σ : mm_S) : Option mm_S := match σ with
  | (pc, lv, .int n :: r, mem, cb, sb) => if len = 2 ∧ (newarray.typeOf at_ = .int ∨ newarray.typeOf at_ = .long ∨ newarray.typeOf at_ = .byte ∨ newarray.typeOf at_ = .char ∨ newarray.typeOf at_ = .boolean) ∧ ¬ n < 0 ∧ n.toNatClampNeg ≤ 10000 ∧ 1 ≤ cb ∧ n.toNatClampNeg ≤ sb then some (pc + 2, lv, .ref mem.length :: r, mem ++ [.inl (newarray.typeOf at_, List.replicate n.toNatClampNeg (defaultValue (newarray.typeOf at_)))], cb - 1, sb - n.toNatClampNeg) else none
  | _ => none
def mm_anaS (o len idx : Nat) (σ : mm_S) : Option mm_S := match σ with
  | (pc, lv, .int n :: r, mem, cb, sb) => match mm_look o idx with
    | some (idx', kd, ci, b, z, pl) => match vwCl[ci]? with
      | some q => if len = 3 ∧ idx' = idx ∧ kd = 4 ∧ (q.1 = "RaftTown$Raft" ∨ q.1 = "RaftTown$Person" ∨ q.1 = "RaftTown$Rope" ∨ q.1 = "RaftTown$Text" ∨ q.1 = "RaftTown$Sheet") ∧ ¬ n < 0 ∧ n.toNatClampNeg ≤ 10000 ∧ 1 ≤ cb ∧ n.toNatClampNeg ≤ sb then some (pc + 3, lv, .ref mem.length :: r, mem ++ [.inl (.object q.1, List.replicate n.toNatClampNeg .null)], cb - 1, sb - n.toNatClampNeg) else none
      | none => none
    | none => none
  | _ => none
def mm_cpy (xs ys : List Value) (sp dp n : Nat) : List Value := (List.range ys.length).map (fun j => if dp ≤ j ∧ j < dp + n then xs.getD (sp + (j - dp)) .null else ys.getD j .null)
def mm_spI (o len idx : Nat) (σ : mm_S) : Option mm_S := match σ with
  | (pc, lv, .ref a :: r, mem, cb, sb) => match mm_look o idx with
    | some (idx', kd, ci, b, z, pl) => if len = 3 ∧ idx' = idx ∧ kd = 8 ∧ (r.map fun v => v.category).sum ≤ 8 then some (pc + 3, lv, r, mem, cb, sb) else none
    | none => none
  | _ => none
def mm_spS (o kx len idx : Nat) (σ : mm_S) : Option mm_S := match σ with
  | (pc, lv, st, mem, cb, sb) => match mm_look o idx with
    | some (idx', kd, ci, b, z, pl) => if len = 3 ∧ idx' = idx then match kd, st with
      | 13, .int y :: .int x :: r => if (r.map fun v => v.category).sum ≤ 8 then some (pc + 3, lv, .int (if x < y then y else x) :: r, mem, cb, sb) else none
      | 14, .int y :: .int x :: r => if (r.map fun v => v.category).sum ≤ 8 then some (pc + 3, lv, .int (if y < x then y else x) :: r, mem, cb, sb) else none
      | 9, .int n :: .int dp :: .ref d :: .int sp :: .ref s :: r => match mem[s]?, mem[d]? with
        | some (.inl (ty, xs)), some (.inl (ty', ys)) => if (r.map fun v => v.category).sum ≤ 8 ∧ kx ≤ s ∧ kx ≤ d ∧ ty' = ty ∧ refKind ty = false ∧ ¬ sp < 0 ∧ ¬ dp < 0 ∧ ¬ n < 0 ∧ sp.toNatClampNeg + n.toNatClampNeg ≤ xs.length ∧ dp.toNatClampNeg + n.toNatClampNeg ≤ ys.length ∧ xs.all (fun v => fits ty v) = true then some (pc + 3, lv, r, mem.set d (.inl (ty, mm_cpy xs ys sp.toNatClampNeg dp.toNatClampNeg n.toNatClampNeg)), cb, sb) else none
        | _, _ => none
      | _, _ => none
      else none
    | none => none
def mm_mem (o kx : Nat) (ini : Bool) (zs : List mm_Zt) (ins : Instr) (len : Nat) (σ : mm_S) : Option mm_S := match ins with
  | .getfield idx => mm_getS o len idx σ
  | .putfield idx => mm_putS o kx ini len idx σ
  | .iaload => mm_aldS (fun ty => decide (ty = .int)) len σ
  | .laload => mm_aldS (fun ty => decide (ty = .long)) len σ
  | .caload => mm_aldS (fun ty => decide (ty = .char)) len σ
  | .baload => mm_aldS (fun ty => decide (ty = .byte ∨ ty = .boolean)) len σ
  | .aaload => mm_aldS (fun ty => ty.isReference) len σ
  | .iastore => mm_astS .int kx len σ
  | .castore => mm_astS .char kx len σ
  | .bastore => mm_bstS kx len σ
  | .lastore => mm_astlS kx len σ
  | .aastore => mm_astaS kx len σ
  | .arraylength => mm_alenS len σ
  | .ldc idx => mm_ldcS o 2 len idx σ
  | .ldc_w idx => mm_ldcS o 3 len idx σ
  | .ldc2_w idx => mm_ldc2S o len idx σ
  | .getstatic idx => mm_getstS o zs len idx σ
  | .new idx => mm_newS o len idx σ
  | .newarray at_ => mm_naS at_ len σ
  | .anewarray idx => mm_anaS o len idx σ
  | .invokespecial idx => mm_spI o len idx σ
  | .invokestatic idx => mm_spS o kx len idx σ
  | _ => none
end
section
/-! ===== each of these steps is the machine's ===== -/
section MMO
variable {p : Program} {l : Launch} {e : Env} {R : Room} {s : State} {m : MethodId} {args : Array Value} {below : List Frame} {meth : Method} {c : Code} {Q : State → Prop}
variable {φ : Nat → Nat} {kx bs : Nat} {D : va_G} {zs : List mm_Zt} {cc : ByteArray} {o nL len : Nat} {own : String} {ini : Bool} {σ σ' : mm_S}
theorem mm_getS_ok {idx : Nat} (F : mm_Fx p s m args meth c φ kx bs D o own nL ini cc) (hd : decode cc σ.1 = .ok (.getfield idx, len)) (h : mm_getS o len idx σ = some σ') (kk : mm_Go p l e R s m args below meth c φ kx bs D zs nL Q σ') : mm_Go p l e R s m args below meth c φ kx bs D zs nL Q σ := by
  unfold mm_getS at h
  split at h
  · next pc lv a r mem cb sb =>
    split at h
    · next idx' kd ci k z pl ci' fs e1 e2 =>
      split at h
      · next e3 =>
        obtain ⟨rfl, rfl, hkd, rfl⟩ := e3
        obtain ⟨v, hv, rfl⟩ := Option.map_eq_some_iff.mp h
        intro H locs ls cells slots hR hS hl hc hs
        rcases hkd with rfl | rfl
        · obtain ⟨q, g1, g2, g3⟩ := mm_p0 F.2.2.2.2.1 e1
          exact mm_getf F hR e2 g1 g2 hv g3 hd (kk H locs ls cells slots hR hS hl hc hs)
        · obtain ⟨q, g1, g2, g3⟩ := mm_p1 F.2.2.2.2.1 e1
          exact mm_getN F hR e2 g1 g2 hv g3 hd (kk H locs ls cells slots hR hS hl hc hs)
      · cases h
    · cases h
  · cases h
theorem mm_putS_ok {idx : Nat} (F : mm_Fx p s m args meth c φ kx bs D o own nL ini cc) (hd : decode cc σ.1 = .ok (.putfield idx, len)) (h : mm_putS o kx ini len idx σ = some σ') (kk : mm_Go p l e R s m args below meth c φ kx bs D zs nL Q σ') : mm_Go p l e R s m args below meth c φ kx bs D zs nL Q σ := by
  unfold mm_putS at h
  split at h
  · next pc lv v a r mem cb sb =>
    split at h
    · next idx' kd ci k z pl ci' fs e1 e2 =>
      split at h
      · next q e4 =>
        split at h
        · next e3 =>
          obtain ⟨rfl, rfl, rfl, hka, hn, hf, hkd⟩ := e3
          cases h
          intro H locs ls cells slots hR hS hl hc hs
          rcases hkd with ⟨rfl | rfl, hfin⟩ | ⟨rfl, hfin, rfl, hdecl⟩
          · obtain ⟨q', g1, g2, g3⟩ := mm_p0 F.2.2.2.2.1 e1
            cases g1.symm.trans e4
            exact mm_putf F hR hS hka e2 g1 g2 hfin (mm_nar hn) (mm_fit hf) g3 hd (fun H1 locs1 hR1 hS1 => kk H1 locs1 ls cells slots hR1 hS1 hl hc hs)
          · obtain ⟨q', g1, g2, g3⟩ := mm_p1 F.2.2.2.2.1 e1
            cases g1.symm.trans e4
            exact mm_putN F hR hS hka e2 g1 g2 hfin (mm_nar hn) (mm_fit hf) g3 hd (fun H1 locs1 hR1 hS1 => kk H1 locs1 ls cells slots hR1 hS1 hl hc hs)
          · obtain ⟨q', g1, g2, g3⟩ := mm_p0 F.2.2.2.2.1 e1
            cases g1.symm.trans e4
            have hdecl2 : (q.2.1 k).1 = own := Option.some.inj (hdecl.symm.trans F.2.2.2.2.1)
            exact mm_putF F hR hS hka e2 g1 g2 hfin hdecl2 (mm_nar hn) (mm_fit hf) g3 hd (fun H1 locs1 hR1 hS1 => kk H1 locs1 ls cells slots hR1 hS1 hl hc hs)
        · cases h
      · cases h
    · cases h
  · cases h
theorem mm_in_sz {j : Int32} {xs : List Value} {cell : Cell} (h : mm_wk φ cell xs) (hj : ¬ (j < 0 ∨ xs.length ≤ j.toNatClampNeg)) : ¬ (j < 0 ∨ cell.slots.size ≤ j.toNatClampNeg) := fun z => hj (z.elim Or.inl (fun q => Or.inr (Nat.le_trans h.1 q)))
theorem mm_iald_ok (F : mm_Fx p s m args meth c φ kx bs D o own nL ini cc) (hd : decode cc σ.1 = .ok (.iaload, len)) (h : mm_aldS (fun ty => decide (ty = .int)) len σ = some σ') (kk : mm_Go p l e R s m args below meth c φ kx bs D zs nL Q σ') : mm_Go p l e R s m args below meth c φ kx bs D zs nL Q σ := by
  obtain ⟨rfl, pc, lv, j, a, r, mem, cb, sb, ty, xs, v, rfl, h1, h2, h3, h4, rfl⟩ := mm_aldS_inv h
  cases of_decide_eq_true h2
  intro H locs ls cells slots hR hS hl hc hs
  obtain ⟨cell, g1, g2, g3, g4, -⟩ := mm_arr hR h1
  exact W.iald F.1 F.2.1 g1 g4 g3 (mm_in_sz g2 h3) (mm_arr_rd g2 h4) rfl rfl hd (kk H locs ls cells slots hR hS hl hc hs)
theorem mm_lald_ok (F : mm_Fx p s m args meth c φ kx bs D o own nL ini cc) (hd : decode cc σ.1 = .ok (.laload, len)) (h : mm_aldS (fun ty => decide (ty = .long)) len σ = some σ') (kk : mm_Go p l e R s m args below meth c φ kx bs D zs nL Q σ') : mm_Go p l e R s m args below meth c φ kx bs D zs nL Q σ := by
  obtain ⟨rfl, pc, lv, j, a, r, mem, cb, sb, ty, xs, v, rfl, h1, h2, h3, h4, rfl⟩ := mm_aldS_inv h
  cases of_decide_eq_true h2
  intro H locs ls cells slots hR hS hl hc hs
  obtain ⟨cell, g1, g2, g3, g4, -⟩ := mm_arr hR h1
  exact W.lald F.1 F.2.1 g1 g4 g3 (mm_in_sz g2 h3) (mm_arr_rd g2 h4) rfl rfl hd (kk H locs ls cells slots hR hS hl hc hs)
theorem mm_cald_ok (F : mm_Fx p s m args meth c φ kx bs D o own nL ini cc) (hd : decode cc σ.1 = .ok (.caload, len)) (h : mm_aldS (fun ty => decide (ty = .char)) len σ = some σ') (kk : mm_Go p l e R s m args below meth c φ kx bs D zs nL Q σ') : mm_Go p l e R s m args below meth c φ kx bs D zs nL Q σ := by
  obtain ⟨rfl, pc, lv, j, a, r, mem, cb, sb, ty, xs, v, rfl, h1, h2, h3, h4, rfl⟩ := mm_aldS_inv h
  cases of_decide_eq_true h2
  intro H locs ls cells slots hR hS hl hc hs
  obtain ⟨cell, g1, g2, g3, g4, -⟩ := mm_arr hR h1
  exact W.cald F.1 F.2.1 g1 g4 g3 (mm_in_sz g2 h3) (mm_arr_rd g2 h4) rfl rfl hd (kk H locs ls cells slots hR hS hl hc hs)
theorem mm_bald_ok (F : mm_Fx p s m args meth c φ kx bs D o own nL ini cc) (hd : decode cc σ.1 = .ok (.baload, len)) (h : mm_aldS (fun ty => decide (ty = .byte ∨ ty = .boolean)) len σ = some σ') (kk : mm_Go p l e R s m args below meth c φ kx bs D zs nL Q σ') : mm_Go p l e R s m args below meth c φ kx bs D zs nL Q σ := by
  obtain ⟨rfl, pc, lv, j, a, r, mem, cb, sb, ty, xs, v, rfl, h1, h2, h3, h4, rfl⟩ := mm_aldS_inv h
  intro H locs ls cells slots hR hS hl hc hs
  obtain ⟨cell, g1, g2, g3, g4, -⟩ := mm_arr hR h1
  rcases of_decide_eq_true h2 with rfl | rfl
  · exact W.bald F.1 F.2.1 g1 g4 g3 (mm_in_sz g2 h3) (mm_arr_rd g2 h4) rfl rfl hd (kk H locs ls cells slots hR hS hl hc hs)
  · exact W.zald F.1 F.2.1 g1 g4 g3 (mm_in_sz g2 h3) (mm_arr_rd g2 h4) rfl rfl hd (kk H locs ls cells slots hR hS hl hc hs)
theorem mm_aald_ok (F : mm_Fx p s m args meth c φ kx bs D o own nL ini cc) (hd : decode cc σ.1 = .ok (.aaload, len)) (h : mm_aldS (fun ty => ty.isReference) len σ = some σ') (kk : mm_Go p l e R s m args below meth c φ kx bs D zs nL Q σ') : mm_Go p l e R s m args below meth c φ kx bs D zs nL Q σ := by
  obtain ⟨rfl, pc, lv, j, a, r, mem, cb, sb, ty, xs, v, rfl, h1, h2, h3, h4, rfl⟩ := mm_aldS_inv h
  intro H locs ls cells slots hR hS hl hc hs
  obtain ⟨cell, g1, g2, g3, g4, -⟩ := mm_arr hR h1
  exact W.aald F.1 F.2.1 g1 g4 h2 g3 (mm_in_sz g2 h3) (mm_arr_rd g2 h4) rfl rfl hd (kk H locs ls cells slots hR hS hl hc hs)
theorem mm_iast_ok (F : mm_Fx p s m args meth c φ kx bs D o own nL ini cc) (hd : decode cc σ.1 = .ok (.iastore, len)) (h : mm_astS .int kx len σ = some σ') (kk : mm_Go p l e R s m args below meth c φ kx bs D zs nL Q σ') : mm_Go p l e R s m args below meth c φ kx bs D zs nL Q σ := by
  obtain ⟨rfl, pc, lv, x, j, a, r, mem, cb, sb, xs, rfl, h1, h2, h3, rfl⟩ := mm_astS_inv h
  intro H locs ls cells slots hR hS hl hc hs
  obtain ⟨cell, g1, g2, g3, g4, g5⟩ := mm_arr hR h1
  refine W.iast F.1 F.2.1 g1 g4 g3 (mm_in_sz g2 h3) rfl rfl hd fun H' e1 e2 e3 => ?_
  obtain ⟨a1, a2⟩ := mm_ast_end (v := .int x) F.2.2.2.2.2.2.2.1 hR hS h2 g2 g3 g4 g5 e1 e2 e3
  exact kk H' _ ls cells slots a1 a2 hl hc hs
theorem mm_cast_ok (F : mm_Fx p s m args meth c φ kx bs D o own nL ini cc) (hd : decode cc σ.1 = .ok (.castore, len)) (h : mm_astS .char kx len σ = some σ') (kk : mm_Go p l e R s m args below meth c φ kx bs D zs nL Q σ') : mm_Go p l e R s m args below meth c φ kx bs D zs nL Q σ := by
  obtain ⟨rfl, pc, lv, x, j, a, r, mem, cb, sb, xs, rfl, h1, h2, h3, rfl⟩ := mm_astS_inv h
  intro H locs ls cells slots hR hS hl hc hs
  obtain ⟨cell, g1, g2, g3, g4, g5⟩ := mm_arr hR h1
  refine W.cast F.1 F.2.1 g1 g4 g3 (mm_in_sz g2 h3) rfl rfl hd fun H' e1 e2 e3 => ?_
  obtain ⟨a1, a2⟩ := mm_ast_end (v := narrow .char (.int x)) F.2.2.2.2.2.2.2.1 hR hS h2 g2 g3 g4 g5 e1 e2 e3
  exact kk H' _ ls cells slots a1 a2 hl hc hs
theorem mm_bast_ok (F : mm_Fx p s m args meth c φ kx bs D o own nL ini cc) (hd : decode cc σ.1 = .ok (.bastore, len)) (h : mm_bstS kx len σ = some σ') (kk : mm_Go p l e R s m args below meth c φ kx bs D zs nL Q σ') : mm_Go p l e R s m args below meth c φ kx bs D zs nL Q σ := by
  unfold mm_bstS at h
  split at h
  · split at h
    · obtain ⟨rfl, pc, lv, x, j, a, r, mem, cb, sb, xs, hσ, h1, h2, h3, rfl⟩ := mm_astS_inv h
      cases hσ
      intro H locs ls cells slots hR hS hl hc hs
      obtain ⟨cell, g1, g2, g3, g4, g5⟩ := mm_arr hR h1
      refine W.bast F.1 F.2.1 g1 g4 g3 (mm_in_sz g2 h3) rfl rfl hd fun H' e1 e2 e3 => ?_
      obtain ⟨a1, a2⟩ := mm_ast_end (v := narrow .byte (.int _)) F.2.2.2.2.2.2.2.1 hR hS h2 g2 g3 g4 g5 e1 e2 e3
      exact kk H' _ ls cells slots a1 a2 hl hc hs
    · obtain ⟨rfl, pc, lv, x, j, a, r, mem, cb, sb, xs, hσ, h1, h2, h3, rfl⟩ := mm_astS_inv h
      cases hσ
      intro H locs ls cells slots hR hS hl hc hs
      obtain ⟨cell, g1, g2, g3, g4, g5⟩ := mm_arr hR h1
      refine W.zast F.1 F.2.1 g1 g4 g3 (mm_in_sz g2 h3) rfl rfl hd fun H' e1 e2 e3 => ?_
      obtain ⟨a1, a2⟩ := mm_ast_end (v := narrow .boolean (.int _)) F.2.2.2.2.2.2.2.1 hR hS h2 g2 g3 g4 g5 e1 e2 e3
      exact kk H' _ ls cells slots a1 a2 hl hc hs
    · cases h
  · cases h
theorem mm_last_ok (F : mm_Fx p s m args meth c φ kx bs D o own nL ini cc) (hd : decode cc σ.1 = .ok (.lastore, len)) (h : mm_astlS kx len σ = some σ') (kk : mm_Go p l e R s m args below meth c φ kx bs D zs nL Q σ') : mm_Go p l e R s m args below meth c φ kx bs D zs nL Q σ := by
  unfold mm_astlS at h
  split at h
  · next pc lv x j a r mem cb sb =>
    split at h
    · next ty xs h1 =>
      split at h
      · next e2 =>
        obtain ⟨rfl, rfl, h2, h3⟩ := e2
        cases h
        intro H locs ls cells slots hR hS hl hc hs
        obtain ⟨cell, g1, g2, g3, g4, g5⟩ := mm_arr hR h1
        refine W.last F.1 F.2.1 g1 g4 g3 (mm_in_sz g2 h3) rfl rfl hd fun H' e1 e2 e3 => ?_
        obtain ⟨a1, a2⟩ := mm_ast_end (v := .long x) F.2.2.2.2.2.2.2.1 hR hS h2 g2 g3 g4 g5 e1 e2 e3
        exact kk H' _ ls cells slots a1 a2 hl hc hs
      · cases h
    · cases h
  · cases h
theorem mm_aast_ok (F : mm_Fx p s m args meth c φ kx bs D o own nL ini cc) (hd : decode cc σ.1 = .ok (.aastore, len)) (h : mm_astaS kx len σ = some σ') (kk : mm_Go p l e R s m args below meth c φ kx bs D zs nL Q σ') : mm_Go p l e R s m args below meth c φ kx bs D zs nL Q σ := by
  unfold mm_astaS at h
  split at h
  · next pc lv b j a r mem cb sb =>
    split at h
    · next C xs ci fs h1 hb =>
      split at h
      · next q hq =>
        split at h
        · next e2 =>
          obtain ⟨rfl, rfl, h2, h3⟩ := e2
          cases h
          intro H locs ls cells slots hR hS hl hc hs
          obtain ⟨cell, g1, g2, g3, g4, g5⟩ := mm_arr hR h1
          obtain ⟨q', k1, k2, cellV, w1, w2, w3, -⟩ := hR.2.2.1 b _ hb
          cases k1.symm.trans hq
          have hctx := F.2.2.2.2.2.2.1
          have hcls := (hctx.1.1 ci q hq).2
          obtain ⟨kA, comp, u1, u2, u3, -⟩ := (g5 h2).2
          have hcomp : comp = D.1 ci := Option.some.inj (u3.symm.trans hcls.1)
          subst hcomp
          obtain ⟨kC, hkC, -⟩ := hcls.2
          refine W.aast F.1 F.2.1 g1 (fun z hz => by rw [(g5 h2).1.1.1] at hz; cases hz) g3 u1 u2 rfl hkC ⟨fun z => h3 (Or.inl z), Nat.not_le.mp (fun z => mm_in_sz g2 h3 (Or.inr z))⟩ w1 (fun z hz => by rw [w3] at hz; cases hz) (by rw [w2]; exact hkC) (by rw [w2]; exact va_assign hcls) rfl rfl hd fun H' e1 e2 e3 => ?_
          obtain ⟨a1, a2⟩ := mm_ast_end (v := .ref b) F.2.2.2.2.2.2.2.1 hR hS h2 g2 g3 g4 g5 e1 e2 e3
          exact kk H' _ ls cells slots a1 a2 hl hc hs
        · cases h
      · cases h
    · cases h
  · cases h
theorem mm_alen_ok (F : mm_Fx p s m args meth c φ kx bs D o own nL ini cc) (hd : decode cc σ.1 = .ok (.arraylength, len)) (h : mm_alenS len σ = some σ') (kk : mm_Go p l e R s m args below meth c φ kx bs D zs nL Q σ') : mm_Go p l e R s m args below meth c φ kx bs D zs nL Q σ := by
  unfold mm_alenS at h
  split at h
  · next pc lv a r mem cb sb =>
    split at h
    · next ty xs h1 =>
      split at h
      · next e2 =>
        subst e2
        cases h
        intro H locs ls cells slots hR hS hl hc hs
        obtain ⟨cell, g1, g2, g3, g4, g5⟩ := mm_arr hR h1
        exact W.alen (n := Int32.ofNat xs.length) F.1 F.2.1 g1 g4 g2.2.1 rfl rfl hd (kk H locs ls cells slots hR hS hl hc hs)
      · cases h
    · cases h
  · cases h
theorem mm_ldc_ok {idx : Nat} (F : mm_Fx p s m args meth c φ kx bs D o own nL ini cc) (hd : decode cc σ.1 = .ok (.ldc idx, len)) (h : mm_ldcS o 2 len idx σ = some σ') (kk : mm_Go p l e R s m args below meth c φ kx bs D zs nL Q σ') : mm_Go p l e R s m args below meth c φ kx bs D zs nL Q σ := by
  unfold mm_ldcS at h
  split at h
  next pc lv st mem cb sb =>
  split at h
  · next idx' a b z pl e1 =>
    split at h
    · next e2 =>
      obtain ⟨rfl, rfl⟩ := e2
      cases h
      intro H locs ls cells slots hR hS hl hc hs
      exact lv_ldc F.1 F.2.1 F.2.2.2.1 (F.2.2.2.2.2.1 _ (mm_p6 F.2.2.2.2.1 e1)) hd (kk H locs ls cells slots hR hS hl hc hs)
    · cases h
  · cases h
theorem mm_ldcw_ok {idx : Nat} (F : mm_Fx p s m args meth c φ kx bs D o own nL ini cc) (hd : decode cc σ.1 = .ok (.ldc_w idx, len)) (h : mm_ldcS o 3 len idx σ = some σ') (kk : mm_Go p l e R s m args below meth c φ kx bs D zs nL Q σ') : mm_Go p l e R s m args below meth c φ kx bs D zs nL Q σ := by
  unfold mm_ldcS at h
  split at h
  next pc lv st mem cb sb =>
  split at h
  · next idx' a b z pl e1 =>
    split at h
    · next e2 =>
      obtain ⟨rfl, rfl⟩ := e2
      cases h
      intro H locs ls cells slots hR hS hl hc hs
      exact lv_ldcw F.1 F.2.1 F.2.2.2.1 (F.2.2.2.2.2.1 _ (mm_p6 F.2.2.2.2.1 e1)) hd (kk H locs ls cells slots hR hS hl hc hs)
    · cases h
  · cases h
theorem mm_ldc2_ok {idx : Nat} (F : mm_Fx p s m args meth c φ kx bs D o own nL ini cc) (hd : decode cc σ.1 = .ok (.ldc2_w idx, len)) (h : mm_ldc2S o len idx σ = some σ') (kk : mm_Go p l e R s m args below meth c φ kx bs D zs nL Q σ') : mm_Go p l e R s m args below meth c φ kx bs D zs nL Q σ := by
  unfold mm_ldc2S at h
  split at h
  next pc lv st mem cb sb =>
  split at h
  · next idx' a b z pl e1 =>
    split at h
    · next e2 =>
      obtain ⟨rfl, rfl⟩ := e2
      cases h
      intro H locs ls cells slots hR hS hl hc hs
      exact lv_ldc2 F.1 F.2.1 F.2.2.2.1 (F.2.2.2.2.2.1 _ (mm_p7 F.2.2.2.2.1 e1)) hd (kk H locs ls cells slots hR hS hl hc hs)
    · cases h
  · cases h
theorem mm_getst_ok {idx : Nat} (F : mm_Fx p s m args meth c φ kx bs D o own nL ini cc) (hd : decode cc σ.1 = .ok (.getstatic idx, len)) (h : mm_getstS o zs len idx σ = some σ') (kk : mm_Go p l e R s m args below meth c φ kx bs D zs nL Q σ') : mm_Go p l e R s m args below meth c φ kx bs D zs nL Q σ := by
  unfold mm_getstS at h
  split at h
  next pc lv st mem cb sb =>
  split at h
  · next idx' kd a b z pl e1 =>
    split at h
    · next q hq =>
      split at h
      · next t ht =>
        split at h
        · next e2 =>
          obtain ⟨rfl, rfl, hkd⟩ := e2
          cases h
          intro H locs ls cells slots hR hS hl hc hs
          have hm := List.mem_of_find?_eq_some ht
          have he := List.find?_some ht
          simp only [decide_eq_true_eq] at he
          obtain ⟨f1, f2, f3⟩ := he
          obtain ⟨cf, kf, fi, f, ad, cell, h1, h2, h3, h4, h5, h6, h7, h8⟩ := hR.2.2.2 t hm
          rw [f1, f2, f3] at h1
          rcases hkd with rfl | rfl
          · obtain ⟨q', g1, g2⟩ := mm_p10 F.2.2.2.2.1 e1
            cases g1.symm.trans hq
            exact W.gets F.1 F.2.1 F.2.2.2.1 (F.2.2.2.2.2.1 _ g2) h1 h2 h3 h4 h5 (fun z => by rw [z] at h6; cases h6) h7 rfl hd (kk H locs ls cells slots hR hS hl hc hs)
          · obtain ⟨q', g1, g2⟩ := mm_p11 F.2.2.2.2.1 e1
            cases g1.symm.trans hq
            exact va_WgetsN F.1 F.2.1 F.2.2.2.1 (va_Nw.use rfl (F.2.2.2.2.2.2.1.2.1 _ g2 rfl)) h1 h2 h3 h4 h5 (fun z => by rw [z] at h6; cases h6) h7 rfl hd (kk H locs ls cells slots hR hS hl hc hs)
        · cases h
      · cases h
    · cases h
  · cases h
end MMO
end
section
/-! ===== new cells, and the calls that the kit knows ===== -/
theorem mm_cell_eta {φ : Nat → Nat} {xs : List Value} {cell : Cell} (h : cell.slots = (xs.map (mm_sh φ)).toArray) (hv : mm_pl cell) : cell = arrV cell.cls xs.length (fun j => (xs.map (mm_sh φ)).getD j .null) := by
  refine hv.2.trans ?_
  unfold arrV
  congr 1
  rw [h]
  apply Array.ext
  · simp
  · intro i h1 h2
    simp at h1
    simp [h1]
theorem mm_cpy_len (xs ys : List Value) (sp dp n : Nat) : (mm_cpy xs ys sp dp n).length = ys.length := by simp [mm_cpy]
section MMN
variable {p : Program} {l : Launch} {e : Env} {R : Room} {s : State} {m : MethodId} {args : Array Value} {below : List Frame} {meth : Method} {c : Code} {Q : State → Prop}
variable {φ : Nat → Nat} {kx bs : Nat} {D : va_G} {zs : List mm_Zt} {cc : ByteArray} {o nL len : Nat} {own : String} {ini : Bool} {σ σ' : mm_S}
theorem mm_S_push {H H1 : Heap} {locs : List Loc} (hbs : bs ≤ s.heap.size) (hS : va_S (mm_B bs) s.heap H locs) (hz : H1.size = H.size + 1) (ho : ∀ q : Nat, q < H.size → H1[q]? = H[q]?) : va_S (mm_B bs) s.heap H1 locs :=
  ⟨Nat.le_trans hS.1 (by omega), fun x h1 h2 => (ho x (Nat.lt_of_lt_of_le h1 hS.1)).trans (hS.2.1 x h1 h2), hS.2.2⟩
theorem mm_new_ok {idx : Nat} (F : mm_Fx p s m args meth c φ kx bs D o own nL ini cc) (hd : decode cc σ.1 = .ok (.new idx, len)) (h : mm_newS o len idx σ = some σ') (kk : mm_Go p l e R s m args below meth c φ kx bs D zs nL Q σ') : mm_Go p l e R s m args below meth c φ kx bs D zs nL Q σ := by
  unfold mm_newS at h
  split at h
  next pc lv st mem cb sb =>
  split at h
  · next idx' kd ci b z pl e1 =>
    split at h
    · next q hq =>
      split at h
      · next e2 =>
        obtain ⟨rfl, rfl, rfl, hcb, hsb⟩ := e2
        cases h
        intro H locs ls cells slots hR hS hl hc hs
        dsimp only at hc hs
        obtain ⟨q', g1, g2, g3, g4⟩ := mm_p4 F.2.2.2.2.1 e1
        cases g1.symm.trans hq
        obtain ⟨hx, hb, -, hown, -, hts, hctx, hph, hbs, -⟩ := F
        have hKn := hctx.1.1 ci _ hq
        have hsz := mm_ph_size hph hR
        dsimp only at hsz
        refine W.newcK hx hb hown (hts _ g2) (hts _ g3) (hts _ g4) rfl hd (by omega) (by omega) hKn.2.1 rfl fun H1 kC hkC e1 z1 o1 => ?_
        have key : mm_at φ kx D vwCl s H1 mem.length (.inr (ci, (List.range q.2.2).map (fun k => defaultValue (mm_ty ci k)))) := by
          refine ⟨q, hq, by simp, ?_⟩
          rw [hsz]
          refine (u_born (mm_ty ci) hts (mm_cls ci q hq).1 hKn hkC e1 (mm_cls ci q hq).2.1).to (fun k hk => ?_)
          simp [vp_V, hk, mm_sh_def]
        have hR1 := mm_R_push hR key z1 o1
        have := kk H1 locs ls (cells + 1) (slots + q.2.2) hR1 (mm_S_push hbs hS z1 o1) hl (by dsimp only; omega) (by dsimp only; omega)
        rw [← hsz]
        exact this
      · cases h
    · cases h
  · cases h
theorem mm_na_ok {at_ : ArrayType} (F : mm_Fx p s m args meth c φ kx bs D o own nL ini cc) (hd : decode cc σ.1 = .ok (.newarray at_, len)) (h : mm_naS at_ len σ = some σ') (kk : mm_Go p l e R s m args below meth c φ kx bs D zs nL Q σ') : mm_Go p l e R s m args below meth c φ kx bs D zs nL Q σ := by
  unfold mm_naS at h
  split at h
  · next pc lv n r mem cb sb =>
    split at h
    · next e2 =>
      obtain ⟨rfl, hty, hn, hn2, hcb, hsb⟩ := e2
      cases h
      intro H locs ls cells slots hR hS hl hc hs
      dsimp only at hc hs
      obtain ⟨hx, hb, -, hown, -, hts, hctx, hph, hbs, -⟩ := F
      have hsz := mm_ph_size hph hR
      dsimp only at hsz
      have hac : Cond.arrayClass (newarray.typeOf at_) ∈ mm_gw := by
        rcases hty with h | h | h | h | h <;> rw [h]
        · exact mm_ac_int
        · exact mm_ac_long
        · exact mm_ac_byte
        · exact mm_ac_char
        · exact mm_ac_boolean
      have hcmp : componentBytes (newarray.typeOf at_) ≤ 8 := by rcases hty with h | h | h | h | h <;> rw [h] <;> decide
      refine W.newa hx hb (hts _ hac) rfl hd rfl hn (Nat.le_trans (Nat.mul_le_mul hn2 hcmp) (Nat.le_of_ble_eq_true rfl)) (by omega) (by omega) fun cA kA comp f1 f2 f3 => ?_
      generalize hH1 : H.push ({ cls := cA, slots := Array.replicate n.toNatClampNeg (defaultValue (newarray.typeOf at_)), vm := .none } : Cell) = H1
      have z1 : H1.size = H.size + 1 := by rw [← hH1, Array.size_push]
      have g1 : H1[H.size]? = some ({ cls := cA, slots := Array.replicate n.toNatClampNeg (defaultValue (newarray.typeOf at_)), vm := .none } : Cell) := by rw [← hH1, Array.getElem?_push_size]
      have o1 : ∀ q : Nat, q < H.size → H1[q]? = H[q]? := fun q hq => by rw [← hH1, Array.getElem?_push, if_neg (Nat.ne_of_lt hq)]
      have key : mm_at φ kx D vwCl s H1 mem.length (.inl (newarray.typeOf at_, List.replicate n.toNatClampNeg (defaultValue (newarray.typeOf at_)))) := by
        have hsl : ({ cls := cA, slots := Array.replicate n.toNatClampNeg (defaultValue (newarray.typeOf at_)), vm := .none } : Cell).slots = ((List.replicate n.toNatClampNeg (defaultValue (newarray.typeOf at_))).map (mm_sh φ)).toArray := by simp [mm_sh_def]
        refine ⟨_, by rw [hsz]; exact g1, mm_wk_of hsl, (fun z => by cases z), ⟨(fun k z => by cases z), kA, f2, comp, f3⟩, fun _ => ⟨⟨⟨rfl, rfl⟩, hsl⟩, ?_⟩⟩
        · show va_RA s cA (newarray.typeOf at_)
          rcases hty with h | h | h | h | h <;> rw [h] at f1 ⊢ <;> exact f1
      have hR1 := mm_R_push hR key z1 o1
      have := kk H1 locs ls (cells + 1) (slots + n.toNatClampNeg) hR1 (mm_S_push hbs hS z1 o1) hl (by dsimp only; omega) (by dsimp only; omega)
      rw [← hsz]
      exact this
    · cases h
  · cases h
theorem mm_ao : ∀ C : String, (C = "RaftTown$Raft" ∨ C = "RaftTown$Person" ∨ C = "RaftTown$Rope" ∨ C = "RaftTown$Text" ∨ C = "RaftTown$Sheet") → Cond.arrayOver (.object C) ∈ lw_tbl := by
  intro C h
  rcases h with rfl | rfl | rfl | rfl | rfl
  · exact mm_wd_in (pl := 1055) (by decide +kernel)
  · exact mm_wd_in (pl := 1057) (by decide +kernel)
  · exact mm_wd_in (pl := 1059) (by decide +kernel)
  · exact mm_wd_in (pl := 1097) (by decide +kernel)
  · exact mm_wd_in (pl := 2052) (by decide +kernel)
theorem mm_ana_ok {idx : Nat} (F : mm_Fx p s m args meth c φ kx bs D o own nL ini cc) (hd : decode cc σ.1 = .ok (.anewarray idx, len)) (h : mm_anaS o len idx σ = some σ') (kk : mm_Go p l e R s m args below meth c φ kx bs D zs nL Q σ') : mm_Go p l e R s m args below meth c φ kx bs D zs nL Q σ := by
  unfold mm_anaS at h
  split at h
  · next pc lv n r mem cb sb =>
    split at h
    · next idx' kd ci b z pl e1 =>
      split at h
      · next q hq =>
        split at h
        · next e2 =>
          obtain ⟨rfl, rfl, rfl, hC, hn, hn2, hcb, hsb⟩ := e2
          cases h
          intro H locs ls cells slots hR hS hl hc hs
          dsimp only at hc hs
          obtain ⟨q', g1, g2, g3, g4⟩ := mm_p4 F.2.2.2.2.1 e1
          cases g1.symm.trans hq
          obtain ⟨hx, hb, -, hown, -, hts, hctx, hph, hbs, -⟩ := F
          have hsz := mm_ph_size hph hR
          dsimp only at hsz
          refine W.anew hx hb hown (hts _ g2) (va_AO.use (hctx.2.2 _ (mm_ao q.1 hC))) rfl hd rfl hn (Nat.le_trans (Nat.mul_le_mul hn2 (Nat.le_refl 4)) (Nat.le_of_ble_eq_true rfl)) (by omega) (by omega) fun cA kA comp f1 f2 f3 f4 => ?_
          generalize hH1 : H.push ({ cls := cA, slots := Array.replicate n.toNatClampNeg .null, vm := .none } : Cell) = H1
          have z1 : H1.size = H.size + 1 := by rw [← hH1, Array.size_push]
          have g1 : H1[H.size]? = some ({ cls := cA, slots := Array.replicate n.toNatClampNeg .null, vm := .none } : Cell) := by rw [← hH1, Array.getElem?_push_size]
          have o1 : ∀ q : Nat, q < H.size → H1[q]? = H[q]? := fun q hq => by rw [← hH1, Array.getElem?_push, if_neg (Nat.ne_of_lt hq)]
          have key : mm_at φ kx D vwCl s H1 mem.length (.inl (.object q.1, List.replicate n.toNatClampNeg .null)) := by
            have hsl : ({ cls := cA, slots := Array.replicate n.toNatClampNeg .null, vm := .none } : Cell).slots = ((List.replicate n.toNatClampNeg Value.null).map (mm_sh φ)).toArray := by simp [mm_sh]
            exact ⟨_, by rw [hsz]; exact g1, mm_wk_of hsl, (fun z => by cases z), ⟨(fun k z => by cases z), kA, f2, comp, f3⟩, fun _ => ⟨⟨⟨rfl, rfl⟩, hsl⟩, kA, comp, f2, f3, f4, f1⟩⟩
          have hR1 := mm_R_push hR key z1 o1
          have := kk H1 locs ls (cells + 1) (slots + n.toNatClampNeg) hR1 (mm_S_push hbs hS z1 o1) hl (by dsimp only; omega) (by dsimp only; omega)
          rw [← hsz]
          exact this
        · cases h
      · cases h
    · cases h
  · cases h
theorem mm_cats (φ : Nat → Nat) (r : List Value) : ((r.map (mm_sh φ)).map fun v => v.category) = r.map fun v => v.category := by simp [mm_sh_cat]
theorem mm_spI_ok {idx : Nat} (F : mm_Fx p s m args meth c φ kx bs D o own nL ini cc) (hRm : 1 ≤ R.frames ∧ 64 ≤ R.locals) (hd : decode cc σ.1 = .ok (.invokespecial idx, len)) (h : mm_spI o len idx σ = some σ') (kk : mm_Go p l e R s m args below meth c φ kx bs D zs nL Q σ') : mm_Go p l e R s m args below meth c φ kx bs D zs nL Q σ := by
  unfold mm_spI at h
  split at h
  · next pc lv a r mem cb sb =>
    split at h
    · next idx' kd ci b z pl e1 =>
      split at h
      · next e2 =>
        obtain ⟨rfl, rfl, rfl, hsum⟩ := e2
        cases h
        intro H locs ls cells slots hR hS hl hc hs
        obtain ⟨hx, hb, hml, hown, ho, hts, -⟩ := F
        refine W.objInit (a := φ a) (rest := r.map (mm_sh φ)) hx hb hown (hts _ (mm_p8 ho e1)) (hts _ mm_obj_i) (hts _ mm_obj_c) rfl (hl.1.trans hml.symm) rfl hd hRm.1 ?_ (kk H locs ls cells slots hR hS hl hc hs)
        rw [mm_cats]
        show 2 * 0 + _ + 12 ≤ _
        omega
      · cases h
    · cases h
  · cases h
theorem mm_spS_ok {idx : Nat} (F : mm_Fx p s m args meth c φ kx bs D o own nL ini cc) (hRm : 1 ≤ R.frames ∧ 64 ≤ R.locals) (hd : decode cc σ.1 = .ok (.invokestatic idx, len)) (h : mm_spS o kx len idx σ = some σ') (kk : mm_Go p l e R s m args below meth c φ kx bs D zs nL Q σ') : mm_Go p l e R s m args below meth c φ kx bs D zs nL Q σ := by
  unfold mm_spS at h
  split at h
  next pc lv st mem cb sb =>
  split at h
  · next idx' kd ci b z pl e1 =>
    split at h
    · next e2 =>
      obtain ⟨rfl, rfl⟩ := e2
      split at h
      · next y x r =>
        split at h
        · next hsum =>
          cases h
          intro H locs ls cells slots hR hS hl hc hs
          obtain ⟨hx, hb, hml, hown, ho, hts, -⟩ := F
          dsimp only at hc hs
          exact va_mmax hx hb (hml.trans hl.1.symm) hown (hts _ (mm_p13 ho e1)) (hts _ mm_max_s) (hts _ mm_math_y) (hts _ mm_max_c) hRm.1 (by rw [mm_cats]; omega) (by omega) (by omega) hd (kk H locs ls cells slots hR hS hl hc hs)
        · cases h
      · next y x r =>
        split at h
        · next hsum =>
          cases h
          intro H locs ls cells slots hR hS hl hc hs
          obtain ⟨hx, hb, hml, hown, ho, hts, -⟩ := F
          dsimp only at hc hs
          exact va_mmin hx hb (hml.trans hl.1.symm) hown (hts _ (mm_p14 ho e1)) (hts _ mm_min_s) (hts _ mm_math_y) (hts _ mm_min_c) hRm.1 (by rw [mm_cats]; omega) (by omega) (by omega) hd (kk H locs ls cells slots hR hS hl hc hs)
        · cases h
      · next n dp d sp a r =>
        split at h
        · next ty xs ty' ys i1 i2 =>
          split at h
          · next e3 =>
            obtain ⟨hsum, hka, hkd, rfl, hrk, h1, h2, h3, h4, h5, hall⟩ := e3
            cases h
            intro H locs ls cells slots hR hS hl hc hs
            obtain ⟨hx, hb, hml, hown, ho, hts, -, hph, -⟩ := F
            obtain ⟨cs, k1, k2, k3, k4, k5⟩ := mm_arr hR i1
            obtain ⟨cd, w1, w2, w3, w4, w5⟩ := mm_arr hR i2
            have nn : ∀ z : Int32, ¬ z < 0 → z.toInt = (z.toNatClampNeg : Int) := by
              intro z hz
              have hz0 : (0 : Int) ≤ z.toInt := by
                have := Int32.not_lt.mp hz
                simpa using Int32.le_iff_toInt_le.mp this
              show z.toInt = ((z.toInt.toNat : Nat) : Int)
              omega
            replace k2 := (k5 hka).1.2
            replace w2 := (w5 hkd).1.2
            have e_cs := mm_cell_eta k2 (k5 hka).1.1
            have e_cd := mm_cell_eta w2 (w5 hkd).1.1
            obtain ⟨v1, ks, hks, cm0, hkk0⟩ := k4
            obtain ⟨v2, kd', hkd', cm1, hkk1⟩ := w4
            intro T hT X
            obtain ⟨vm', X', step⟩ := X.arraycopy hx hown (hts _ (mm_p9 ho e1)) (hts _ mm_cpy_n) (hts _ mm_cpy_s) (hts _ mm_cpy_y) (src := φ a) (dst := φ d) (cs := cs) (cd := cd) (srcPos := sp) (destPos := dp) (n := n) (by rw [hT]; exact k1) (by rw [hT]; exact w1) v1 v2 k3 w3 hks hkd' hkk0 hkk1 (by simp [hrk]) h1 h2 h3
              (by rw [nn sp h1, nn n h3, mm_arr_sz k2]; omega) (by rw [nn dp h2, nn n h3, mm_arr_sz w2]; omega)
              (fun vm₁ _ i hi => by
                have hlt : sp.toNatClampNeg + i < xs.length := by omega
                have e : cs.slots.getD (sp.toNatClampNeg + i) .null = mm_sh φ xs[sp.toNatClampNeg + i] := by
                  rw [k2]; simp [hlt]
                have hf := List.all_eq_true.mp hall xs[sp.toNatClampNeg + i] (List.getElem_mem hlt)
                rw [e]
                refine ⟨mm_fit hf, ?_⟩
                generalize xs[sp.toNatClampNeg + i] = v at hf
                cases v with
                | ref x => cases ty' <;> first | (simp [refKind] at hrk; done) | cases hf
                | _ => trivial)
              (g := F0 m pc ls (.int n :: .int dp :: .ref (φ d) :: .int sp :: .ref (φ a) :: r.map (mm_sh φ))) rfl (hl.1.trans hml.symm) (rest := r.map (mm_sh φ)) rfl (by rw [hb]; exact hd) hRm.1 (by rw [mm_cats]; show 2 * 0 + _ + (nativeFrameWords "java/lang/System" "arraycopy" 5 + 11) ≤ _; rw [show nativeFrameWords "java/lang/System" "arraycopy" 5 = 7 by decide +kernel]; omega)
            have e2 : copied cs cd sp dp n = arrV cd.cls ys.length (va_cpy (fun j => (xs.map (mm_sh φ)).getD j .null) (fun j => (ys.map (mm_sh φ)).getD j .null) sp.toNatClampNeg dp.toNatClampNeg n.toNatClampNeg) := by
              rw [e_cs, e_cd]
              exact va_copied (fun z => z) cs.cls cd.cls _ _ h4
            rw [e2] at X' step
            have hlt : φ d < H.size := (Array.getElem?_eq_some_iff.mp w1).1
            generalize hC : arrV cd.cls ys.length (va_cpy (fun j => (xs.map (mm_sh φ)).getD j .null) (fun j => (ys.map (mm_sh φ)).getD j .null) sp.toNatClampNeg dp.toNatClampNeg n.toNatClampNeg) = C at X' step
            have hheap : ((T.setVm vm').setCell (φ d) C).heap = H.setIfInBounds (φ d) C := by rw [← hT]; rfl
            have oq : ∀ q : Nat, q ≠ φ d → (H.setIfInBounds (φ d) C)[q]? = H[q]? := fun q hq => by simp [Array.getElem?_setIfInBounds, Ne.symm hq]
            have hCs : C.slots = ((mm_cpy xs ys sp.toNatClampNeg dp.toNatClampNeg n.toNatClampNeg).map (mm_sh φ)).toArray := by
              rw [← hC]
              unfold arrV mm_cpy
              apply Array.ext
              · simp
              · intro i q1 q2
                simp at q1
                simp only [Array.getElem_ofFn, List.getElem_toArray, List.getElem_map, List.getElem_range, va_cpy]
                split
                · next hh =>
                  have : sp.toNatClampNeg + (i - dp.toNatClampNeg) < xs.length := by omega
                  simp [this]
                · simp [q1]
            have hR1 : mm_R φ kx bs D vwCl zs s (mem.set d (.inl (ty', mm_cpy xs ys sp.toNatClampNeg dp.toNatClampNeg n.toNatClampNeg))) (H.setIfInBounds (φ d) C) := by
              refine mm_R_set hph hR hkd ⟨C, by simp [Array.getElem?_setIfInBounds, hlt], mm_wk_of hCs, ?_, ?_, fun _ => ⟨⟨?_, hCs⟩, ?_⟩⟩ (by simp) oq
              · rw [← hC]; exact fun z => by cases z
              · rw [← hC]; exact ⟨(fun k z => by cases z), kd', hkd', cm1, hkk1⟩
              · rw [← hC]; exact ⟨rfl, rfl⟩
              · rw [← hC]; exact (w5 hkd).2
            obtain ⟨t, a1, b1⟩ := kk _ (locs ++ (cs.stretch sp.toNatClampNeg n.toNatClampNeg).zipIdx.map fun q => ⟨φ d, dp.toNatClampNeg + q.2⟩) ls cells slots hR1 ⟨by simp; exact hS.1, fun q g1 g2 => by
                rw [oq q (fun e => g2 (by rw [e]; exact mm_ph_ge hph hkd))]
                exact hS.2.1 q g1 g2, fun q hq => by
                rcases List.mem_append.mp hq with h | h
                · exact hS.2.2 q h
                · obtain ⟨z, -, hz⟩ := List.mem_map.mp h
                  rw [← hz]
                  exact mm_ph_ge hph hkd⟩ hl hc hs _ hheap X'
            exact ⟨t, step t a1, b1⟩
          · cases h
        · cases h
      · cases h
    · cases h
  · cases h
end MMN
end
section
/-! ===== the small machine's run: straight steps, calls, the state at a return ===== -/
def mm_stp (o nL kx : Nat) (ini : Bool) (zs : List mm_Zt) (ins : Instr) (len : Nat) (σ : mm_S) : Option mm_S := match mm_pure nL ins len σ.1 σ.2.1 σ.2.2.1 with
  | some f => some (f.1, f.2.1, f.2.2, σ.2.2.2)
  | none => mm_mem o kx ini zs ins len σ
section MMR
variable {p : Program} {l : Launch} {e : Env} {R : Room} {s : State} {m : MethodId} {args : Array Value} {below : List Frame} {meth : Method} {c : Code} {Q : State → Prop}
variable {φ : Nat → Nat} {kx bs : Nat} {D : va_G} {zs : List mm_Zt} {cc : ByteArray} {o nL len : Nat} {own : String} {ini : Bool} {σ σ' : mm_S}
theorem mm_mem_ok {ins : Instr} (F : mm_Fx p s m args meth c φ kx bs D o own nL ini cc) (hRm : 1 ≤ R.frames ∧ 64 ≤ R.locals) (hd : decode cc σ.1 = .ok (ins, len)) (h : mm_mem o kx ini zs ins len σ = some σ') (kk : mm_Go p l e R s m args below meth c φ kx bs D zs nL Q σ') : mm_Go p l e R s m args below meth c φ kx bs D zs nL Q σ := by
  cases ins with
  | getfield idx => exact mm_getS_ok F hd h kk
  | putfield idx => exact mm_putS_ok F hd h kk
  | iaload => exact mm_iald_ok F hd h kk
  | laload => exact mm_lald_ok F hd h kk
  | caload => exact mm_cald_ok F hd h kk
  | baload => exact mm_bald_ok F hd h kk
  | aaload => exact mm_aald_ok F hd h kk
  | iastore => exact mm_iast_ok F hd h kk
  | castore => exact mm_cast_ok F hd h kk
  | bastore => exact mm_bast_ok F hd h kk
  | lastore => exact mm_last_ok F hd h kk
  | aastore => exact mm_aast_ok F hd h kk
  | arraylength => exact mm_alen_ok F hd h kk
  | ldc idx => exact mm_ldc_ok F hd h kk
  | ldc_w idx => exact mm_ldcw_ok F hd h kk
  | ldc2_w idx => exact mm_ldc2_ok F hd h kk
  | getstatic idx => exact mm_getst_ok F hd h kk
  | new idx => exact mm_new_ok F hd h kk
  | newarray at_ => exact mm_na_ok F hd h kk
  | anewarray idx => exact mm_ana_ok F hd h kk
  | invokespecial idx => exact mm_spI_ok F hRm hd h kk
  | invokestatic idx => exact mm_spS_ok F hRm hd h kk
  | _ => cases h
theorem mm_stp_ok {ins : Instr} (F : mm_Fx p s m args meth c φ kx bs D o own nL ini cc) (hRm : 1 ≤ R.frames ∧ 64 ≤ R.locals) (hd : decode cc σ.1 = .ok (ins, len)) (h : mm_stp o nL kx ini zs ins len σ = some σ') (kk : mm_Go p l e R s m args below meth c φ kx bs D zs nL Q σ') : mm_Go p l e R s m args below meth c φ kx bs D zs nL Q σ := by
  unfold mm_stp at h
  split at h
  · next f hf =>
    cases h
    intro H locs ls cells slots hR hS hl hc hs
    exact mm_pure_ok φ F.1 F.2.1 hd hf hl (fun ls' hl' => kk H locs ls' cells slots hR hS hl' hc hs)
  · exact mm_mem_ok F hRm hd h kk
end MMR
/-- a call's method, its arguments, what is left of the stack -/
def mm_cal (o : Nat) (ins : Instr) (len : Nat) (st : List Value) (mem : List mm_C) : Option (Nat × List Value × List Value) := match ins with
  | .invokevirtual idx => match mm_look o idx with
    | some (idx', kd, y, b, z, pl) => match mm_mths[y]? with
      | some t => match st.drop t.2.2.2.2.2.1 with
        | .ref a :: r => match mem[a]? with
          | some (.inr (ci, fs)) => if len = 3 ∧ idx' = idx ∧ (kd = 2 ∨ kd = 3) ∧ t.2.2.2.2.2.2.1 = 1 ∧ ci = t.1 ∧ (r.map fun v => v.category).sum ≤ 8 then some (y, .ref a :: (st.take t.2.2.2.2.2.1).reverse, r) else none
          | _ => none
        | _ => none
      | none => none
    | none => none
  | .invokestatic idx => match mm_look o idx with
    | some (idx', kd, y, b, z, pl) => match mm_mths[y]? with
      | some t => if len = 3 ∧ idx' = idx ∧ (kd = 2 ∨ kd = 3) ∧ t.2.2.2.2.2.2.1 = 0 ∧ t.2.2.2.2.2.1 ≤ st.length ∧ ((st.drop t.2.2.2.2.2.1).map fun v => v.category).sum ≤ 8 then some (y, (st.take t.2.2.2.2.2.1).reverse, st.drop t.2.2.2.2.2.1) else none
      | none => none
    | none => none
  | .invokespecial idx => match mm_look o idx with
    | some (idx', kd, y, b, z, pl) => match mm_mths[y]? with
      | some t => match st.drop t.2.2.2.2.2.1 with
        | .ref a :: r => if len = 3 ∧ idx' = idx ∧ (kd = 2 ∨ kd = 3) ∧ t.2.2.2.2.2.2.1 = 2 ∧ t.2.2.2.2.1 = none ∧ (r.map fun v => v.category).sum ≤ 8 then some (y, .ref a :: (st.take t.2.2.2.2.2.1).reverse, r) else none
        | _ => none
      | none => none
    | none => none
  | _ => none
abbrev mm_Fi : Type := Nat × ByteArray × Nat × Bool
def mm_fi (t : mm_Mt) : mm_Fi := (t.1, t.2.2.1, t.2.2.2.1, decide (t.2.2.2.2.2.2.1 = 2))
def mm_isR : Instr → Bool
  | .ireturn => true
  | .areturn => true
  | .lreturn => true
  | .return_ => true
  | _ => false
/-- what a method hands back -/
def mm_ret (t : mm_Mt) (τ : mm_S) : Option (Option Value) := match decode t.2.2.1 τ.1 with
  | .ok (.ireturn, 1) => match t.2.2.2.2.1, τ.2.2.1 with
    | some ty, [.int v] => if narrow ty (.int v) = .int v then some (some (.int v)) else none
    | _, _ => none
  | .ok (.areturn, 1) => match t.2.2.2.2.1, τ.2.2.1 with
    | some (.object _), [.ref a] => some (some (.ref a))
    | _, _ => none
  | .ok (.lreturn, 1) => match t.2.2.2.2.1, τ.2.2.1 with
    | some .long, [.long v] => some (some (.long v))
    | _, _ => none
  | .ok (.return_, 1) => match t.2.2.2.2.1, τ.2.2.1 with
    | none, [] => some none
    | _, _ => none
  | _ => none
def mm_ent (y : Nat) (As : List Value) (mem : List mm_C) : mm_S := (0, lv_args 0 As, [], mem, (mm_bud y).1, (mm_bud y).2)
/-- fuel, depth of calls, the method, the state: the state at its return -/
def mm_run (kx : Nat) (zs : List mm_Zt) : Nat → Nat → mm_Fi → mm_S → Option mm_S
  | 0, _, _, _ => none
  | n + 1, d, fi, σ => match decode fi.2.1 σ.1 with
    | .ok (ins, len) => if mm_isR ins then some σ else match mm_stp fi.1 fi.2.2.1 kx fi.2.2.2 zs ins len σ with
      | some σ' => mm_run kx zs n d fi σ'
      | none => match d with
        | 0 => none
        | d' + 1 => match mm_cal fi.1 ins len σ.2.2.1 σ.2.2.2.1 with
          | none => none
          | some (y, As, rest) => match mm_mths[y]? with
            | none => none
            | some t => if (lg_sl As).length ≤ t.2.2.2.1 ∧ (mm_bud y).1 ≤ σ.2.2.2.2.1 ∧ (mm_bud y).2 ≤ σ.2.2.2.2.2 then match mm_run kx zs n d' (mm_fi t) (mm_ent y As σ.2.2.2.1) with
              | none => none
              | some τ => match mm_ret t τ with
                | none => none
                | some v => mm_run kx zs n (d' + 1) fi (σ.1 + 3, σ.2.1, v.toList ++ rest, τ.2.2.2.1, σ.2.2.2.2.1 - (mm_bud y).1, σ.2.2.2.2.2 - (mm_bud y).2)
              else none
    | .error _ => none
end
section
/-! ===== the run is the machine's ===== -/
theorem mm_good {L : List Cond} (h : ∀ w ∈ L, w ∈ mm_gw) : GoodIn mm_gw L := fun w hw => ⟨h w hw, good_of_word (List.mem_filter.mp (h w hw)).2⟩
theorem mm_args_sl (φ : Nat → Nat) (As : List Value) : ∀ i, mm_sl φ (lv_args i As) = lv_args i (As.map (mm_sh φ)) := by
  induction As with
  | nil => intro i; rfl
  | cons v vs ih =>
    intro i
    have := ih (if v.category = 2 then i + 2 else i + 1)
    simp only [mm_sl] at this
    simp only [lv_args, mm_sl, List.map_cons, mm_sh_cat, this]
theorem mm_sl_len (φ : Nat → Nat) (As : List Value) : (lg_sl (As.map (mm_sh φ))).length = (lg_sl As).length := by
  induction As with
  | nil => rfl
  | cons v vs ih =>
    simp only [lg_sl, List.map_cons, List.flatMap_cons, List.length_append, mm_sh_cat] at ih ⊢
    rw [ih]
    split <;> rfl
theorem mm_mth {y : Nat} {t : mm_Mt} (h : mm_mths[y]? = some t) : plainName t.2.1.cls = true ∧ mm_cns[t.1]? = some t.2.1.cls ∧ Cond.code t.2.1 t.2.2.1 t.2.2.2.1 t.2.2.2.2.1 ∈ mm_gw ∧ Cond.initialized t.2.1.cls ∈ mm_gw ∧ (t.2.1.cls ≠ "java/lang/invoke/MethodHandle" ∧ t.2.1.cls ≠ "java/lang/invoke/VarHandle" ∧ (parseMethodDescriptor t.2.1.desc).map (fun d => d.parameters.length) = some t.2.2.2.2.2.1) ∧ t.2.2.2.1 ≤ 45 := by
  have hm := List.mem_of_getElem? h
  have h1 := mm_mths_ok t hm
  have h2 := mm_cws t hm
  unfold mm_mchk at h1
  simp only [Bool.and_eq_true, decide_eq_true_eq] at h1
  obtain ⟨⟨⟨⟨⟨⟨⟨g1, g2⟩, g3⟩, g4⟩, g5⟩, g6⟩, g7⟩, -⟩ := h1
  exact ⟨g1, g2, List.mem_filter.mpr ⟨mm_tab_in (List.mem_of_getElem? h2), rfl⟩, mm_wg_in g3, ⟨g4, g5, g6⟩, g7⟩
theorem mm_mth_k {y : Nat} {t : mm_Mt} (h : mm_mths[y]? = some t) : (match t.2.2.2.2.2.2.1 with
    | 0 => mm_wg (t.2.2.2.2.2.2.2.getD 1 0) (.static t.2.1)
    | 1 => mm_wg (t.2.2.2.2.2.2.2.getD 1 0) (.instanceMethod t.2.1) && mm_wg (t.2.2.2.2.2.2.2.getD 2 0) (.selects t.2.1.cls t.2.1 t.2.1)
    | _ => mm_wg (t.2.2.2.2.2.2.2.getD 1 0) (.instanceMethod t.2.1) && decide (t.2.1.name = "<init>")) = true := by
  have h1 := mm_mths_ok t (List.mem_of_getElem? h)
  unfold mm_mchk at h1
  rw [Bool.and_eq_true] at h1
  exact h1.2
theorem mm_mth0 {y : Nat} {t : mm_Mt} (h : mm_mths[y]? = some t) (hk : t.2.2.2.2.2.2.1 = 0) : Cond.static t.2.1 ∈ mm_gw := by
  have h1 := mm_mth_k h
  rw [hk] at h1
  exact mm_wg_in h1
theorem mm_mth1 {y : Nat} {t : mm_Mt} (h : mm_mths[y]? = some t) (hk : t.2.2.2.2.2.2.1 = 1) : Cond.instanceMethod t.2.1 ∈ mm_gw ∧ Cond.selects t.2.1.cls t.2.1 t.2.1 ∈ mm_gw := by
  have h1 := mm_mth_k h
  rw [hk] at h1
  replace h1 : (mm_wg (t.2.2.2.2.2.2.2.getD 1 0) (.instanceMethod t.2.1) && mm_wg (t.2.2.2.2.2.2.2.getD 2 0) (.selects t.2.1.cls t.2.1 t.2.1)) = true := h1
  rw [Bool.and_eq_true] at h1
  exact ⟨mm_wg_in h1.1, mm_wg_in h1.2⟩
theorem mm_mth2 {y : Nat} {t : mm_Mt} (h : mm_mths[y]? = some t) (hk : t.2.2.2.2.2.2.1 = 2) : Cond.instanceMethod t.2.1 ∈ mm_gw ∧ t.2.1.name = "<init>" := by
  have h1 := mm_mth_k h
  rw [hk] at h1
  replace h1 : (mm_wg (t.2.2.2.2.2.2.2.getD 1 0) (.instanceMethod t.2.1) && decide (t.2.1.name = "<init>")) = true := h1
  rw [Bool.and_eq_true] at h1
  exact ⟨mm_wg_in h1.1, of_decide_eq_true h1.2⟩
def mm_Pc (φ : Nat → Nat) (kx bs : Nat) (D : va_G) (zs : List mm_Zt) (As : List Value) (mem : List mm_C) : Array Value → State → Prop := fun a U => a = (As.map (mm_sh φ)).toArray ∧ mm_R φ kx bs D vwCl zs U mem U.heap ∧ mm_Ctx D U ∧ bs ≤ U.heap.size
def mm_Qc (φ : Nat → Nat) (kx bs : Nat) (D : va_G) (zs : List mm_Zt) (v : Option Value) (mem : List mm_C) : Array Value → State → Outcome → State → Prop := fun _ st oc t => oc = .returned (v.map (mm_sh φ)) ∧ mm_R φ kx bs D vwCl zs t mem t.heap ∧ va_F (mm_B bs) st t
theorem mm_Ctx_calling {D : va_G} {U : State} (g : JFrame) (mk : MethodId) (a : Array Value) (h3 : mm_Ctx D U) : mm_Ctx D (U.calling g mk a) := by
  refine ⟨va_K.moved (u := U) (U := U.calling g mk a) (Vm.Alike.refl U.vm) h3.1, fun w hw hn => ?_, fun C hC => va_AO.moved (u := U) (U := U.calling g mk a) (Vm.Alike.refl U.vm) (h3.2.2 C hC)⟩
  have h5 := h3.2.1 w hw hn
  have hon : w.onTables = true := by
    unfold mm_nest at hn
    split at hn
    · rfl
    · rfl
    · cases hn
  exact va_Nw.same (u := U) (U := U.calling g mk a) hon rfl h5
theorem mm_Pc_blind {φ : Nat → Nat} {kx bs : Nat} {D : va_G} {zs : List mm_Zt} {As : List Value} {mem : List mm_C} : FrameBlind (mm_Pc φ kx bs D zs As mem) := by
  intro a U g mk q
  obtain ⟨h1, h2, h3, h4⟩ := q
  exact ⟨h1, mm_R_moved (u := U) (U := U.calling g mk a) (Vm.Alike.refl U.vm) h2, mm_Ctx_calling g mk a h3, h4⟩
def mm_rm (d y : Nat) : Room := { frames := d + 1, cells := (mm_bud y).1, slots := (mm_bud y).2, locals := 64 * (d + 1) }
section MMX
variable {p : Program} {l : Launch} {e : Env} {R : Room} {s : State} {m : MethodId} {args : Array Value} {below : List Frame} {meth : Method} {c : Code} {Q : State → Prop}
variable {φ : Nat → Nat} {kx bs : Nat} {D : va_G} {zs : List mm_Zt} {cc : ByteArray} {o nL len : Nat} {own : String} {ini : Bool}
theorem mm_after {H : Heap} {locs : List Loc} {cells slots mc ms pc : Nat} {ls : Array Slot} {st0 rest : List Value} {a : Array Value} {v : Option Value} {mem : List mm_C} (hr : va_Run p l e R s m args below meth c H locs cells slots mc ms (F0 m pc ls st0) rest (mm_Qc φ kx bs D zs v mem a) (mm_B bs)) (hS : va_S (mm_B bs) s.heap H locs)
    (kk : ∀ (H1 : Heap) (locs1 : List Loc), mm_R φ kx bs D vwCl zs s mem H1 → va_S (mm_B bs) s.heap H1 locs1 → W p l e R s m args below meth c H1 locs1 (cells + mc) (slots + ms) Q (F0 m (pc + 3) ls ((v.map (mm_sh φ)).toList ++ rest))) : W p l e R s m args below meth c H locs cells slots Q (F0 m pc ls st0) := by
  intro T hT X
  obtain ⟨v', st₀, t, T', L, h0, X', hL, e1, e2, ⟨hv, hRt, hz, hk⟩, st⟩ := hr T hT X
  cases hv
  rw [h0] at hz hk
  obtain ⟨t2, a1, b1⟩ := kk T'.heap (locs ++ L) (by rw [e1]; exact mm_R_moved (by rw [← e2]; exact X'.warmed.alike.symm) hRt)
    ⟨Nat.le_trans hS.1 (by rw [e1]; exact hz), fun q h1 h2 => by rw [e1, hk q (Nat.lt_of_lt_of_le h1 hS.1) h2]; exact hS.2.1 q h1 h2, fun q hq => by
      rcases List.mem_append.mp hq with h | h
      · exact hS.2.2 q h
      · exact hL q h⟩ T' rfl X'
  exact ⟨t2, st t2 a1, b1⟩
theorem mm_call_ok {d y : Nat} {t : mm_Mt} {ins : Instr} {pc cb sb : Nat} {lv : List (Nat × Value)} {st As rest : List Value} {mem mem' : List mm_C} {v : Option Value} (F : mm_Fx p s m args meth c φ kx bs D o own nL ini cc) (hRm : d + 2 ≤ R.frames ∧ 64 * (d + 2) ≤ R.locals) (hd : decode cc pc = .ok (ins, len)) (hcal : mm_cal o ins len st mem = some (y, As, rest)) (ht : mm_mths[y]? = some t) (hcb : (mm_bud y).1 ≤ cb) (hsb : (mm_bud y).2 ≤ sb)
    (hM : Met l t.2.1 (Cond.code t.2.1 t.2.2.1 t.2.2.2.1 t.2.2.2.2.1 :: mm_gw) (mm_rm d y) (mm_Pc φ kx bs D zs As mem) (mm_Qc φ kx bs D zs v mem') (mm_bud y).1 (mm_bud y).2 (mm_B bs))
    (kk : mm_Go p l e R s m args below meth c φ kx bs D zs nL Q (pc + 3, lv, v.toList ++ rest, mem', cb - (mm_bud y).1, sb - (mm_bud y).2)) : mm_Go p l e R s m args below meth c φ kx bs D zs nL Q (pc, lv, st, mem, cb, sb) := by
  intro H locs ls cells slots hR hS hl hc hs
  dsimp only at hR hl hc hs
  obtain ⟨hx, hb, hml, hown, ho, hts, hctx, hph, hbs, -⟩ := id F
  obtain ⟨-, hcn, hcode, hini, hdesc, hmx⟩ := mm_mth ht
  have hpre : ∀ U : State, U.heap = H → s.WarmedH U.vm → mm_Pc φ kx bs D zs As mem (As.map (mm_sh φ)).toArray U := fun U hU hW => ⟨rfl, by rw [hU]; exact mm_R_moved hW.alike hR, mm_Ctx_warm hW hctx, by rw [hU]; exact Nat.le_trans hbs hS.1⟩
  have hws : ∀ w ∈ (Cond.code t.2.1 t.2.2.1 t.2.2.2.1 t.2.2.2.2.1 :: mm_gw), w ∈ mm_gw := fun w hw => by
    rcases List.mem_cons.mp hw with rfl | h
    · exact hcode
    · exact h
  have hroom : (mm_rm d y).frames + 1 ≤ R.frames ∧ 8 + (t.2.2.2.1 + 11) + (mm_rm d y).locals ≤ R.locals := ⟨hRm.1, by show 8 + (t.2.2.2.1 + 11) + 64 * (d + 1) ≤ R.locals; omega⟩
  have hgo : ∀ (H1 : Heap) (locs1 : List Loc), mm_R φ kx bs D vwCl zs s mem' H1 → va_S (mm_B bs) s.heap H1 locs1 → W p l e R s m args below meth c H1 locs1 (cells + (mm_bud y).1) (slots + (mm_bud y).2) Q (F0 m (pc + 3) ls ((v.map (mm_sh φ)).toList ++ rest.map (mm_sh φ))) := by
    intro H1 locs1 hR1 hS1
    have := kk H1 locs1 ls (cells + (mm_bud y).1) (slots + (mm_bud y).2) hR1 hS1 hl (by dsimp only; omega) (by dsimp only; omega)
    dsimp only at this
    rw [List.map_append] at this
    cases v with
    | none => exact this
    | some v => exact this
  unfold mm_cal at hcal
  split at hcal
  · next idx =>
    split at hcal
    · next idx' kd y' b z pl e1 =>
      split at hcal
      · next t' ht' =>
        split at hcal
        · next a r hst =>
          split at hcal
          · next ci fs hci =>
            split at hcal
            · next e2 =>
              obtain ⟨rfl, rfl, hkd, hk1, rfl, hsum⟩ := e2
              cases hcal
              cases ht'.symm.trans ht
              obtain ⟨k1, k2⟩ := mm_mth1 ht hk1
              have hlen : ((st.take t.2.2.2.2.2.1).reverse.map (mm_sh φ)).length = t.2.2.2.2.2.1 := by
                have h1 : t.2.2.2.2.2.1 < st.length := by
                  have := congrArg List.length hst
                  simp at this
                  omega
                simp
                omega
              have hstk : (F0 m pc ls (st.map (mm_sh φ))).stack = ((st.take t.2.2.2.2.2.1).reverse.map (mm_sh φ)).reverse ++ .ref (φ a) :: rest.map (mm_sh φ) := by
                show st.map (mm_sh φ) = _
                conv => lhs; rw [← List.take_append_drop t.2.2.2.2.2.1 st, hst]
                simp [mm_sh]
              have hsum' : 2 * (F0 m pc ls (st.map (mm_sh φ))).monitorRoom + ((rest.map (mm_sh φ)).map fun v => v.category).sum ≤ 8 := by
                rw [mm_cats]
                show 2 * 0 + _ ≤ 8
                omega
              obtain ⟨q', u1, u2, cellV, w1, w2, w3, -⟩ := hR.2.2.1 a _ hci
              have hq1 : q'.1 = t.2.1.cls := by
                have hlt : t.1 < 13 := (List.getElem?_eq_some_iff.mp u1).1
                have : ∀ k, k < 13 → (vwCl[k]?).map (fun r => r.1) = mm_cns[k]? := by decide +kernel
                have h2 := this t.1 hlt
                rw [show vwCl[t.1]? = some q' from u1, hcn] at h2
                exact Option.some.inj h2
              have hrecv : ∃ cellB : Cell, H[φ a]? = some cellB ∧ cellB.vm.isStatics = false ∧ s.vm.findClass t.2.1.cls = some cellB.cls := ⟨cellV, w1, by rw [w3]; rfl, by rw [w2, ← hq1]; exact (hctx.1.1 t.1 q' u1).2.1⟩
              have hpv : PreV s H t.2.1.cls (φ a) (mm_Pc φ kx bs D zs (.ref a :: (st.take t.2.2.2.2.2.1).reverse) mem) ((st.take t.2.2.2.2.2.1).reverse.map (mm_sh φ)) := ⟨mm_Pc_blind, hrecv, hpre⟩
              rcases hkd with rfl | rfl
              · obtain ⟨t2, v1, v2⟩ := mm_p2 ho e1
                cases v1.symm.trans ht
                have hG : GoodIn mm_gw (wsV own idx' t.2.1.cls t.2.1 (Cond.code t.2.1 t.2.2.1 t.2.2.2.1 t.2.2.2.2.1 :: mm_gw)) := mm_good (fun w hw => by
                  unfold wsV at hw
                  rcases List.mem_append.mp hw with h | h
                  · simp only [List.mem_cons, List.not_mem_nil, or_false] at h
                    rcases h with rfl | rfl | rfl | rfl
                    · exact v2
                    · exact k1
                    · exact k2
                    · exact hini
                  · exact hws w h)
                exact mm_after (va_runV (rest := rest.map (mm_sh φ)) ⟨hx, hb, hml, hown, hts⟩ hM (cwV t.2.2.2.2.2.1 hts hG rfl rfl rfl ⟨rfl, hdesc⟩ hroom) hpv rfl hlen hl.1 hstk hsum' hd ⟨by omega, by omega⟩) hS hgo
              · obtain ⟨t2, v1, v2⟩ := mm_p3 ho e1
                cases v1.symm.trans ht
                exact mm_after (va_runVN (rest := rest.map (mm_sh φ)) ⟨hx, hb, hml, hown, hts⟩ hM ⟨va_cnB t.2.2.2.2.2.1 hts (mm_good hws) rfl rfl rfl (hctx.2.1 _ v2 rfl) (hts _ hini) hdesc hroom, hts _ k1, hts _ k2⟩ hpv rfl hlen hl.1 hstk hsum' hd ⟨by omega, by omega⟩) hS hgo
            · cases hcal
          · cases hcal
        · cases hcal
      · cases hcal
    · cases hcal
  · next idx =>
    split at hcal
    · next idx' kd y' b z pl e1 =>
      split at hcal
      · next t' ht' =>
        split at hcal
        · next e2 =>
          obtain ⟨rfl, rfl, hkd, hk1, hlen0, hsum⟩ := e2
          cases hcal
          cases ht'.symm.trans ht
          have k1 := mm_mth0 ht hk1
          have hlen : ((st.take t.2.2.2.2.2.1).reverse.map (mm_sh φ)).length = t.2.2.2.2.2.1 := by
            simp
            omega
          have hstk : (F0 m pc ls (st.map (mm_sh φ))).stack = ((st.take t.2.2.2.2.2.1).reverse.map (mm_sh φ)).reverse ++ (st.drop t.2.2.2.2.2.1).map (mm_sh φ) := by
            show st.map (mm_sh φ) = _
            rw [← List.map_reverse, List.reverse_reverse, ← List.map_append, List.take_append_drop]
          have hsum' : 2 * (F0 m pc ls (st.map (mm_sh φ))).monitorRoom + (((st.drop t.2.2.2.2.2.1).map (mm_sh φ)).map fun v => v.category).sum ≤ 8 := by
            rw [mm_cats]
            show 2 * 0 + _ ≤ 8
            omega
          have hpv : PreS s H (mm_Pc φ kx bs D zs (st.take t.2.2.2.2.2.1).reverse mem) ((st.take t.2.2.2.2.2.1).reverse.map (mm_sh φ)) := ⟨mm_Pc_blind, hpre⟩
          rcases hkd with rfl | rfl
          · obtain ⟨t2, v1, v2⟩ := mm_p2 ho e1
            cases v1.symm.trans ht
            have hG : GoodIn mm_gw (va_wsS own idx' t.2.1 (Cond.code t.2.1 t.2.2.1 t.2.2.2.1 t.2.2.2.2.1 :: mm_gw)) := mm_good (fun w hw => by
              unfold va_wsS at hw
              rcases List.mem_append.mp hw with h | h
              · simp only [List.mem_cons, List.not_mem_nil, or_false] at h
                rcases h with rfl | rfl | rfl
                · exact v2
                · exact k1
                · exact hini
              · exact hws w h)
            exact mm_after (va_runS ⟨hx, hb, hml, hown, hts⟩ hM (va_cwS t.2.2.2.2.2.1 hts hG rfl rfl rfl hdesc hroom) hpv rfl hlen hl.1 hstk hsum' hd ⟨by omega, by omega⟩) hS hgo
          · obtain ⟨t2, v1, v2⟩ := mm_p3 ho e1
            cases v1.symm.trans ht
            exact mm_after (va_runSN ⟨hx, hb, hml, hown, hts⟩ hM ⟨va_cnB t.2.2.2.2.2.1 hts (mm_good hws) rfl rfl rfl (hctx.2.1 _ v2 rfl) (hts _ hini) hdesc hroom, hts _ k1, trivial⟩ hpv rfl hlen hl.1 hstk hsum' hd ⟨by omega, by omega⟩) hS hgo
        · cases hcal
      · cases hcal
    · cases hcal
  · next idx =>
    split at hcal
    · next idx' kd y' b z pl e1 =>
      split at hcal
      · next t' ht' =>
        split at hcal
        · next a r hst =>
          split at hcal
          · next e2 =>
            obtain ⟨rfl, rfl, hkd, hk1, hret, hsum⟩ := e2
            cases hcal
            cases ht'.symm.trans ht
            obtain ⟨k1, k2⟩ := mm_mth2 ht hk1
            rw [hret] at hM hcode hws
            have hlen : ((st.take t.2.2.2.2.2.1).reverse.map (mm_sh φ)).length = t.2.2.2.2.2.1 := by
              have h1 : t.2.2.2.2.2.1 < st.length := by
                have := congrArg List.length hst
                simp at this
                omega
              simp
              omega
            have hstk : (F0 m pc ls (st.map (mm_sh φ))).stack = ((st.take t.2.2.2.2.2.1).reverse.map (mm_sh φ)).reverse ++ .ref (φ a) :: rest.map (mm_sh φ) := by
              show st.map (mm_sh φ) = _
              conv => lhs; rw [← List.take_append_drop t.2.2.2.2.2.1 st, hst]
              simp [mm_sh]
            have hsum' : 2 * (F0 m pc ls (st.map (mm_sh φ))).monitorRoom + ((rest.map (mm_sh φ)).map fun v => v.category).sum ≤ 8 := by
              rw [mm_cats]
              show 2 * 0 + _ ≤ 8
              omega
            have hpv : PreS s H (mm_Pc φ kx bs D zs (.ref a :: (st.take t.2.2.2.2.2.1).reverse) mem) (.ref (φ a) :: (st.take t.2.2.2.2.2.1).reverse.map (mm_sh φ)) := ⟨mm_Pc_blind, hpre⟩
            rcases hkd with rfl | rfl
            · obtain ⟨t2, v1, v2⟩ := mm_p2 ho e1
              cases v1.symm.trans ht
              exact mm_after (va_runI (rest := rest.map (mm_sh φ)) ⟨hx, hb, hml, hown, hts⟩ hM (cwI t.2.2.2.2.2.1 hts (mm_good hws) rfl rfl rfl (hts _ hini) (hts _ v2) (hts _ k1) k2 hdesc hroom) hpv rfl hlen hl.1 hstk hsum' hd ⟨by omega, by omega⟩) hS hgo
            · obtain ⟨t2, v1, v2⟩ := mm_p3 ho e1
              cases v1.symm.trans ht
              exact mm_after (va_runIN (rest := rest.map (mm_sh φ)) ⟨hx, hb, hml, hown, hts⟩ hM ⟨va_cnB t.2.2.2.2.2.1 hts (mm_good hws) rfl rfl rfl (hctx.2.1 _ v2 rfl) (hts _ hini) hdesc hroom, k2, hts _ k1⟩ hpv rfl hlen hl.1 hstk hsum' hd ⟨by omega, by omega⟩) hS hgo
          · cases hcal
        · cases hcal
      · cases hcal
    · cases hcal
  · cases hcal
end MMX
end
section
/-! ===== the whole run ===== -/
/-- the state at a method's return gives its contract's end -/
theorem mm_ret_ok {p : Program} {l : Launch} {e : Env} {R : Room} {s : State} {m : MethodId} {args : Array Value} {below : List Frame} {meth : Method} {c : Code} {φ : Nat → Nat} {kx bs : Nat} {D : va_G} {zs : List mm_Zt} {o nL : Nat} {own : String} {ini : Bool} {t : mm_Mt} {τ : mm_S} {v : Option Value} {y : Nat} (F : mm_Fx p s m args meth c φ kx bs D o own nL ini t.2.2.1) (hr : meth.sig.returnType = t.2.2.2.2.1) (hlocks : meth.locks = false) (hRc : R.cells = (mm_bud y).1) (hRs : R.slots = (mm_bud y).2) (h : mm_ret t τ = some v) : mm_Go p l e R s m args below meth c φ kx bs D zs nL (MQ below (mm_Qc φ kx bs D zs v τ.2.2.2.1) args s (mm_bud y).1 (mm_bud y).2 (mm_B bs)) τ := by
  obtain ⟨pc, lv, st, mem, cb, sb⟩ := τ
  intro H locs ls cells slots hR hS hl hc hs
  dsimp only at hR hl hc hs ⊢
  refine W.widen (k := (mm_bud y).1) (n := (mm_bud y).2) (by omega) (by omega) ?_
  have hq : ∀ t' : State, t'.heap = H → s.WarmedH t'.vm → mm_Qc φ kx bs D zs v mem args s (.returned (v.map (mm_sh φ))) t' := fun t' ht hW => ⟨rfl, by rw [ht]; exact mm_R_moved hW.alike hR, ⟨by rw [ht]; exact hS.1, fun q h1 h2 => by rw [ht]; exact hS.2.1 q h1 h2⟩⟩
  have hf : ∀ q ∈ locs, mm_B bs q.base := hS.2.2
  unfold mm_ret at h
  dsimp only at h
  split at h
  · next hd =>
    split at h
    · next ty v0 hty =>
      split at h
      · next hn =>
        cases h
        exact W.zret F.1 F.2.1 (hr.trans hty) hn hq hf hd
      · cases h
    · cases h
  · next hd =>
    split at h
    · next nm a hty =>
      cases h
      exact W.aret F.1 F.2.1 (hr.trans hty) (Or.inl ⟨_, rfl⟩) (Or.inr ⟨φ a, rfl⟩) hq hf hd
    · cases h
  · next hd =>
    split at h
    · next v0 hty =>
      cases h
      exact W.lret F.1 F.2.1 (hr.trans hty) hq hf hd
    · cases h
  · next hd =>
    split at h
    · next hty =>
      cases h
      exact W.vret F.1 F.2.1 (hr.trans hty) hq hf hd
    · cases h
  · cases h
def mm_Ok (l : Launch) (φ : Nat → Nat) (kx bs : Nat) (D : va_G) (zs : List mm_Zt) (n : Nat) : Prop :=
  ∀ (d : Nat) (fi : mm_Fi) (σ σ' : mm_S), mm_run kx zs n d fi σ = some σ' → ∀ {p : Program} {e : Env} {R : Room} {s : State} {m : MethodId} {args : Array Value} {below : List Frame} {meth : Method} {c : Code} {own : String} {Q : State → Prop}, mm_Fx p s m args meth c φ kx bs D fi.1 own fi.2.2.1 fi.2.2.2 fi.2.1 → d + 1 ≤ R.frames ∧ 64 * (d + 1) ≤ R.locals →
    mm_Go p l e R s m args below meth c φ kx bs D zs fi.2.2.1 Q σ' → mm_Go p l e R s m args below meth c φ kx bs D zs fi.2.2.1 Q σ
theorem mm_met {l : Launch} {φ : Nat → Nat} {kx bs : Nat} {D : va_G} {zs : List mm_Zt} {n d y : Nat} {t : mm_Mt} {As : List Value} {mem : List mm_C} {τ : mm_S} {v : Option Value} (IH : mm_Ok l φ kx bs D zs n) (hph : mm_ph φ kx bs) (ht : mm_mths[y]? = some t) (hsl : (lg_sl As).length ≤ t.2.2.2.1) (hrun : mm_run kx zs n d (mm_fi t) (mm_ent y As mem) = some τ) (hret : mm_ret t τ = some v) :
    Met l t.2.1 (Cond.code t.2.1 t.2.2.1 t.2.2.2.1 t.2.2.2.2.1 :: mm_gw) (mm_rm d y) (mm_Pc φ kx bs D zs As mem) (mm_Qc φ kx bs D zs v τ.2.2.2.1) (mm_bud y).1 (mm_bud y).2 (mm_B bs) := by
  obtain ⟨hplain, hcn, hcode, hini, hdesc, hmx⟩ := mm_mth ht
  refine Met.ofW (cc := t.2.2.1) (maxL := t.2.2.2.1) (ret := t.2.2.2.2.1) hplain rfl ?_
  intro p e s m args below meth c s₁ B hml hv
  obtain ⟨rfl, hR, hctx, hbs⟩ := hv
  have hts := atoms_spec (ws := (Cond.code t.2.1 t.2.2.1 t.2.2.2.1 t.2.2.2.2.1 :: mm_gw)) B.pre
  have hown : s.vm.findClass t.2.1.cls = some m.cls := findClass_of_methodNamed B.named
  have hlocks := B.notSynchronized
  have F : mm_Fx p s m (As.map (mm_sh φ)).toArray meth c φ kx bs D (mm_fi t).1 t.2.1.cls (mm_fi t).2.2.1 (mm_fi t).2.2.2 (mm_fi t).2.1 := ⟨B.exec, B.bytes, hml, hown, hcn, fun w hw => hts w (List.mem_cons_of_mem _ hw), hctx, hph, hbs, fun hi => by
    have hk : t.2.2.2.2.2.2.1 = 2 := of_decide_eq_true hi
    rw [(name_of_methodNamed B.named B.method).1]
    exact (mm_mth2 ht hk).2⟩
  have hgo := IH d (mm_fi t) _ τ hrun F (R := (mm_rm d y)) ⟨Nat.le_refl _, Nat.le_refl _⟩ (mm_ret_ok (l := l) (e := e) (below := below) (y := y) F B.returns hlocks rfl rfl hret)
  have hl := lv_entry (As.map (mm_sh φ)) (n := t.2.2.2.1) (by rw [mm_sl_len]; exact hsl)
  rw [lg_entry_eq]
  exact hgo s.heap [] _ 0 0 hR va_S.rf (by show lv_has _ _ (mm_sl φ (lv_args 0 As)); rw [mm_args_sl]; exact hl) (Nat.zero_add _) (Nat.zero_add _)
/-- A RUN OF THE SMALL MACHINE IS THE MACHINE'S: from its start the machine comes to where the small one stops -/
theorem mm_run_ok (l : Launch) (φ : Nat → Nat) (kx bs : Nat) (D : va_G) (zs : List mm_Zt) (hph : mm_ph φ kx bs) : ∀ n, mm_Ok l φ kx bs D zs n := by
  intro n
  induction n with
  | zero => intro d fi σ σ' h; cases h
  | succ n IH =>
    intro d fi σ σ' h p e R s m args below meth c own Q F hRm kk
    unfold mm_run at h
    split at h
    · next ins len hd =>
      split at h
      · cases h; exact kk
      · split at h
        · next σ₁ hst => exact mm_stp_ok F ⟨by omega, by omega⟩ hd hst (IH d fi σ₁ σ' h F hRm kk)
        · split at h
          · cases h
          · next d' =>
            split at h
            · cases h
            · next y As rest hcal =>
              split at h
              · cases h
              · next t ht =>
                split at h
                · next hb =>
                  split at h
                  · cases h
                  · next τ hτ =>
                    split at h
                    · cases h
                    · next v hv =>
                      obtain ⟨pc, lv, st, mem, cb, sb⟩ := σ
                      exact mm_call_ok F ⟨by omega, by omega⟩ hd hcal ht hb.2.1 hb.2.2 (mm_met IH hph ht hb.1 hτ hv) (IH (d' + 1) fi _ σ' h F hRm kk)
                · cases h
    · cases h
end
section
-- ===== end of PART A; then your names; then what follows =====
/-! THE CLAIM OUT OF ONE WALK OF THE LAW'S BODY. Your part is whole_start (and what it stands on); all else here is the same for every law, but numbers. -/
def R_law : String := "RaftTownLaw"
def lw_P (b : Addr) (xs : List Int32) (args : Array Value) (s : State) : Prop := args = #[.ref b] ∧ s.IntsAt b xs ∧ xs.length ≤ 6 ∧ (Jvm.Cond.and given_1 narrow_1).before args s = true
def lw_Q (_ : Array Value) (s : State) (o : Outcome) (t : State) : Prop := o = .returned (some (.int 1)) ∧ Framed s o t [] 600000 7302250
def lw_Z (below : List Frame) (a : Array Value) (s : State) : State → Prop := fun t => ∃ o, t.status = .running ∧ Ended t below o ∧ lw_Q a s o t
/-- the law's own end, with 1 on the stack, nothing written that was there before, its room as the claim has it -/
theorem lw_ret {p : Program} {l : Launch} {e : Env} {s : State} {m : MethodId} {below : List Frame} {meth : Method} {c : Code} {b : Nat} (hx : p.tables.exec = Jvm.exec) (hb : c.code = code) (hr : meth.sig.returnType = ret) (hlocks : meth.locks = false) {pc : Nat} {H : Heap} {ls : Array Slot} (hdg : decode code pc = .ok (.ireturn, 1)) : W p l e room_1 s m #[Value.ref b] below meth c H [] 600000 7302250 (lw_Z below #[Value.ref b] s) (F0 m pc ls [.int 1]) := by
  intro T hT X
  obtain ⟨fs, hret, hrun, hended, hW, hframe⟩ := X.leave (v := some (.int 1)) (hlocks := hlocks) (fun h => by rw [hr] at h; cases h)
  have hmeth' : T.vm.method? m = some meth := X.method'
  refine ⟨T.setFrames fs, ?_, .returned (some (.int 1)), hrun, hended, rfl, ⟨_, rfl⟩, hW, hframe⟩
  jvm_step X.here [X.here.top, hx, hb, hdg, hmeth', hr, ret, narrow_b1]
  (try refine ⟨rfl, ?_⟩); (try refine ⟨rfl, ?_⟩)
  first | (intro acts; rw [hret _ acts rfl rfl rfl]) | rw [hret _ _ rfl rfl rfl]
  exact Steps.refl _
/-- what holds at the law's entry: the machine, the code, the tables' words (any of lw_tbl by 'hts w (by decide +kernel)'), the script of L ints xs at the cell b, what the Statement gives of the start (any of its parts by flat_of_before) -/
def lw_At (p : Program) (s : State) (m : MethodId) (meth : Method) (c : Code) (b L : Nat) (xs : Nat → Int32) : Prop :=
  p.tables.exec = Jvm.exec ∧ c.code = code ∧ meth.sig.returnType = ret ∧ c.maxLocals = 4 ∧ s.vm.findClass R_law = some m.cls ∧ (∀ w ∈ lw_tbl, w.before #[Value.ref b] s = true) ∧ va_X b L xs s s.heap ∧ b < s.heap.size ∧ meth.locks = false ∧ (Jvm.Cond.and given_1 narrow_1).before #[Value.ref b] s = true
end
section
/-! ===== printed by wip/gen_start.py: the law's start ===== -/
def mm_zs : List mm_Zt := [("RaftTown", "KIND_ABOVE", "[I", .ref 1), ("RaftTown", "AREA", "[I", .ref 2), ("RaftTown", "BESIDE_X", "[I", .ref 3), ("RaftTown", "BESIDE_Y", "[I", .ref 4)]
def mm_za1 : List Value := [.int (-1), .int 0, .int 1, .int 1, .int 0, .int 1]
def mm_za2 : List Value := [.int 1, .int 2, .int 3, .int 2, .int 1, .int 0]
def mm_za3 : List Value := [.int (-1), .int 1, .int 0, .int 0]
def mm_za4 : List Value := [.int 0, .int 0, .int (-1), .int 1]
def mm_scr (L : Nat) (xs : Nat → Int32) : List Value := (List.range L).map (fun j => .int (xs j))
def mm_m0 (L : Nat) (xs : Nat → Int32) : List mm_C := [.inl (.int, mm_scr L xs), .inl (.int, mm_za1), .inl (.int, mm_za2), .inl (.int, mm_za3), .inl (.int, mm_za4)]
def mm_f0 (b t1 t2 t3 t4 bs i : Nat) : Nat := match i with
  | 0 => b
  | 1 => t1
  | 2 => t2
  | 3 => t3
  | 4 => t4
  | k + 5 => bs + k
set_option maxRecDepth 100000 in
theorem mm_zt1 {args : Array Value} {s : State} (hs : ∀ w ∈ flatC (Jvm.Cond.and given_1 narrow_1), w.before args s = true) : ∃ t : Nat, (Term.static "RaftTown" "KIND_ABOVE" "[I").eval args s none [] s = some (.ref t) ∧ va_T .int t 6 (fun j => mm_za1.getD j .null) (mm_B s.heap.size) s s.heap := by
  refine va_Tof (Nat.le_of_ble_eq_true rfl) (hs _ (by decide +kernel)) (va_eqt (z := 6) (hs _ (by decide +kernel))) (fun j hj => ?_) (fun a ha h => Nat.not_le.mpr ha h)
  match j, hj with
  | 0, _ => exact va_eqt (t := .elem (.static "RaftTown" "KIND_ABOVE" "[I") (.int 0)) (z := (-1)) (hs _ (by decide +kernel))
  | 1, _ => exact va_eqt (t := .elem (.static "RaftTown" "KIND_ABOVE" "[I") (.int 1)) (z := 0) (hs _ (by decide +kernel))
  | 2, _ => exact va_eqt (t := .elem (.static "RaftTown" "KIND_ABOVE" "[I") (.int 2)) (z := 1) (hs _ (by decide +kernel))
  | 3, _ => exact va_eqt (t := .elem (.static "RaftTown" "KIND_ABOVE" "[I") (.int 3)) (z := 1) (hs _ (by decide +kernel))
  | 4, _ => exact va_eqt (t := .elem (.static "RaftTown" "KIND_ABOVE" "[I") (.int 4)) (z := 0) (hs _ (by decide +kernel))
  | 5, _ => exact va_eqt (t := .elem (.static "RaftTown" "KIND_ABOVE" "[I") (.int 5)) (z := 1) (hs _ (by decide +kernel))
  | j + 6, hj => exact absurd hj (by omega)
set_option maxRecDepth 100000 in
theorem mm_zt2 {args : Array Value} {s : State} (hs : ∀ w ∈ flatC (Jvm.Cond.and given_1 narrow_1), w.before args s = true) : ∃ t : Nat, (Term.static "RaftTown" "AREA" "[I").eval args s none [] s = some (.ref t) ∧ va_T .int t 6 (fun j => mm_za2.getD j .null) (mm_B s.heap.size) s s.heap := by
  refine va_Tof (Nat.le_of_ble_eq_true rfl) (hs _ (by decide +kernel)) (va_eqt (z := 6) (hs _ (by decide +kernel))) (fun j hj => ?_) (fun a ha h => Nat.not_le.mpr ha h)
  match j, hj with
  | 0, _ => exact va_eqt (t := .elem (.static "RaftTown" "AREA" "[I") (.int 0)) (z := 1) (hs _ (by decide +kernel))
  | 1, _ => exact va_eqt (t := .elem (.static "RaftTown" "AREA" "[I") (.int 1)) (z := 2) (hs _ (by decide +kernel))
  | 2, _ => exact va_eqt (t := .elem (.static "RaftTown" "AREA" "[I") (.int 2)) (z := 3) (hs _ (by decide +kernel))
  | 3, _ => exact va_eqt (t := .elem (.static "RaftTown" "AREA" "[I") (.int 3)) (z := 2) (hs _ (by decide +kernel))
  | 4, _ => exact va_eqt (t := .elem (.static "RaftTown" "AREA" "[I") (.int 4)) (z := 1) (hs _ (by decide +kernel))
  | 5, _ => exact va_eqt (t := .elem (.static "RaftTown" "AREA" "[I") (.int 5)) (z := 0) (hs _ (by decide +kernel))
  | j + 6, hj => exact absurd hj (by omega)
set_option maxRecDepth 100000 in
theorem mm_zt3 {args : Array Value} {s : State} (hs : ∀ w ∈ flatC (Jvm.Cond.and given_1 narrow_1), w.before args s = true) : ∃ t : Nat, (Term.static "RaftTown" "BESIDE_X" "[I").eval args s none [] s = some (.ref t) ∧ va_T .int t 4 (fun j => mm_za3.getD j .null) (mm_B s.heap.size) s s.heap := by
  refine va_Tof (Nat.le_of_ble_eq_true rfl) (hs _ (by decide +kernel)) (va_eqt (z := 4) (hs _ (by decide +kernel))) (fun j hj => ?_) (fun a ha h => Nat.not_le.mpr ha h)
  match j, hj with
  | 0, _ => exact va_eqt (t := .elem (.static "RaftTown" "BESIDE_X" "[I") (.int 0)) (z := (-1)) (hs _ (by decide +kernel))
  | 1, _ => exact va_eqt (t := .elem (.static "RaftTown" "BESIDE_X" "[I") (.int 1)) (z := 1) (hs _ (by decide +kernel))
  | 2, _ => exact va_eqt (t := .elem (.static "RaftTown" "BESIDE_X" "[I") (.int 2)) (z := 0) (hs _ (by decide +kernel))
  | 3, _ => exact va_eqt (t := .elem (.static "RaftTown" "BESIDE_X" "[I") (.int 3)) (z := 0) (hs _ (by decide +kernel))
  | j + 4, hj => exact absurd hj (by omega)
set_option maxRecDepth 100000 in
theorem mm_zt4 {args : Array Value} {s : State} (hs : ∀ w ∈ flatC (Jvm.Cond.and given_1 narrow_1), w.before args s = true) : ∃ t : Nat, (Term.static "RaftTown" "BESIDE_Y" "[I").eval args s none [] s = some (.ref t) ∧ va_T .int t 4 (fun j => mm_za4.getD j .null) (mm_B s.heap.size) s s.heap := by
  refine va_Tof (Nat.le_of_ble_eq_true rfl) (hs _ (by decide +kernel)) (va_eqt (z := 4) (hs _ (by decide +kernel))) (fun j hj => ?_) (fun a ha h => Nat.not_le.mpr ha h)
  match j, hj with
  | 0, _ => exact va_eqt (t := .elem (.static "RaftTown" "BESIDE_Y" "[I") (.int 0)) (z := 0) (hs _ (by decide +kernel))
  | 1, _ => exact va_eqt (t := .elem (.static "RaftTown" "BESIDE_Y" "[I") (.int 1)) (z := 0) (hs _ (by decide +kernel))
  | 2, _ => exact va_eqt (t := .elem (.static "RaftTown" "BESIDE_Y" "[I") (.int 2)) (z := (-1)) (hs _ (by decide +kernel))
  | 3, _ => exact va_eqt (t := .elem (.static "RaftTown" "BESIDE_Y" "[I") (.int 3)) (z := 1) (hs _ (by decide +kernel))
  | j + 4, hj => exact absurd hj (by omega)
theorem mm_T_at {φ : Nat → Nat} {kx i t : Nat} {D : va_G} {U : State} {H : Heap} {xs : List Value} {A : Nat → Prop} (hi : φ i = t) (hk : i < kx) (hx : ∀ v ∈ xs, mm_sh φ v = v) (hT : va_T .int t xs.length (fun j => xs.getD j .null) A U H) : mm_at φ kx D vwCl U H i (.inl (.int, xs)) := by
  obtain ⟨cell, h1, h2, h3, h4, h5, h6, -⟩ := hT
  refine ⟨cell, by rw [hi]; exact h1, ⟨h4, h5, fun j v hv => ?_⟩, h3, h2, fun q => absurd q (Nat.not_le.mpr hk)⟩
  obtain ⟨hlt, he⟩ := List.getElem?_eq_some_iff.mp hv
  rw [h6 j hlt, hx v (List.mem_of_getElem? hv)]
  simp [hv]
theorem mm_ints_sh (φ : Nat → Nat) (xs : List Int32) : ∀ v ∈ xs.map Value.int, mm_sh φ v = v := by
  intro v hv
  obtain ⟨x, -, rfl⟩ := List.mem_map.mp hv
  rfl
/-- the law's start, as the small machine has it -/
theorem mm_start {p : Program} {s : State} {m : MethodId} {meth : Method} {c : Code} {b L : Nat} {xs : Nat → Int32} (hL : L ≤ 6) (C0 : lw_At p s m meth c b L xs) : ∃ (φ : Nat → Nat) (D : va_G), mm_ph φ 5 s.heap.size ∧ φ 0 = b ∧ mm_Fx p s m #[Value.ref b] meth c φ 5 s.heap.size D 13 "RaftTownLaw" 4 false code ∧ mm_R φ 5 s.heap.size D vwCl mm_zs s (mm_m0 L xs) s.heap := by
  obtain ⟨hx, hb, hr, hml, hown, hts, hX, hbl, hlocks, hgv⟩ := id C0
  have hs := flat_of_before _ hgv
  obtain ⟨t1, e1, T1⟩ := mm_zt1 hs
  obtain ⟨t2, e2, T2⟩ := mm_zt2 hs
  obtain ⟨t3, e3, T3⟩ := mm_zt3 hs
  obtain ⟨t4, e4, T4⟩ := mm_zt4 hs
  have htg : ∀ w ∈ mm_gw, w.before #[Value.ref b] s = true := fun w hw => hts w (List.mem_filter.mp hw).1
  obtain ⟨c0, iS0, hKn0⟩ := u_known (C := RX0) (T := TX0) (N := 3) (n := 3) htg mm_fw_0 (htg (.instantiable RX0 3) (mm_wg_in (pl := 2131) (by decide +kernel)))
  obtain ⟨c1, iS1, hKn1⟩ := u_known (C := RX1) (T := TX1) (N := 9) (n := 9) htg mm_fw_1 (htg (.instantiable RX1 9) (mm_wg_in (pl := 1061) (by decide +kernel)))
  obtain ⟨c2, iS2, hKn2⟩ := u_known (C := RX2) (T := TX2) (N := 6) (n := 6) htg mm_fw_2 (htg (.instantiable RX2 6) (mm_wg_in (pl := 2103) (by decide +kernel)))
  obtain ⟨c3, iS3, hKn3⟩ := u_known (C := RX3) (T := TX3) (N := 7) (n := 7) htg mm_fw_3 (htg (.instantiable RX3 7) (mm_wg_in (pl := 1139) (by decide +kernel)))
  obtain ⟨c4, iS4, hKn4⟩ := u_known (C := RX4) (T := TX4) (N := 7) (n := 7) htg mm_fw_4 (htg (.instantiable RX4 7) (mm_wg_in (pl := 1098) (by decide +kernel)))
  obtain ⟨c5, iS5, hKn5⟩ := u_known (C := RX5) (T := TX5) (N := 8) (n := 8) htg mm_fw_5 (htg (.instantiable RX5 8) (mm_wg_in (pl := 1180) (by decide +kernel)))
  obtain ⟨c6, iS6, hKn6⟩ := u_known (C := RX6) (T := TX6) (N := 3) (n := 3) htg mm_fw_6 (htg (.instantiable RX6 3) (mm_wg_in (pl := 1037) (by decide +kernel)))
  obtain ⟨c7, iS7, hKn7⟩ := u_known (C := RX7) (T := TX7) (N := 3) (n := 3) htg mm_fw_7 (htg (.instantiable RX7 3) (mm_wg_in (pl := 2053) (by decide +kernel)))
  obtain ⟨c8, iS8, hKn8⟩ := u_known (C := RX8) (T := TX8) (N := 7) (n := 7) htg mm_fw_8 (htg (.instantiable RX8 7) (mm_wg_in (pl := 2072) (by decide +kernel)))
  obtain ⟨c9, iS9, hKn9⟩ := u_known (C := RX9) (T := TX9) (N := 4) (n := 4) htg mm_fw_9 (htg (.instantiable RX9 4) (mm_wg_in (pl := 1226) (by decide +kernel)))
  obtain ⟨c10, iS10, hKn10⟩ := u_known (C := RX10) (T := TX10) (N := 12) (n := 12) htg mm_fw_10 (htg (.instantiable RX10 12) (mm_wg_in (pl := 1031) (by decide +kernel)))
  obtain ⟨c11, iS11, hKn11⟩ := u_known (C := RX11) (T := TX11) (N := 8) (n := 8) htg mm_fw_11 (htg (.instantiable RX11 8) (mm_wg_in (pl := 1023) (by decide +kernel)))
  obtain ⟨c12, iS12, hKn12⟩ := u_known (C := RX12) (T := TX12) (N := 26) (n := 26) htg mm_fw_12 (htg (.instantiable RX12 26) (mm_wg_in (pl := 6138) (by decide +kernel)))
  obtain ⟨D, hKc⟩ : ∃ D : va_G, ∀ (k : Nat) (q : vw_C), vwCl[k]? = some q → u_Kn s q.1 q.2.1 q.2.2 (D.1 k) (D.2 k) := by
    refine ⟨(fun k => if k = 0 then c0 else if k = 1 then c1 else if k = 2 then c2 else if k = 3 then c3 else if k = 4 then c4 else if k = 5 then c5 else if k = 6 then c6 else if k = 7 then c7 else if k = 8 then c8 else if k = 9 then c9 else if k = 10 then c10 else if k = 11 then c11 else c12, fun k => if k = 0 then iS0 else if k = 1 then iS1 else if k = 2 then iS2 else if k = 3 then iS3 else if k = 4 then iS4 else if k = 5 then iS5 else if k = 6 then iS6 else if k = 7 then iS7 else if k = 8 then iS8 else if k = 9 then iS9 else if k = 10 then iS10 else if k = 11 then iS11 else iS12), ?_⟩
    intro k q hq
    match k, hq with
    | 0, hq => cases hq; exact hKn0
    | 1, hq => cases hq; exact hKn1
    | 2, hq => cases hq; exact hKn2
    | 3, hq => cases hq; exact hKn3
    | 4, hq => cases hq; exact hKn4
    | 5, hq => cases hq; exact hKn5
    | 6, hq => cases hq; exact hKn6
    | 7, hq => cases hq; exact hKn7
    | 8, hq => cases hq; exact hKn8
    | 9, hq => cases hq; exact hKn9
    | 10, hq => cases hq; exact hKn10
    | 11, hq => cases hq; exact hKn11
    | 12, hq => cases hq; exact hKn12
    | k + 13, hq => simp [vwCl] at hq
  have hA : ∀ a : Nat, a < s.heap.size → ¬ mm_B s.heap.size a := fun a ha h => Nat.not_le.mpr ha h
  have hnst : ∀ w ∈ lw_tbl, mm_nest w = true → va_Nw w s := by
    intro w hw hn
    refine va_Nw.of ?_ (hts w hw)
    unfold mm_nest at hn
    split at hn
    · rfl
    · rfl
    · cases hn
  have hctx : mm_Ctx D s := ⟨⟨hKc, fun k q h => by simp at h⟩, hnst, fun C hC => va_AO.of (hts _ hC)⟩
  have l1 : t1 < s.heap.size := by obtain ⟨cell, h1, -⟩ := T1; exact (Array.getElem?_eq_some_iff.mp h1).1
  have l2 : t2 < s.heap.size := by obtain ⟨cell, h1, -⟩ := T2; exact (Array.getElem?_eq_some_iff.mp h1).1
  have l3 : t3 < s.heap.size := by obtain ⟨cell, h1, -⟩ := T3; exact (Array.getElem?_eq_some_iff.mp h1).1
  have l4 : t4 < s.heap.size := by obtain ⟨cell, h1, -⟩ := T4; exact (Array.getElem?_eq_some_iff.mp h1).1
  have hph : mm_ph (mm_f0 b t1 t2 t3 t4 s.heap.size) 5 s.heap.size := by
    refine ⟨fun i hi => ?_, fun i hi => ?_⟩
    · match i, hi with
      | 0, _ => exact hbl
      | 1, _ => exact l1
      | 2, _ => exact l2
      | 3, _ => exact l3
      | 4, _ => exact l4
      | k + 5, hi => exact absurd hi (by omega)
    · obtain ⟨k, rfl⟩ : ∃ k, i = k + 5 := ⟨i - 5, by omega⟩
      show s.heap.size + k = _
      omega
  have ini : Cond.initialized "RaftTown" ∈ mm_gw := mm_wg_in (pl := 1001) (by decide +kernel)
  refine ⟨mm_f0 b t1 t2 t3 t4 s.heap.size, D, hph, rfl, ⟨hx, hb, hml, hown, rfl, htg, hctx, hph, Nat.le_refl _, fun h => by cases h⟩, Nat.le_refl 5, rfl, fun i q hq => ?_, fun z hz => ?_⟩
  · match i, hq with
    | 0, hq =>
      cases hq
      obtain ⟨scr, h1, h2, h3, h4, h5⟩ := hX
      refine ⟨scr, h1, ⟨by simp [mm_scr, h4], by rw [h4]; simp [mm_scr], fun j v hv => ?_⟩, h3, h2, fun q => absurd q (by decide)⟩
      simp only [mm_scr, List.getElem?_map, Option.map_eq_some_iff] at hv
      obtain ⟨j', hj', rfl⟩ := hv
      obtain ⟨hlt, he⟩ := List.getElem?_eq_some_iff.mp hj'
      simp at hlt he
      subst he
      exact h5 j hlt
    | 1, hq => cases hq; exact mm_T_at rfl (by decide) (by intro v hv; simp only [mm_za1, List.mem_cons, List.not_mem_nil, or_false] at hv; rcases hv with rfl | rfl | rfl | rfl | rfl | rfl <;> rfl) T1
    | 2, hq => cases hq; exact mm_T_at rfl (by decide) (by intro v hv; simp only [mm_za2, List.mem_cons, List.not_mem_nil, or_false] at hv; rcases hv with rfl | rfl | rfl | rfl | rfl | rfl <;> rfl) T2
    | 3, hq => cases hq; exact mm_T_at rfl (by decide) (by intro v hv; simp only [mm_za3, List.mem_cons, List.not_mem_nil, or_false] at hv; rcases hv with rfl | rfl | rfl | rfl <;> rfl) T3
    | 4, hq => cases hq; exact mm_T_at rfl (by decide) (by intro v hv; simp only [mm_za4, List.mem_cons, List.not_mem_nil, or_false] at hv; rcases hv with rfl | rfl | rfl | rfl <;> rfl) T4
    | k + 5, hq => simp [mm_m0] at hq
  · simp only [mm_zs, List.mem_cons, List.not_mem_nil, or_false] at hz
    rcases hz with rfl | rfl | rfl | rfl
    · exact va_Zref (hts _ (mm_wd_in (pl := 2228) (by decide +kernel))) (htg _ ini) e1 hA
    · exact va_Zref (hts _ (mm_wd_in (pl := 3012) (by decide +kernel))) (htg _ ini) e2 hA
    · exact va_Zref (hts _ (mm_wd_in (pl := 6032) (by decide +kernel))) (htg _ ini) e3 hA
    · exact va_Zref (hts _ (mm_wd_in (pl := 6034) (by decide +kernel))) (htg _ ini) e4 hA
set_option maxRecDepth 100000 in
/-- THE LAW, from its entry, by a run of the small machine -/
theorem mm_whole {p : Program} {e : Env} {s : State} {m : MethodId} {below : List Frame} {meth : Method} {c : Code} (l : Launch) {b L : Nat} {xs : Nat → Int32} (hL : L ≤ 6) (C0 : lw_At p s m meth c b L xs) (hrun : ∃ (n d : Nat) (τ : mm_S), d ≤ 1000 ∧ mm_run 5 mm_zs n d (13, code, 4, false) (0, [(0, .ref 0)], [], mm_m0 L xs, 600000, 7302250) = some τ ∧ τ.2.2.1 = [.int 1] ∧ decode code τ.1 = .ok (.ireturn, 1)) : W p l e room_1 s m #[Value.ref b] below meth c s.heap [] 0 0 (lw_Z below #[Value.ref b] s) (entryFrame m ([Value.ref b] : List Value).toArray 4) := by
  obtain ⟨φ, D, hph, h0, F, hR⟩ := mm_start hL C0
  obtain ⟨hx, hb, hr, hml, hown, hts, hX, hbl, hlocks, hgv⟩ := C0
  obtain ⟨n, d, τ, hd, hrun, hst, hdec⟩ := hrun
  have hend : mm_Go p l e room_1 s m #[Value.ref b] below meth c φ 5 s.heap.size D mm_zs 4 (lw_Z below #[Value.ref b] s) τ := by
    obtain ⟨pc, lv, st, mem, cb, sb⟩ := τ
    dsimp only at hst hdec
    subst hst
    intro H locs ls cells slots hR hS hl hc hs
    refine va_forget hS.2.2 (W.widen (k := 600000) (n := 7302250) ?_ ?_ (lw_ret hx hb hr hlocks hdec))
    · have : cells + cb = 600000 := hc
      omega
    · have : slots + sb = 7302250 := hs
      omega
  have hgo := mm_run_ok l φ 5 s.heap.size D mm_zs hph n d (13, code, 4, false) _ τ hrun F (R := room_1) ⟨by show d + 1 ≤ 2048; omega, by show 64 * (d + 1) ≤ 84000; omega⟩ hend
  have hl := lv_entry ([.ref b]) (n := 4) (Nat.le_of_ble_eq_true rfl)
  rw [lg_entry_eq]
  exact hgo s.heap [] _ 0 0 hR va_S.rf (by show lv_has _ _ [(0, .ref (φ 0))]; rw [h0]; exact hl) (Nat.zero_add _) (Nat.zero_add _)
end
section
/-! ===== runs with the callers that wait ===== -/
theorem mm_run_mono (kx : Nat) (zs : List mm_Zt) : ∀ (n : Nat) (d : Nat) (fi : mm_Fi) (σ τ : mm_S), mm_run kx zs n d fi σ = some τ → mm_run kx zs (n + 1) d fi σ = some τ := by
  intro n
  induction n with
  | zero => intro d fi σ τ h; cases h
  | succ n ih =>
    intro d fi σ τ h
    unfold mm_run at h
    rw [mm_run]
    split at h
    · next ins len hd =>
      (try rw [hd])
      (try dsimp only)
      split at h
      · next hr => rw [if_pos hr]; exact h
      · next hr =>
        rw [if_neg hr]
        split at h
        · next σ₁ hst => (try rw [hst]); (try dsimp only); exact ih _ _ _ _ h
        · next hst =>
          (try rw [hst])
          (try dsimp only)
          split at h
          · cases h
          · next d' =>
            (try dsimp only)
            split at h
            · cases h
            · next y As rest hcal =>
              (try rw [hcal])
              (try dsimp only)
              split at h
              · cases h
              · next t ht =>
                (try rw [ht])
                (try dsimp only)
                split at h
                · next hb =>
                  rw [if_pos hb]
                  split at h
                  · cases h
                  · next τ' hτ =>
                    rw [ih _ _ _ _ hτ]
                    (try dsimp only)
                    split at h
                    · cases h
                    · next v hv =>
                      (try rw [hv])
                      (try dsimp only)
                      exact ih _ _ _ _ h
                · cases h
    · cases h
theorem mm_run_le (kx : Nat) (zs : List mm_Zt) {n n' : Nat} (hn : n ≤ n') {d : Nat} {fi : mm_Fi} {σ τ : mm_S} (h : mm_run kx zs n d fi σ = some τ) : mm_run kx zs n' d fi σ = some τ := by
  induction hn with
  | refl => exact h
  | step _ ih => exact mm_run_mono kx zs _ _ _ _ _ ih
abbrev mm_Fr : Type := mm_Fi × mm_Mt × Nat × List (Nat × Value) × List Value × Nat × Nat
def mm_T (kx : Nat) (zs : List mm_Zt) (P : mm_S → Prop) : List mm_Fr → Nat → mm_Fi → mm_S → Prop
  | [], d, fi, σ => ∃ n τ, mm_run kx zs n d fi σ = some τ ∧ P τ
  | f :: K, d, fi, σ => ∃ n τ v, mm_run kx zs n d fi σ = some τ ∧ mm_ret f.2.1 τ = some v ∧ mm_T kx zs P K (d + 1) f.1 (f.2.2.1, f.2.2.2.1, v.toList ++ f.2.2.2.2.1, τ.2.2.2.1, f.2.2.2.2.2.1, f.2.2.2.2.2.2)
theorem mm_T_pre {kx : Nat} {zs : List mm_Zt} {P : mm_S → Prop} {K : List mm_Fr} {d : Nat} {fi : mm_Fi} {σ σ' : mm_S} (h : ∀ n τ, mm_run kx zs n d fi σ' = some τ → ∃ n', mm_run kx zs n' d fi σ = some τ) (hT : mm_T kx zs P K d fi σ') : mm_T kx zs P K d fi σ := by
  cases K with
  | nil =>
    obtain ⟨n, τ, h1, h2⟩ := hT
    obtain ⟨n', h3⟩ := h n τ h1
    exact ⟨n', τ, h3, h2⟩
  | cons f K =>
    obtain ⟨n, τ, v, h1, h2, h4⟩ := hT
    obtain ⟨n', h3⟩ := h n τ h1
    exact ⟨n', τ, v, h3, h2, h4⟩
theorem mm_T_step {kx : Nat} {zs : List mm_Zt} {P : mm_S → Prop} {K : List mm_Fr} {d : Nat} {fi : mm_Fi} {σ σ' : mm_S} {ins : Instr} {len : Nat} (hd : decode fi.2.1 σ.1 = .ok (ins, len)) (hr : mm_isR ins = false) (hs : mm_stp fi.1 fi.2.2.1 kx fi.2.2.2 zs ins len σ = some σ') (hT : mm_T kx zs P K d fi σ') : mm_T kx zs P K d fi σ := by
  refine mm_T_pre (fun n τ h => ⟨n + 1, ?_⟩) hT
  unfold mm_run
  rw [hd]
  simp only [hr, hs]
  exact h
theorem mm_T_fin {kx : Nat} {zs : List mm_Zt} {P : mm_S → Prop} {d : Nat} {fi : mm_Fi} {σ : mm_S} {ins : Instr} {len : Nat} (hd : decode fi.2.1 σ.1 = .ok (ins, len)) (hr : mm_isR ins = true) (hP : P σ) : mm_T kx zs P [] d fi σ := by
  refine ⟨1, σ, ?_, hP⟩
  unfold mm_run
  rw [hd]
  simp only [hr, if_true]
theorem mm_T_ret {kx : Nat} {zs : List mm_Zt} {P : mm_S → Prop} {K : List mm_Fr} {f : mm_Fr} {d : Nat} {fi : mm_Fi} {σ : mm_S} {ins : Instr} {len : Nat} {v : Option Value} (hd : decode fi.2.1 σ.1 = .ok (ins, len)) (hr : mm_isR ins = true) (hv : mm_ret f.2.1 σ = some v) (hT : mm_T kx zs P K (d + 1) f.1 (f.2.2.1, f.2.2.2.1, v.toList ++ f.2.2.2.2.1, σ.2.2.2.1, f.2.2.2.2.2.1, f.2.2.2.2.2.2)) : mm_T kx zs P (f :: K) d fi σ := by
  refine ⟨1, σ, v, ?_, hv, hT⟩
  unfold mm_run
  rw [hd]
  simp only [hr, if_true]
theorem mm_T_call {kx : Nat} {zs : List mm_Zt} {P : mm_S → Prop} {K : List mm_Fr} {d y : Nat} {fi : mm_Fi} {pc cb sb : Nat} {lv : List (Nat × Value)} {st : List Value} {mem : List mm_C} {ins : Instr} {len : Nat} {As rest : List Value} {t : mm_Mt} (hd : decode fi.2.1 pc = .ok (ins, len)) (hr : mm_isR ins = false) (hs : mm_stp fi.1 fi.2.2.1 kx fi.2.2.2 zs ins len (pc, lv, st, mem, cb, sb) = none) (hc : mm_cal fi.1 ins len st mem = some (y, As, rest)) (ht : mm_mths[y]? = some t) (hb : (lg_sl As).length ≤ t.2.2.2.1 ∧ (mm_bud y).1 ≤ cb ∧ (mm_bud y).2 ≤ sb)
    (hT : mm_T kx zs P ((fi, t, pc + 3, lv, rest, cb - (mm_bud y).1, sb - (mm_bud y).2) :: K) d (mm_fi t) (mm_ent y As mem)) : mm_T kx zs P K (d + 1) fi (pc, lv, st, mem, cb, sb) := by
  obtain ⟨n, τ, v, h1, h2, h3⟩ := hT
  refine mm_T_pre (fun n2 τ2 h => ⟨max n n2 + 1, ?_⟩) h3
  unfold mm_run
  rw [hd]
  simp only [hr, hs, hc, ht]
  rw [if_pos hb, mm_run_le kx zs (Nat.le_max_left n n2) h1]
  simp only [h2]
  exact mm_run_le kx zs (Nat.le_max_right n n2) h
end
section
/-! ===== symbolic runs: values, states, a step ===== -/
/-- a value, or (0, k) the k-th unknown int, (1, _) some int, (2, _) some long -/
abbrev sx_V : Type := Value ⊕ (Nat × Nat)
abbrev sx_A : Type := FieldType × Nat × sx_V × List (Nat × sx_V)
abbrev sx_C : Type := sx_A ⊕ (Nat × List sx_V)
abbrev sx_F : Type := Nat × List sx_I × List sx_I × List (Option sx_V) × List sx_V × Nat × Nat
abbrev sx_S : Type := List (Nat × Nat) × List sx_C × sx_F × List sx_F
def sx_nK {β : Type} (n : Nat) (k : Nat → β) : β := match n with
  | 0 => k 0
  | m + 1 => k (m + 1)
def sx_iK {β : Type} (x : Int32) (k : Int32 → β) : β := sx_nK x.toBitVec.toNat (fun n => k (Int32.ofBitVec (BitVec.ofNat 32 n)))
def sx_lK {β : Type} (x : Int64) (k : Int64 → β) : β := sx_nK x.toBitVec.toNat (fun n => k (Int64.ofBitVec (BitVec.ofNat 64 n)))
def sx_setK {α β : Type} (l : List α) (i : Nat) (c : α) (k : List α → β) : β := match l, i with
  | [], _ => k []
  | _ :: t, 0 => k (c :: t)
  | h :: t, i + 1 => sx_setK t i c (fun t' => k (h :: t'))
def sx_appK {α β : Type} (l : List α) (c : α) (k : List α → β) : β := match l with
  | [] => k [c]
  | h :: t => sx_appK t c (fun t' => k (h :: t'))
def sx_nx {β : Type} (tl full : List sx_I) (pc : Nat) (k : List sx_I → β) : β := match tl with
  | e :: t => if Nat.beq e.1 pc = true then k (e :: t) else k (full.dropWhile (fun e => !(Nat.beq e.1 pc)))
  | [] => k (full.dropWhile (fun e => !(Nat.beq e.1 pc)))
def sx_off (x : Int32) : Nat := (x.toInt + 2147483648).toNat
def sx_cst (n : Nat) : Int32 := Int32.ofInt ((n : Int) - 2147483648)
def sx_isI : sx_V → Bool
  | .inl (.int _) => true
  | .inr (0, _) => true
  | .inr (1, _) => true
  | _ => false
def sx_isL : sx_V → Bool
  | .inl (.long _) => true
  | .inr (2, _) => true
  | _ => false
/-- an unknown that can be one thing alone is that -/
def sx_cn (iv : List (Nat × Nat)) (v : sx_V) : sx_V := match v with
  | .inr (0, k) => match iv[k]? with
    | some (lo, hi) => if Nat.beq hi (lo + 1) = true then .inl (.int (sx_cst lo)) else v
    | none => v
  | v => v
abbrev sx_R : Type := Option (List sx_S)
def sx_both (a b : sx_R) : sx_R := match a, b with
  | some x, some y => some (x ++ y)
  | _, _ => none
/-- the rest of the frame, as it goes on at a place -/
def sx_go (iv : List (Nat × Nat)) (mem : List sx_C) (y : Nat) (full tl : List sx_I) (lv : List (Option sx_V)) (st : List sx_V) (cb sb : Nat) (K : List sx_F) (pc : Nat) : sx_R := sx_nK pc (fun pc => sx_nx tl full pc (fun cs => some [(iv, mem, (y, full, cs, lv, st, cb, sb), K)]))
/-- an unknown's range cut by others, a way for each -/
def sx_spl (iv : List (Nat × Nat)) (k : Nat) (rs : List (Nat × Nat)) (kk : List (Nat × Nat) → sx_R) : sx_R := match iv[k]? with
  | none => none
  | some (lo, hi) => match rs with
    | [] => some []
    | (a, b) :: rs => if Nat.ble (min b hi) (max a lo) = true then sx_spl iv k rs kk else sx_both (sx_nK (max a lo) (fun x => sx_nK (min b hi) (fun y => sx_setK iv k (x, y) kk))) (sx_spl iv k rs kk)
def sx_M : Nat := 4294967296
/-- where a comparison with c holds, and where it doesn't -/
def sx_rng (cd : Jvm.ClassFile.Cond) (c : Nat) : List (Nat × Nat) × List (Nat × Nat) := match cd with
  | .lt => ([(0, c)], [(c, sx_M)])
  | .ge => ([(c, sx_M)], [(0, c)])
  | .le => ([(0, c + 1)], [(c + 1, sx_M)])
  | .gt => ([(c + 1, sx_M)], [(0, c + 1)])
  | .eq => ([(c, c + 1)], [(0, c), (c + 1, sx_M)])
  | .ne => ([(0, c), (c + 1, sx_M)], [(c, c + 1)])
def sx_swp : Jvm.ClassFile.Cond → Jvm.ClassFile.Cond
  | .lt => .gt
  | .gt => .lt
  | .le => .ge
  | .ge => .le
  | c => c
/-- x against y: the ways on where it holds, and where not -/
def sx_cmp (iv : List (Nat × Nat)) (cd : Jvm.ClassFile.Cond) (x y : sx_V) (kt kf : List (Nat × Nat) → sx_R) : sx_R := match x, y with
  | .inl (.int a), .inl (.int b) => if mm_P2 cd a b then kt iv else kf iv
  | .inr (0, k), .inl (.int b) => sx_nK (sx_off b) (fun c => sx_both (sx_spl iv k (sx_rng cd c).1 kt) (sx_spl iv k (sx_rng cd c).2 kf))
  | .inl (.int a), .inr (0, k) => sx_nK (sx_off a) (fun c => sx_both (sx_spl iv k (sx_rng (sx_swp cd) c).1 kt) (sx_spl iv k (sx_rng (sx_swp cd) c).2 kf))
  | .inr (0, k), .inr (0, j) => if Nat.beq k j = true then (if mm_P2 cd 0 0 then kt iv else kf iv) else sx_both (kt iv) (kf iv)
  | a, b => if sx_isI a && sx_isI b then sx_both (kt iv) (kf iv) else none
def sx_sw (iv : List (Nat × Nat)) (x : sx_V) (dflt lo hi : Int) (offs : Array Int) (kk : Int → List (Nat × Nat) → sx_R) : sx_R := match x with
  | .inl (.int a) => if a.toInt < lo ∨ hi < a.toInt then kk dflt iv else match offs[(a.toInt - lo).toNat]? with
    | some off => kk off iv
    | none => none
  | .inr (0, k) => if lo = 0 ∧ 0 ≤ hi ∧ hi < 1000 then sx_both (sx_spl iv k [(0, 2147483648), (2147483648 + hi.toNat + 1, sx_M)] (kk dflt))
      ((List.range (hi.toNat + 1)).foldr (fun j r => sx_both (match offs[j]? with
        | some off => sx_spl iv k [(2147483648 + j, 2147483648 + j + 1)] (kk off)
        | none => none) r) (some [])) else none
  | _ => none
def sx_rdK {β : Type} (up : List (Nat × sx_V)) (j : Nat) (df : sx_V) (k : sx_V → β) : β := match up with
  | [] => k df
  | (i, v) :: t => if Nat.beq i j = true then k v else sx_rdK t j df k
/-- each of a few things that an unknown can be -/
def sx_enum (S : sx_S) (k : Nat) : sx_R := match S.1[k]? with
  | some (lo, hi) => if Nat.ble hi (lo + 64) = true then some ((List.range (hi - lo)).map (fun j => (S.1.set k (lo + j, lo + j + 1), S.2))) else none
  | none => none
def sx_ld (iv : List (Nat × Nat)) (lv : List (Option sx_V)) (i : Nat) : Option sx_V := match lv[i]? with
  | some (some v) => some (sx_cn iv v)
  | _ => none
/-- a one-word value put into a place: a long ahead of it is no more -/
def sx_l1K {β : Type} (lv : List (Option sx_V)) (i : Nat) (v : sx_V) (k : List (Option sx_V) → β) : β := match i with
  | 0 => sx_setK lv 0 (some v) k
  | i + 1 => match lv[i]? with
    | some (some w) => if sx_isL w then sx_setK lv i none (fun lv => sx_setK lv (i + 1) (some v) k) else sx_setK lv (i + 1) (some v) k
    | _ => sx_setK lv (i + 1) (some v) k
def sx_l2K {β : Type} (lv : List (Option sx_V)) (i : Nat) (v : sx_V) (k : List (Option sx_V) → β) : β := sx_l1K lv i v (fun lv => sx_setK lv (i + 1) none k)
def sx_b2 (g : Int32 → Int32 → Int32) (st : List sx_V) (k : List sx_V → sx_R) : sx_R := match st with
  | .inl (.int y) :: .inl (.int x) :: r => sx_iK (g x y) (fun z => k (.inl (.int z) :: r))
  | a :: b :: r => if sx_isI a && sx_isI b then k (.inr (1, 0) :: r) else none
  | _ => none
def sx_and (st : List sx_V) (k : List sx_V → sx_R) : sx_R := match st with
  | .inl (.int y) :: .inr (0, j) :: r => if y = -1 then k (.inr (0, j) :: r) else if y = 63 ∧ Nat.beq j 0 = true then k (.inr (0, 6) :: r) else k (.inr (1, 0) :: r)
  | st => sx_b2 (fun x y => x &&& y) st k
def sx_div (g : Int32 → Int32 → Int32) (st : List sx_V) (k : List sx_V → sx_R) : sx_R := match st with
  | .inl (.int y) :: .inl (.int x) :: r => if y = 0 then none else sx_iK (g x y) (fun z => k (.inl (.int z) :: r))
  | .inl (.int y) :: b :: r => if y = 0 then none else if sx_isI b then k (.inr (1, 0) :: r) else none
  | _ => none
def sx_u1 (g : Int32 → Int32) (st : List sx_V) (k : List sx_V → sx_R) : sx_R := match st with
  | .inl (.int x) :: r => sx_iK (g x) (fun z => k (.inl (.int z) :: r))
  | a :: r => if sx_isI a then k (.inr (1, 0) :: r) else none
  | _ => none
def sx_l2 (g : Int64 → Int64 → Int64) (st : List sx_V) (k : List sx_V → sx_R) : sx_R := match st with
  | .inl (.long y) :: .inl (.long x) :: r => sx_lK (g x y) (fun z => k (.inl (.long z) :: r))
  | a :: b :: r => if sx_isL a && sx_isL b then k (.inr (2, 0) :: r) else none
  | _ => none
def sx_li (g : Int64 → Int32 → Int64) (st : List sx_V) (k : List sx_V → sx_R) : sx_R := match st with
  | .inl (.int y) :: .inl (.long x) :: r => sx_lK (g x y) (fun z => k (.inl (.long z) :: r))
  | a :: b :: r => if sx_isI a && sx_isL b then k (.inr (2, 0) :: r) else none
  | _ => none
def sx_cat (v : sx_V) : Nat := if sx_isL v then 2 else 1
def sx_args : List sx_V → List (Option sx_V)
  | [] => []
  | v :: vs => if sx_isL v then some v :: none :: sx_args vs else some v :: sx_args vs
def sx_pad (n : Nat) (l : List (Option sx_V)) : List (Option sx_V) := l ++ List.replicate (n - l.length) none
def sx_cats (l : List sx_V) : Nat := (l.map sx_cat).sum
/-- a value fits a field as it is -/
def sx_fit (ty : FieldType) (v : sx_V) : Bool := match v with
  | .inl v => decide (narrow ty v = v) && fits ty v
  | .inr (0, _) => decide (ty = .int)
  | .inr (1, _) => decide (ty = .int)
  | .inr (2, _) => decide (ty = .long)
  | _ => false
def sx_nar (ty : FieldType) (v : sx_V) : Option sx_V := match v with
  | .inl (.int x) => some (.inl (narrow ty (.int x)))
  | .inr (0, k) => if ty = .int then some (.inr (0, k)) else some (.inr (1, 0))
  | .inr (1, _) => some (.inr (1, 0))
  | _ => none
/-- a place in a row: known, or each of a few -/
def sx_ixK (S : sx_S) (j : sx_V) (len : Nat) (k : Nat → sx_R) : sx_R := match sx_cn S.1 j with
  | .inl (.int j) => if j < 0 ∨ len ≤ j.toNatClampNeg then none else sx_nK j.toNatClampNeg k
  | .inr (0, u) => sx_enum S u
  | _ => none
def sx_tyI (ins : Instr) (ty : FieldType) : Bool := match ins with
  | .iaload => decide (ty = .int)
  | .laload => decide (ty = .long)
  | .caload => decide (ty = .char)
  | .baload => decide (ty = .byte ∨ ty = .boolean)
  | .aaload => ty.isReference
  | .iastore => decide (ty = .int)
  | .castore => decide (ty = .char)
  | .bastore => decide (ty = .byte ∨ ty = .boolean)
  | _ => false
def sx_ald (S : sx_S) (ins : Instr) (len : Nat) (st : List sx_V) (mem : List sx_C) (k : List sx_V → sx_R) : sx_R := match st with
  | j :: .inl (.ref a) :: r => match mem[a]? with
    | some (.inl (ty, n, df, up)) => if len = 1 ∧ sx_tyI ins ty = true then sx_ixK S j n (fun j => sx_rdK up j df (fun v => k (v :: r))) else none
    | _ => none
  | _ => none
def sx_ast (S : sx_S) (kx : Nat) (ins : Instr) (len : Nat) (st : List sx_V) (mem : List sx_C) (k : List sx_C → List sx_V → sx_R) : sx_R := match st with
  | v :: j :: .inl (.ref a) :: r => match mem[a]? with
    | some (.inl (ty, n, df, up)) => match sx_nar ty v with
      | some w => if len = 1 ∧ sx_tyI ins ty = true ∧ Nat.ble kx a = true then sx_ixK S j n (fun j => sx_setK mem a (.inl (ty, n, df, (j, w) :: up)) (fun mem => k mem r)) else none
      | none => none
    | _ => none
  | _ => none
def sx_asta (S : sx_S) (kx : Nat) (len : Nat) (st : List sx_V) (mem : List sx_C) (k : List sx_C → List sx_V → sx_R) : sx_R := match st with
  | .inl (.ref b) :: j :: .inl (.ref a) :: r => match mem[a]?, mem[b]? with
    | some (.inl (.object C, n, df, up)), some (.inr (ci, fs)) => match vwCl[ci]? with
      | some q => if len = 1 ∧ q.1 = C ∧ Nat.ble kx a = true then sx_ixK S j n (fun j => sx_setK mem a (.inl (.object C, n, df, (j, .inl (.ref b)) :: up)) (fun mem => k mem r)) else none
      | none => none
    | _, _ => none
  | _ => none
def sx_get (len kd ci k : Nat) (st : List sx_V) (mem : List sx_C) (kk : List sx_V → sx_R) : sx_R := match st with
  | .inl (.ref a) :: r => match mem[a]? with
    | some (.inr (ci', fs)) => match fs[k]? with
      | some v => if len = 3 ∧ (kd = 0 ∨ kd = 1) ∧ ci' = ci then kk (v :: r) else none
      | none => none
    | _ => none
  | _ => none
def sx_put (o kx : Nat) (ini : Bool) (len kd ci k : Nat) (st : List sx_V) (mem : List sx_C) (kk : List sx_C → List sx_V → sx_R) : sx_R := match st with
  | v :: .inl (.ref a) :: r => match mem[a]? with
    | some (.inr (ci', fs)) => match vwCl[ci]? with
      | some q => if len = 3 ∧ ci' = ci ∧ Nat.ble kx a = true ∧ sx_fit (mm_ty ci k) v = true ∧ (((kd = 0 ∨ kd = 1) ∧ (q.2.1 k).2.2.2 = false) ∨ (kd = 0 ∧ (q.2.1 k).2.2.2 = true ∧ ini = true ∧ mm_cns[o]? = some (q.2.1 k).1)) then sx_setK fs k v (fun fs => sx_setK mem a (.inr (ci, fs)) (fun mem => kk mem r)) else none
      | none => none
    | _ => none
  | _ => none
def sx_cal (y : Nat) (S : sx_S) (kd len : Nat) (want : Nat) (pc : Nat) (tl : List sx_I) : sx_R := match S with
  | (iv, mem, (y0, full, _, lv, st, cb, sb), K) => match mm_mths[y]?, sx_cods[y]? with
    | some t, some code => if len = 3 ∧ (kd = 2 ∨ kd = 3) ∧ t.2.2.2.2.2.2.1 = want ∧ Nat.ble (mm_bud y).1 cb = true ∧ Nat.ble (mm_bud y).2 sb = true ∧ K.length < 60 then
        match st.drop t.2.2.2.2.2.1 with
        | rs => if want = 0 then (if t.2.2.2.2.2.1 ≤ st.length ∧ sx_cats rs ≤ 8 ∧ (sx_args (st.take t.2.2.2.2.2.1).reverse).length ≤ t.2.2.2.1 then sx_nx tl full (pc + 3) (fun cs => some [(iv, mem, (y, code, code, sx_pad t.2.2.2.1 (sx_args (st.take t.2.2.2.2.2.1).reverse), [], (mm_bud y).1, (mm_bud y).2), (y0, full, cs, lv, rs, cb - (mm_bud y).1, sb - (mm_bud y).2) :: K)]) else none)
          else match rs with
          | .inl (.ref a) :: r => match mem[a]? with
            | some (.inr (ci, _)) => if sx_cats r ≤ 8 ∧ (want = 1 → ci = t.1) ∧ (want = 2 → t.2.2.2.2.1 = none) ∧ (sx_args (.inl (.ref a) :: (st.take t.2.2.2.2.2.1).reverse)).length ≤ t.2.2.2.1 then sx_nx tl full (pc + 3) (fun cs => some [(iv, mem, (y, code, code, sx_pad t.2.2.2.1 (sx_args (.inl (.ref a) :: (st.take t.2.2.2.2.2.1).reverse)), [], (mm_bud y).1, (mm_bud y).2), (y0, full, cs, lv, r, cb - (mm_bud y).1, sb - (mm_bud y).2) :: K)]) else none
            | _ => none
          | _ => none
      else none
    | _, _ => none
def sx_fi (y : Nat) : mm_Fi := match mm_mths[y]? with
  | some t => mm_fi t
  | none => (13, code, 4, false)
def sx_rok (ty : FieldType) (v : sx_V) : Bool := match v with
  | .inl (.int x) => decide (narrow ty (.int x) = .int x)
  | .inr (0, _) => decide (ty = .int)
  | .inr (1, _) => decide (ty = .int)
  | _ => false
def sx_ret (iv : List (Nat × Nat)) (mem : List sx_C) (y : Nat) (ins : Instr) (len : Nat) (st : List sx_V) (K : List sx_F) : sx_R := match K with
  | [] => match ins, st with
    | .ireturn, [.inl (.int v)] => if len = 1 ∧ v = 1 ∧ mm_mths[y]? = none then some [] else none
    | _, _ => none
  | (y', full', cs', lv', st', cb', sb') :: K' => match mm_mths[y]? with
    | some t => match ins, t.2.2.2.2.1, st with
      | .ireturn, some ty, [v] => if len = 1 ∧ sx_rok ty v = true then some [(iv, mem, (y', full', cs', lv', v :: st', cb', sb'), K')] else none
      | .areturn, some (.object _), [.inl (.ref a)] => if len = 1 then some [(iv, mem, (y', full', cs', lv', .inl (.ref a) :: st', cb', sb'), K')] else none
      | .return_, none, [] => if len = 1 then some [(iv, mem, (y', full', cs', lv', st', cb', sb'), K')] else none
      | _, _, _ => none
    | none => none
def sx_isB (ins : Instr) : Option (Int32 → Int32 → Int32) := match ins with
  | .iadd => some (fun x y => x + y)
  | .isub => some (fun x y => x - y)
  | .imul => some (fun x y => x * y)
  | .ior => some (fun x y => x ||| y)
  | .ixor => some (fun x y => x ^^^ y)
  | .ishl => some (fun x y => x <<< (y &&& 31))
  | .ishr => some (fun x y => x >>> (y &&& 31))
  | .iushr => some (fun x y => (x.toUInt32 >>> (y.toUInt32 &&& Int32.toUInt32 31)).toInt32)
  | _ => none
def sx_step (kx : Nat) (zs : List mm_Zt) (S : sx_S) : sx_R := match S with
  | (iv, mem, (y, full, cs, lv, st, cb, sb), K) => match cs with
    | [] => none
    | (pc, ins, len, kd, a, b, z) :: tl => match ins with
      | .iconst n => if len = 1 then sx_iK (Int32.ofInt n) (fun x => sx_go iv mem y full tl lv (.inl (.int x) :: st) cb sb K (pc + 1)) else none
      | .bipush n => if len = 2 then sx_iK (Int8.ofInt n).toInt32 (fun x => sx_go iv mem y full tl lv (.inl (.int x) :: st) cb sb K (pc + 2)) else none
      | .sipush n => if len = 3 then sx_iK (Int16.ofInt n).toInt32 (fun x => sx_go iv mem y full tl lv (.inl (.int x) :: st) cb sb K (pc + 3)) else none
      | .lconst n => if len = 1 then sx_go iv mem y full tl lv (.inl (.long (Int64.ofNat n)) :: st) cb sb K (pc + 1) else none
      | .iload_n i => match sx_ld iv lv i.val with
        | some v => if len = 1 ∧ sx_isI v = true then sx_go iv mem y full tl lv (v :: st) cb sb K (pc + 1) else none
        | none => none
      | .iload i => match sx_ld iv lv i with
        | some v => if len = 2 ∧ sx_isI v = true then sx_go iv mem y full tl lv (v :: st) cb sb K (pc + 2) else none
        | none => none
      | .lload_n i => match sx_ld iv lv i.val with
        | some v => if len = 1 ∧ sx_isL v = true then sx_go iv mem y full tl lv (v :: st) cb sb K (pc + 1) else none
        | none => none
      | .lload i => match sx_ld iv lv i with
        | some v => if len = 2 ∧ sx_isL v = true then sx_go iv mem y full tl lv (v :: st) cb sb K (pc + 2) else none
        | none => none
      | .aload_n i => match sx_ld iv lv i.val with
        | some (.inl (.ref q)) => if len = 1 then sx_go iv mem y full tl lv (.inl (.ref q) :: st) cb sb K (pc + 1) else none
        | _ => none
      | .aload i => match sx_ld iv lv i with
        | some (.inl (.ref q)) => if len = 2 then sx_go iv mem y full tl lv (.inl (.ref q) :: st) cb sb K (pc + 2) else none
        | _ => none
      | .istore_n i => match st with
        | v :: r => if len = 1 ∧ sx_isI v = true ∧ i.val < lv.length then sx_l1K lv i.val v (fun lv => sx_go iv mem y full tl lv r cb sb K (pc + 1)) else none
        | [] => none
      | .istore i => match st with
        | v :: r => if len = 2 ∧ sx_isI v = true ∧ i < lv.length then sx_l1K lv i v (fun lv => sx_go iv mem y full tl lv r cb sb K (pc + 2)) else none
        | [] => none
      | .astore_n i => match st with
        | .inl (.ref q) :: r => if len = 1 ∧ i.val < lv.length then sx_l1K lv i.val (.inl (.ref q)) (fun lv => sx_go iv mem y full tl lv r cb sb K (pc + 1)) else none
        | _ => none
      | .astore i => match st with
        | .inl (.ref q) :: r => if len = 2 ∧ i < lv.length then sx_l1K lv i (.inl (.ref q)) (fun lv => sx_go iv mem y full tl lv r cb sb K (pc + 2)) else none
        | _ => none
      | .iinc i n => match sx_ld iv lv i with
        | some (.inl (.int x)) => if len = 3 ∧ i < lv.length then sx_iK (x + Int32.ofInt n) (fun x => sx_l1K lv i (.inl (.int x)) (fun lv => sx_go iv mem y full tl lv st cb sb K (pc + 3))) else none
        | _ => none
      | .iand => if len = 1 then sx_and st (fun st => sx_go iv mem y full tl lv st cb sb K (pc + 1)) else none
      | .idiv => if len = 1 then sx_div (fun x y => x / y) st (fun st => sx_go iv mem y full tl lv st cb sb K (pc + 1)) else none
      | .irem => if len = 1 then sx_div (fun x y => x - x / y * y) st (fun st => sx_go iv mem y full tl lv st cb sb K (pc + 1)) else none
      | .ineg => if len = 1 then sx_u1 (fun x => -x) st (fun st => sx_go iv mem y full tl lv st cb sb K (pc + 1)) else none
      | .i2b => if len = 1 then sx_u1 (fun x => x.toInt8.toInt32) st (fun st => sx_go iv mem y full tl lv st cb sb K (pc + 1)) else none
      | .i2s => if len = 1 then sx_u1 (fun x => x.toInt16.toInt32) st (fun st => sx_go iv mem y full tl lv st cb sb K (pc + 1)) else none
      | .land => if len = 1 then sx_l2 (fun x y => x &&& y) st (fun st => sx_go iv mem y full tl lv st cb sb K (pc + 1)) else none
      | .lor => if len = 1 then sx_l2 (fun x y => x ||| y) st (fun st => sx_go iv mem y full tl lv st cb sb K (pc + 1)) else none
      | .lshl => if len = 1 then sx_li (fun x y => x <<< (y.toInt64 &&& 63)) st (fun st => sx_go iv mem y full tl lv st cb sb K (pc + 1)) else none
      | .lshr => if len = 1 then sx_li (fun x y => x >>> (y.toInt64 &&& 63)) st (fun st => sx_go iv mem y full tl lv st cb sb K (pc + 1)) else none
      | .i2l => match st with
        | .inl (.int x) :: r => if len = 1 then sx_lK x.toInt64 (fun x => sx_go iv mem y full tl lv (.inl (.long x) :: r) cb sb K (pc + 1)) else none
        | v :: r => if len = 1 ∧ sx_isI v = true then sx_go iv mem y full tl lv (.inr (2, 0) :: r) cb sb K (pc + 1) else none
        | [] => none
      | .l2i => match st with
        | v :: r => if len = 1 ∧ sx_isL v = true then sx_go iv mem y full tl lv (.inr (1, 0) :: r) cb sb K (pc + 1) else none
        | [] => none
      | .goto off => match mm_tgt pc off with
        | some t => if len = 3 then sx_go iv mem y full tl lv st cb sb K t else none
        | none => none
      | .ifCond cd off => match mm_tgt pc off, st with
        | some t, v :: r => if len = 3 then sx_cmp iv cd (sx_cn iv v) (.inl (.int 0)) (fun iv => sx_go iv mem y full tl lv r cb sb K t) (fun iv => sx_go iv mem y full tl lv r cb sb K (pc + 3)) else none
        | _, _ => none
      | .if_icmp cd off => match mm_tgt pc off, st with
        | some t, w :: v :: r => if len = 3 then sx_cmp iv cd (sx_cn iv v) (sx_cn iv w) (fun iv => sx_go iv mem y full tl lv r cb sb K t) (fun iv => sx_go iv mem y full tl lv r cb sb K (pc + 3)) else none
        | _, _ => none
      | .tableswitch dflt lo hi offs => match st with
        | v :: r => sx_sw iv (sx_cn iv v) dflt lo hi offs (fun off iv => match mm_tgt pc off with
          | some t => sx_go iv mem y full tl lv r cb sb K t
          | none => none)
        | [] => none
      | .dup => match st with
        | v :: r => if len = 1 ∧ sx_cat v = 1 then sx_go iv mem y full tl lv (v :: v :: r) cb sb K (pc + 1) else none
        | [] => none
      | .pop => match st with
        | v :: r => if len = 1 ∧ sx_cat v = 1 then sx_go iv mem y full tl lv r cb sb K (pc + 1) else none
        | [] => none
      | .dup2 => match st with
        | v :: w :: r => if len = 1 ∧ sx_cat v = 1 ∧ sx_cat w = 1 then sx_go iv mem y full tl lv (v :: w :: v :: w :: r) cb sb K (pc + 1) else none
        | _ => none
      | .getfield _ => sx_get len kd a b st mem (fun st => sx_go iv mem y full tl lv st cb sb K (pc + 3))
      | .putfield _ => sx_put (sx_fi y).1 kx (sx_fi y).2.2.2 len kd a b st mem (fun mem st => sx_go iv mem y full tl lv st cb sb K (pc + 3))
      | .arraylength => match st with
        | .inl (.ref q) :: r => match mem[q]? with
          | some (.inl (ty, n, df, up)) => if len = 1 then sx_iK (Int32.ofNat n) (fun x => sx_go iv mem y full tl lv (.inl (.int x) :: r) cb sb K (pc + 1)) else none
          | _ => none
        | _ => none
      | .ldc _ => if len = 2 ∧ kd = 6 then sx_iK (Int32.ofInt z) (fun x => sx_go iv mem y full tl lv (.inl (.int x) :: st) cb sb K (pc + 2)) else none
      | .ldc_w _ => if len = 3 ∧ kd = 6 then sx_iK (Int32.ofInt z) (fun x => sx_go iv mem y full tl lv (.inl (.int x) :: st) cb sb K (pc + 3)) else none
      | .ldc2_w _ => if len = 3 ∧ kd = 7 then sx_lK (Int64.ofInt z) (fun x => sx_go iv mem y full tl lv (.inl (.long x) :: st) cb sb K (pc + 3)) else none
      | .getstatic _ => match mm_sts[a]? with
        | some q => match zs.find? (fun t => decide (t.1 = q.1 ∧ t.2.1 = q.2.1 ∧ t.2.2.1 = q.2.2)) with
          | some t => if len = 3 ∧ (kd = 10 ∨ kd = 11) then sx_go iv mem y full tl lv (.inl t.2.2.2 :: st) cb sb K (pc + 3) else none
          | none => none
        | none => none
      | .new _ => match vwCl[a]? with
        | some q => if len = 3 ∧ kd = 4 ∧ 1 ≤ cb ∧ q.2.2 ≤ sb then sx_nK mem.length (fun n => sx_nK (cb - 1) (fun cb => sx_nK (sb - q.2.2) (fun sb => sx_appK mem (.inr (a, (List.range q.2.2).map (fun k => .inl (defaultValue (mm_ty a k))))) (fun mem => sx_go iv mem y full tl lv (.inl (.ref n) :: st) cb sb K (pc + 3))))) else none
        | none => none
      | .newarray at_ => match st with
        | .inl (.int n) :: r => if len = 2 ∧ (newarray.typeOf at_ = .int ∨ newarray.typeOf at_ = .long ∨ newarray.typeOf at_ = .byte ∨ newarray.typeOf at_ = .char ∨ newarray.typeOf at_ = .boolean) ∧ ¬ n < 0 ∧ n.toNatClampNeg ≤ 10000 ∧ 1 ≤ cb ∧ n.toNatClampNeg ≤ sb then sx_nK mem.length (fun q => sx_nK n.toNatClampNeg (fun n => sx_nK (cb - 1) (fun cb => sx_nK (sb - n) (fun sb => sx_appK mem (.inl (newarray.typeOf at_, n, .inl (defaultValue (newarray.typeOf at_)), [])) (fun mem => sx_go iv mem y full tl lv (.inl (.ref q) :: r) cb sb K (pc + 2)))))) else none
        | _ => none
      | .anewarray _ => match st with
        | .inl (.int n) :: r => match vwCl[a]? with
          | some q => if len = 3 ∧ kd = 4 ∧ (q.1 = "RaftTown$Raft" ∨ q.1 = "RaftTown$Person" ∨ q.1 = "RaftTown$Rope" ∨ q.1 = "RaftTown$Text" ∨ q.1 = "RaftTown$Sheet") ∧ ¬ n < 0 ∧ n.toNatClampNeg ≤ 10000 ∧ 1 ≤ cb ∧ n.toNatClampNeg ≤ sb then sx_nK mem.length (fun p => sx_nK n.toNatClampNeg (fun n => sx_nK (cb - 1) (fun cb => sx_nK (sb - n) (fun sb => sx_appK mem (.inl (.object q.1, n, .inl .null, [])) (fun mem => sx_go iv mem y full tl lv (.inl (.ref p) :: r) cb sb K (pc + 3)))))) else none
          | none => none
        | _ => none
      | .invokevirtual _ => sx_cal a S kd len 1 pc tl
      | .invokespecial _ => if kd = 8 then (match st with
          | .inl (.ref _) :: r => if len = 3 ∧ sx_cats r ≤ 8 then sx_go iv mem y full tl lv r cb sb K (pc + 3) else none
          | _ => none) else sx_cal a S kd len 2 pc tl
      | .invokestatic _ => if kd = 13 then (match st with
          | .inl (.int v) :: .inl (.int u) :: r => if len = 3 ∧ sx_cats r ≤ 8 then sx_iK (if u < v then v else u) (fun x => sx_go iv mem y full tl lv (.inl (.int x) :: r) cb sb K (pc + 3)) else none
          | _ => none)
        else if kd = 14 then (match st with
          | .inl (.int v) :: .inl (.int u) :: r => if len = 3 ∧ sx_cats r ≤ 8 then sx_iK (if v < u then v else u) (fun x => sx_go iv mem y full tl lv (.inl (.int x) :: r) cb sb K (pc + 3)) else none
          | _ => none)
        else if kd = 9 then (match st with
          | .inl (.int n) :: .inl (.int dp) :: .inl (.ref d) :: .inl (.int sp) :: .inl (.ref s) :: r => match mem[s]?, mem[d]? with
            | some (.inl (ty, m, df, up)), some (.inl (ty', m', df', up')) => if len = 3 ∧ sx_cats r ≤ 8 ∧ Nat.ble kx s = true ∧ Nat.ble kx d = true ∧ ty = .int ∧ ty' = .int ∧ sp = 0 ∧ dp = 0 ∧ ¬ n < 0 ∧ n.toNatClampNeg = m ∧ m' = m ∧ sx_isI df = true ∧ up.all (fun e => sx_isI e.2) = true then sx_setK mem d (.inl (ty, m, df, up)) (fun mem => sx_go iv mem y full tl lv r cb sb K (pc + 3)) else none
            | _, _ => none
          | _ => none)
        else sx_cal a S kd len 0 pc tl
      | .ireturn => sx_ret iv mem y ins len st K
      | .areturn => sx_ret iv mem y ins len st K
      | .return_ => sx_ret iv mem y ins len st K
      | .iaload => sx_ald S ins len st mem (fun st => sx_go iv mem y full tl lv st cb sb K (pc + 1))
      | .caload => sx_ald S ins len st mem (fun st => sx_go iv mem y full tl lv st cb sb K (pc + 1))
      | .baload => sx_ald S ins len st mem (fun st => sx_go iv mem y full tl lv st cb sb K (pc + 1))
      | .aaload => sx_ald S ins len st mem (fun st => sx_go iv mem y full tl lv st cb sb K (pc + 1))
      | .iastore => sx_ast S kx ins len st mem (fun mem st => sx_go iv mem y full tl lv st cb sb K (pc + 1))
      | .castore => sx_ast S kx ins len st mem (fun mem st => sx_go iv mem y full tl lv st cb sb K (pc + 1))
      | .bastore => sx_ast S kx ins len st mem (fun mem st => sx_go iv mem y full tl lv st cb sb K (pc + 1))
      | .aastore => sx_asta S kx len st mem (fun mem st => sx_go iv mem y full tl lv st cb sb K (pc + 1))
      | ins => match sx_isB ins with
        | some g => if len = 1 then sx_b2 g st (fun st => sx_go iv mem y full tl lv st cb sb K (pc + 1)) else none
        | none => none
/-- 2^k steps over the ways that are left -/
def sx_it (kx : Nat) (zs : List mm_Zt) : Nat → List sx_S → sx_R
  | 0, [] => some []
  | 0, S :: r => match sx_step kx zs S with
    | some l => some (l ++ r)
    | none => none
  | k + 1, w => match sx_it kx zs k w with
    | some [] => some []
    | some (S :: r) => sx_it kx zs k (S :: r)
    | none => none
end
section
/-! ===== printed by wip/gen_fast.py: the step, an instruction a function ===== -/
def sx_f_iconst (n : Int) (kx : Nat) (zs : List mm_Zt) (iv : List (Nat × Nat)) (mem : List sx_C) (y : Nat) (full tl : List sx_I) (lv : List (Option sx_V)) (st : List sx_V) (cb sb : Nat) (K : List sx_F) (pc len kd a b : Nat) (z : Int) : sx_R := if len = 1 then sx_iK (Int32.ofInt n) (fun x => sx_go iv mem y full tl lv (.inl (.int x) :: st) cb sb K (pc + 1)) else none
def sx_f_bipush (n : Int) (kx : Nat) (zs : List mm_Zt) (iv : List (Nat × Nat)) (mem : List sx_C) (y : Nat) (full tl : List sx_I) (lv : List (Option sx_V)) (st : List sx_V) (cb sb : Nat) (K : List sx_F) (pc len kd a b : Nat) (z : Int) : sx_R := if len = 2 then sx_iK (Int8.ofInt n).toInt32 (fun x => sx_go iv mem y full tl lv (.inl (.int x) :: st) cb sb K (pc + 2)) else none
def sx_f_sipush (n : Int) (kx : Nat) (zs : List mm_Zt) (iv : List (Nat × Nat)) (mem : List sx_C) (y : Nat) (full tl : List sx_I) (lv : List (Option sx_V)) (st : List sx_V) (cb sb : Nat) (K : List sx_F) (pc len kd a b : Nat) (z : Int) : sx_R := if len = 3 then sx_iK (Int16.ofInt n).toInt32 (fun x => sx_go iv mem y full tl lv (.inl (.int x) :: st) cb sb K (pc + 3)) else none
def sx_f_lconst (n : Fin 2) (kx : Nat) (zs : List mm_Zt) (iv : List (Nat × Nat)) (mem : List sx_C) (y : Nat) (full tl : List sx_I) (lv : List (Option sx_V)) (st : List sx_V) (cb sb : Nat) (K : List sx_F) (pc len kd a b : Nat) (z : Int) : sx_R := if len = 1 then sx_go iv mem y full tl lv (.inl (.long (Int64.ofNat n)) :: st) cb sb K (pc + 1) else none
def sx_f_iload_n (i : Fin 4) (kx : Nat) (zs : List mm_Zt) (iv : List (Nat × Nat)) (mem : List sx_C) (y : Nat) (full tl : List sx_I) (lv : List (Option sx_V)) (st : List sx_V) (cb sb : Nat) (K : List sx_F) (pc len kd a b : Nat) (z : Int) : sx_R := match sx_ld iv lv i.val with
        | some v => if len = 1 ∧ sx_isI v = true then sx_go iv mem y full tl lv (v :: st) cb sb K (pc + 1) else none
        | none => none
def sx_f_iload (i : Nat) (kx : Nat) (zs : List mm_Zt) (iv : List (Nat × Nat)) (mem : List sx_C) (y : Nat) (full tl : List sx_I) (lv : List (Option sx_V)) (st : List sx_V) (cb sb : Nat) (K : List sx_F) (pc len kd a b : Nat) (z : Int) : sx_R := match sx_ld iv lv i with
        | some v => if len = 2 ∧ sx_isI v = true then sx_go iv mem y full tl lv (v :: st) cb sb K (pc + 2) else none
        | none => none
def sx_f_lload_n (i : Fin 4) (kx : Nat) (zs : List mm_Zt) (iv : List (Nat × Nat)) (mem : List sx_C) (y : Nat) (full tl : List sx_I) (lv : List (Option sx_V)) (st : List sx_V) (cb sb : Nat) (K : List sx_F) (pc len kd a b : Nat) (z : Int) : sx_R := match sx_ld iv lv i.val with
        | some v => if len = 1 ∧ sx_isL v = true then sx_go iv mem y full tl lv (v :: st) cb sb K (pc + 1) else none
        | none => none
def sx_f_lload (i : Nat) (kx : Nat) (zs : List mm_Zt) (iv : List (Nat × Nat)) (mem : List sx_C) (y : Nat) (full tl : List sx_I) (lv : List (Option sx_V)) (st : List sx_V) (cb sb : Nat) (K : List sx_F) (pc len kd a b : Nat) (z : Int) : sx_R := match sx_ld iv lv i with
        | some v => if len = 2 ∧ sx_isL v = true then sx_go iv mem y full tl lv (v :: st) cb sb K (pc + 2) else none
        | none => none
def sx_f_aload_n (i : Fin 4) (kx : Nat) (zs : List mm_Zt) (iv : List (Nat × Nat)) (mem : List sx_C) (y : Nat) (full tl : List sx_I) (lv : List (Option sx_V)) (st : List sx_V) (cb sb : Nat) (K : List sx_F) (pc len kd a b : Nat) (z : Int) : sx_R := match sx_ld iv lv i.val with
        | some (.inl (.ref q)) => if len = 1 then sx_go iv mem y full tl lv (.inl (.ref q) :: st) cb sb K (pc + 1) else none
        | _ => none
def sx_f_aload (i : Nat) (kx : Nat) (zs : List mm_Zt) (iv : List (Nat × Nat)) (mem : List sx_C) (y : Nat) (full tl : List sx_I) (lv : List (Option sx_V)) (st : List sx_V) (cb sb : Nat) (K : List sx_F) (pc len kd a b : Nat) (z : Int) : sx_R := match sx_ld iv lv i with
        | some (.inl (.ref q)) => if len = 2 then sx_go iv mem y full tl lv (.inl (.ref q) :: st) cb sb K (pc + 2) else none
        | _ => none
def sx_f_istore_n (i : Fin 4) (kx : Nat) (zs : List mm_Zt) (iv : List (Nat × Nat)) (mem : List sx_C) (y : Nat) (full tl : List sx_I) (lv : List (Option sx_V)) (st : List sx_V) (cb sb : Nat) (K : List sx_F) (pc len kd a b : Nat) (z : Int) : sx_R := match st with
        | v :: r => if len = 1 ∧ sx_isI v = true ∧ i.val < lv.length then sx_l1K lv i.val v (fun lv => sx_go iv mem y full tl lv r cb sb K (pc + 1)) else none
        | [] => none
def sx_f_istore (i : Nat) (kx : Nat) (zs : List mm_Zt) (iv : List (Nat × Nat)) (mem : List sx_C) (y : Nat) (full tl : List sx_I) (lv : List (Option sx_V)) (st : List sx_V) (cb sb : Nat) (K : List sx_F) (pc len kd a b : Nat) (z : Int) : sx_R := match st with
        | v :: r => if len = 2 ∧ sx_isI v = true ∧ i < lv.length then sx_l1K lv i v (fun lv => sx_go iv mem y full tl lv r cb sb K (pc + 2)) else none
        | [] => none
def sx_f_astore_n (i : Fin 4) (kx : Nat) (zs : List mm_Zt) (iv : List (Nat × Nat)) (mem : List sx_C) (y : Nat) (full tl : List sx_I) (lv : List (Option sx_V)) (st : List sx_V) (cb sb : Nat) (K : List sx_F) (pc len kd a b : Nat) (z : Int) : sx_R := match st with
        | .inl (.ref q) :: r => if len = 1 ∧ i.val < lv.length then sx_l1K lv i.val (.inl (.ref q)) (fun lv => sx_go iv mem y full tl lv r cb sb K (pc + 1)) else none
        | _ => none
def sx_f_astore (i : Nat) (kx : Nat) (zs : List mm_Zt) (iv : List (Nat × Nat)) (mem : List sx_C) (y : Nat) (full tl : List sx_I) (lv : List (Option sx_V)) (st : List sx_V) (cb sb : Nat) (K : List sx_F) (pc len kd a b : Nat) (z : Int) : sx_R := match st with
        | .inl (.ref q) :: r => if len = 2 ∧ i < lv.length then sx_l1K lv i (.inl (.ref q)) (fun lv => sx_go iv mem y full tl lv r cb sb K (pc + 2)) else none
        | _ => none
def sx_f_iinc (i : Nat) (n : Int) (kx : Nat) (zs : List mm_Zt) (iv : List (Nat × Nat)) (mem : List sx_C) (y : Nat) (full tl : List sx_I) (lv : List (Option sx_V)) (st : List sx_V) (cb sb : Nat) (K : List sx_F) (pc len kd a b : Nat) (z : Int) : sx_R := match sx_ld iv lv i with
        | some (.inl (.int x)) => if len = 3 ∧ i < lv.length then sx_iK (x + Int32.ofInt n) (fun x => sx_l1K lv i (.inl (.int x)) (fun lv => sx_go iv mem y full tl lv st cb sb K (pc + 3))) else none
        | _ => none
def sx_f_iand  (kx : Nat) (zs : List mm_Zt) (iv : List (Nat × Nat)) (mem : List sx_C) (y : Nat) (full tl : List sx_I) (lv : List (Option sx_V)) (st : List sx_V) (cb sb : Nat) (K : List sx_F) (pc len kd a b : Nat) (z : Int) : sx_R := if len = 1 then sx_and st (fun st => sx_go iv mem y full tl lv st cb sb K (pc + 1)) else none
def sx_f_idiv  (kx : Nat) (zs : List mm_Zt) (iv : List (Nat × Nat)) (mem : List sx_C) (y : Nat) (full tl : List sx_I) (lv : List (Option sx_V)) (st : List sx_V) (cb sb : Nat) (K : List sx_F) (pc len kd a b : Nat) (z : Int) : sx_R := if len = 1 then sx_div (fun x y => x / y) st (fun st => sx_go iv mem y full tl lv st cb sb K (pc + 1)) else none
def sx_f_irem  (kx : Nat) (zs : List mm_Zt) (iv : List (Nat × Nat)) (mem : List sx_C) (y : Nat) (full tl : List sx_I) (lv : List (Option sx_V)) (st : List sx_V) (cb sb : Nat) (K : List sx_F) (pc len kd a b : Nat) (z : Int) : sx_R := if len = 1 then sx_div (fun x y => x - x / y * y) st (fun st => sx_go iv mem y full tl lv st cb sb K (pc + 1)) else none
def sx_f_ineg  (kx : Nat) (zs : List mm_Zt) (iv : List (Nat × Nat)) (mem : List sx_C) (y : Nat) (full tl : List sx_I) (lv : List (Option sx_V)) (st : List sx_V) (cb sb : Nat) (K : List sx_F) (pc len kd a b : Nat) (z : Int) : sx_R := if len = 1 then sx_u1 (fun x => -x) st (fun st => sx_go iv mem y full tl lv st cb sb K (pc + 1)) else none
def sx_f_i2b  (kx : Nat) (zs : List mm_Zt) (iv : List (Nat × Nat)) (mem : List sx_C) (y : Nat) (full tl : List sx_I) (lv : List (Option sx_V)) (st : List sx_V) (cb sb : Nat) (K : List sx_F) (pc len kd a b : Nat) (z : Int) : sx_R := if len = 1 then sx_u1 (fun x => x.toInt8.toInt32) st (fun st => sx_go iv mem y full tl lv st cb sb K (pc + 1)) else none
def sx_f_i2s  (kx : Nat) (zs : List mm_Zt) (iv : List (Nat × Nat)) (mem : List sx_C) (y : Nat) (full tl : List sx_I) (lv : List (Option sx_V)) (st : List sx_V) (cb sb : Nat) (K : List sx_F) (pc len kd a b : Nat) (z : Int) : sx_R := if len = 1 then sx_u1 (fun x => x.toInt16.toInt32) st (fun st => sx_go iv mem y full tl lv st cb sb K (pc + 1)) else none
def sx_f_land  (kx : Nat) (zs : List mm_Zt) (iv : List (Nat × Nat)) (mem : List sx_C) (y : Nat) (full tl : List sx_I) (lv : List (Option sx_V)) (st : List sx_V) (cb sb : Nat) (K : List sx_F) (pc len kd a b : Nat) (z : Int) : sx_R := if len = 1 then sx_l2 (fun x y => x &&& y) st (fun st => sx_go iv mem y full tl lv st cb sb K (pc + 1)) else none
def sx_f_lor  (kx : Nat) (zs : List mm_Zt) (iv : List (Nat × Nat)) (mem : List sx_C) (y : Nat) (full tl : List sx_I) (lv : List (Option sx_V)) (st : List sx_V) (cb sb : Nat) (K : List sx_F) (pc len kd a b : Nat) (z : Int) : sx_R := if len = 1 then sx_l2 (fun x y => x ||| y) st (fun st => sx_go iv mem y full tl lv st cb sb K (pc + 1)) else none
def sx_f_lshl  (kx : Nat) (zs : List mm_Zt) (iv : List (Nat × Nat)) (mem : List sx_C) (y : Nat) (full tl : List sx_I) (lv : List (Option sx_V)) (st : List sx_V) (cb sb : Nat) (K : List sx_F) (pc len kd a b : Nat) (z : Int) : sx_R := if len = 1 then sx_li (fun x y => x <<< (y.toInt64 &&& 63)) st (fun st => sx_go iv mem y full tl lv st cb sb K (pc + 1)) else none
def sx_f_lshr  (kx : Nat) (zs : List mm_Zt) (iv : List (Nat × Nat)) (mem : List sx_C) (y : Nat) (full tl : List sx_I) (lv : List (Option sx_V)) (st : List sx_V) (cb sb : Nat) (K : List sx_F) (pc len kd a b : Nat) (z : Int) : sx_R := if len = 1 then sx_li (fun x y => x >>> (y.toInt64 &&& 63)) st (fun st => sx_go iv mem y full tl lv st cb sb K (pc + 1)) else none
def sx_f_i2l  (kx : Nat) (zs : List mm_Zt) (iv : List (Nat × Nat)) (mem : List sx_C) (y : Nat) (full tl : List sx_I) (lv : List (Option sx_V)) (st : List sx_V) (cb sb : Nat) (K : List sx_F) (pc len kd a b : Nat) (z : Int) : sx_R := match st with
        | .inl (.int x) :: r => if len = 1 then sx_lK x.toInt64 (fun x => sx_go iv mem y full tl lv (.inl (.long x) :: r) cb sb K (pc + 1)) else none
        | v :: r => if len = 1 ∧ sx_isI v = true then sx_go iv mem y full tl lv (.inr (2, 0) :: r) cb sb K (pc + 1) else none
        | [] => none
def sx_f_l2i  (kx : Nat) (zs : List mm_Zt) (iv : List (Nat × Nat)) (mem : List sx_C) (y : Nat) (full tl : List sx_I) (lv : List (Option sx_V)) (st : List sx_V) (cb sb : Nat) (K : List sx_F) (pc len kd a b : Nat) (z : Int) : sx_R := match st with
        | v :: r => if len = 1 ∧ sx_isL v = true then sx_go iv mem y full tl lv (.inr (1, 0) :: r) cb sb K (pc + 1) else none
        | [] => none
def sx_f_goto (off : Int) (kx : Nat) (zs : List mm_Zt) (iv : List (Nat × Nat)) (mem : List sx_C) (y : Nat) (full tl : List sx_I) (lv : List (Option sx_V)) (st : List sx_V) (cb sb : Nat) (K : List sx_F) (pc len kd a b : Nat) (z : Int) : sx_R := match mm_tgt pc off with
        | some t => if len = 3 then sx_go iv mem y full tl lv st cb sb K t else none
        | none => none
def sx_f_ifCond (cd : Jvm.ClassFile.Cond) (off : Int) (kx : Nat) (zs : List mm_Zt) (iv : List (Nat × Nat)) (mem : List sx_C) (y : Nat) (full tl : List sx_I) (lv : List (Option sx_V)) (st : List sx_V) (cb sb : Nat) (K : List sx_F) (pc len kd a b : Nat) (z : Int) : sx_R := match mm_tgt pc off, st with
        | some t, v :: r => if len = 3 then sx_cmp iv cd (sx_cn iv v) (.inl (.int 0)) (fun iv => sx_go iv mem y full tl lv r cb sb K t) (fun iv => sx_go iv mem y full tl lv r cb sb K (pc + 3)) else none
        | _, _ => none
def sx_f_if_icmp (cd : Jvm.ClassFile.Cond) (off : Int) (kx : Nat) (zs : List mm_Zt) (iv : List (Nat × Nat)) (mem : List sx_C) (y : Nat) (full tl : List sx_I) (lv : List (Option sx_V)) (st : List sx_V) (cb sb : Nat) (K : List sx_F) (pc len kd a b : Nat) (z : Int) : sx_R := match mm_tgt pc off, st with
        | some t, w :: v :: r => if len = 3 then sx_cmp iv cd (sx_cn iv v) (sx_cn iv w) (fun iv => sx_go iv mem y full tl lv r cb sb K t) (fun iv => sx_go iv mem y full tl lv r cb sb K (pc + 3)) else none
        | _, _ => none
def sx_f_tableswitch (dflt : Int) (lo : Int) (hi : Int) (offs : Array Int) (kx : Nat) (zs : List mm_Zt) (iv : List (Nat × Nat)) (mem : List sx_C) (y : Nat) (full tl : List sx_I) (lv : List (Option sx_V)) (st : List sx_V) (cb sb : Nat) (K : List sx_F) (pc len kd a b : Nat) (z : Int) : sx_R := match st with
        | v :: r => sx_sw iv (sx_cn iv v) dflt lo hi offs (fun off iv => match mm_tgt pc off with
          | some t => sx_go iv mem y full tl lv r cb sb K t
          | none => none)
        | [] => none
def sx_f_dup  (kx : Nat) (zs : List mm_Zt) (iv : List (Nat × Nat)) (mem : List sx_C) (y : Nat) (full tl : List sx_I) (lv : List (Option sx_V)) (st : List sx_V) (cb sb : Nat) (K : List sx_F) (pc len kd a b : Nat) (z : Int) : sx_R := match st with
        | v :: r => if len = 1 ∧ sx_cat v = 1 then sx_go iv mem y full tl lv (v :: v :: r) cb sb K (pc + 1) else none
        | [] => none
def sx_f_pop  (kx : Nat) (zs : List mm_Zt) (iv : List (Nat × Nat)) (mem : List sx_C) (y : Nat) (full tl : List sx_I) (lv : List (Option sx_V)) (st : List sx_V) (cb sb : Nat) (K : List sx_F) (pc len kd a b : Nat) (z : Int) : sx_R := match st with
        | v :: r => if len = 1 ∧ sx_cat v = 1 then sx_go iv mem y full tl lv r cb sb K (pc + 1) else none
        | [] => none
def sx_f_dup2  (kx : Nat) (zs : List mm_Zt) (iv : List (Nat × Nat)) (mem : List sx_C) (y : Nat) (full tl : List sx_I) (lv : List (Option sx_V)) (st : List sx_V) (cb sb : Nat) (K : List sx_F) (pc len kd a b : Nat) (z : Int) : sx_R := match st with
        | v :: w :: r => if len = 1 ∧ sx_cat v = 1 ∧ sx_cat w = 1 then sx_go iv mem y full tl lv (v :: w :: v :: w :: r) cb sb K (pc + 1) else none
        | _ => none
def sx_f_getfield (idx : Nat) (kx : Nat) (zs : List mm_Zt) (iv : List (Nat × Nat)) (mem : List sx_C) (y : Nat) (full tl : List sx_I) (lv : List (Option sx_V)) (st : List sx_V) (cb sb : Nat) (K : List sx_F) (pc len kd a b : Nat) (z : Int) : sx_R := sx_get len kd a b st mem (fun st => sx_go iv mem y full tl lv st cb sb K (pc + 3))
def sx_f_putfield (idx : Nat) (kx : Nat) (zs : List mm_Zt) (iv : List (Nat × Nat)) (mem : List sx_C) (y : Nat) (full tl : List sx_I) (lv : List (Option sx_V)) (st : List sx_V) (cb sb : Nat) (K : List sx_F) (pc len kd a b : Nat) (z : Int) : sx_R := sx_put (sx_fi y).1 kx (sx_fi y).2.2.2 len kd a b st mem (fun mem st => sx_go iv mem y full tl lv st cb sb K (pc + 3))
def sx_f_arraylength  (kx : Nat) (zs : List mm_Zt) (iv : List (Nat × Nat)) (mem : List sx_C) (y : Nat) (full tl : List sx_I) (lv : List (Option sx_V)) (st : List sx_V) (cb sb : Nat) (K : List sx_F) (pc len kd a b : Nat) (z : Int) : sx_R := match st with
        | .inl (.ref q) :: r => match mem[q]? with
          | some (.inl (ty, n, df, up)) => if len = 1 then sx_iK (Int32.ofNat n) (fun x => sx_go iv mem y full tl lv (.inl (.int x) :: r) cb sb K (pc + 1)) else none
          | _ => none
        | _ => none
def sx_f_ldc (idx : Nat) (kx : Nat) (zs : List mm_Zt) (iv : List (Nat × Nat)) (mem : List sx_C) (y : Nat) (full tl : List sx_I) (lv : List (Option sx_V)) (st : List sx_V) (cb sb : Nat) (K : List sx_F) (pc len kd a b : Nat) (z : Int) : sx_R := if len = 2 ∧ kd = 6 then sx_iK (Int32.ofInt z) (fun x => sx_go iv mem y full tl lv (.inl (.int x) :: st) cb sb K (pc + 2)) else none
def sx_f_ldc_w (idx : Nat) (kx : Nat) (zs : List mm_Zt) (iv : List (Nat × Nat)) (mem : List sx_C) (y : Nat) (full tl : List sx_I) (lv : List (Option sx_V)) (st : List sx_V) (cb sb : Nat) (K : List sx_F) (pc len kd a b : Nat) (z : Int) : sx_R := if len = 3 ∧ kd = 6 then sx_iK (Int32.ofInt z) (fun x => sx_go iv mem y full tl lv (.inl (.int x) :: st) cb sb K (pc + 3)) else none
def sx_f_ldc2_w (idx : Nat) (kx : Nat) (zs : List mm_Zt) (iv : List (Nat × Nat)) (mem : List sx_C) (y : Nat) (full tl : List sx_I) (lv : List (Option sx_V)) (st : List sx_V) (cb sb : Nat) (K : List sx_F) (pc len kd a b : Nat) (z : Int) : sx_R := if len = 3 ∧ kd = 7 then sx_lK (Int64.ofInt z) (fun x => sx_go iv mem y full tl lv (.inl (.long x) :: st) cb sb K (pc + 3)) else none
def sx_f_getstatic (idx : Nat) (kx : Nat) (zs : List mm_Zt) (iv : List (Nat × Nat)) (mem : List sx_C) (y : Nat) (full tl : List sx_I) (lv : List (Option sx_V)) (st : List sx_V) (cb sb : Nat) (K : List sx_F) (pc len kd a b : Nat) (z : Int) : sx_R := match mm_sts[a]? with
        | some q => match zs.find? (fun t => decide (t.1 = q.1 ∧ t.2.1 = q.2.1 ∧ t.2.2.1 = q.2.2)) with
          | some t => if len = 3 ∧ (kd = 10 ∨ kd = 11) then sx_go iv mem y full tl lv (.inl t.2.2.2 :: st) cb sb K (pc + 3) else none
          | none => none
        | none => none
def sx_f_new (idx : Nat) (kx : Nat) (zs : List mm_Zt) (iv : List (Nat × Nat)) (mem : List sx_C) (y : Nat) (full tl : List sx_I) (lv : List (Option sx_V)) (st : List sx_V) (cb sb : Nat) (K : List sx_F) (pc len kd a b : Nat) (z : Int) : sx_R := match vwCl[a]? with
        | some q => if len = 3 ∧ kd = 4 ∧ 1 ≤ cb ∧ q.2.2 ≤ sb then sx_nK mem.length (fun n => sx_nK (cb - 1) (fun cb => sx_nK (sb - q.2.2) (fun sb => sx_appK mem (.inr (a, (List.range q.2.2).map (fun k => .inl (defaultValue (mm_ty a k))))) (fun mem => sx_go iv mem y full tl lv (.inl (.ref n) :: st) cb sb K (pc + 3))))) else none
        | none => none
def sx_f_newarray (at_ : ArrayType) (kx : Nat) (zs : List mm_Zt) (iv : List (Nat × Nat)) (mem : List sx_C) (y : Nat) (full tl : List sx_I) (lv : List (Option sx_V)) (st : List sx_V) (cb sb : Nat) (K : List sx_F) (pc len kd a b : Nat) (z : Int) : sx_R := match st with
        | .inl (.int n) :: r => if len = 2 ∧ (newarray.typeOf at_ = .int ∨ newarray.typeOf at_ = .long ∨ newarray.typeOf at_ = .byte ∨ newarray.typeOf at_ = .char ∨ newarray.typeOf at_ = .boolean) ∧ ¬ n < 0 ∧ n.toNatClampNeg ≤ 10000 ∧ 1 ≤ cb ∧ n.toNatClampNeg ≤ sb then sx_nK mem.length (fun q => sx_nK n.toNatClampNeg (fun n => sx_nK (cb - 1) (fun cb => sx_nK (sb - n) (fun sb => sx_appK mem (.inl (newarray.typeOf at_, n, .inl (defaultValue (newarray.typeOf at_)), [])) (fun mem => sx_go iv mem y full tl lv (.inl (.ref q) :: r) cb sb K (pc + 2)))))) else none
        | _ => none
def sx_f_anewarray (idx : Nat) (kx : Nat) (zs : List mm_Zt) (iv : List (Nat × Nat)) (mem : List sx_C) (y : Nat) (full tl : List sx_I) (lv : List (Option sx_V)) (st : List sx_V) (cb sb : Nat) (K : List sx_F) (pc len kd a b : Nat) (z : Int) : sx_R := match st with
        | .inl (.int n) :: r => match vwCl[a]? with
          | some q => if len = 3 ∧ kd = 4 ∧ (q.1 = "RaftTown$Raft" ∨ q.1 = "RaftTown$Person" ∨ q.1 = "RaftTown$Rope" ∨ q.1 = "RaftTown$Text" ∨ q.1 = "RaftTown$Sheet") ∧ ¬ n < 0 ∧ n.toNatClampNeg ≤ 10000 ∧ 1 ≤ cb ∧ n.toNatClampNeg ≤ sb then sx_nK mem.length (fun p => sx_nK n.toNatClampNeg (fun n => sx_nK (cb - 1) (fun cb => sx_nK (sb - n) (fun sb => sx_appK mem (.inl (.object q.1, n, .inl .null, [])) (fun mem => sx_go iv mem y full tl lv (.inl (.ref p) :: r) cb sb K (pc + 3)))))) else none
          | none => none
        | _ => none
def sx_f_invokevirtual (idx : Nat) (kx : Nat) (zs : List mm_Zt) (iv : List (Nat × Nat)) (mem : List sx_C) (y : Nat) (full tl : List sx_I) (lv : List (Option sx_V)) (st : List sx_V) (cb sb : Nat) (K : List sx_F) (pc len kd a b : Nat) (z : Int) : sx_R := sx_cal a (iv, mem, (y, full, (pc, (.invokevirtual idx), len, kd, a, b, z) :: tl, lv, st, cb, sb), K) kd len 1 pc tl
def sx_f_invokespecial (idx : Nat) (kx : Nat) (zs : List mm_Zt) (iv : List (Nat × Nat)) (mem : List sx_C) (y : Nat) (full tl : List sx_I) (lv : List (Option sx_V)) (st : List sx_V) (cb sb : Nat) (K : List sx_F) (pc len kd a b : Nat) (z : Int) : sx_R := if kd = 8 then (match st with
          | .inl (.ref _) :: r => if len = 3 ∧ sx_cats r ≤ 8 then sx_go iv mem y full tl lv r cb sb K (pc + 3) else none
          | _ => none) else sx_cal a (iv, mem, (y, full, (pc, (.invokespecial idx), len, kd, a, b, z) :: tl, lv, st, cb, sb), K) kd len 2 pc tl
def sx_f_invokestatic (idx : Nat) (kx : Nat) (zs : List mm_Zt) (iv : List (Nat × Nat)) (mem : List sx_C) (y : Nat) (full tl : List sx_I) (lv : List (Option sx_V)) (st : List sx_V) (cb sb : Nat) (K : List sx_F) (pc len kd a b : Nat) (z : Int) : sx_R := if kd = 13 then (match st with
          | .inl (.int v) :: .inl (.int u) :: r => if len = 3 ∧ sx_cats r ≤ 8 then sx_iK (if u < v then v else u) (fun x => sx_go iv mem y full tl lv (.inl (.int x) :: r) cb sb K (pc + 3)) else none
          | _ => none)
        else if kd = 14 then (match st with
          | .inl (.int v) :: .inl (.int u) :: r => if len = 3 ∧ sx_cats r ≤ 8 then sx_iK (if v < u then v else u) (fun x => sx_go iv mem y full tl lv (.inl (.int x) :: r) cb sb K (pc + 3)) else none
          | _ => none)
        else if kd = 9 then (match st with
          | .inl (.int n) :: .inl (.int dp) :: .inl (.ref d) :: .inl (.int sp) :: .inl (.ref s) :: r => match mem[s]?, mem[d]? with
            | some (.inl (ty, m, df, up)), some (.inl (ty', m', df', up')) => if len = 3 ∧ sx_cats r ≤ 8 ∧ Nat.ble kx s = true ∧ Nat.ble kx d = true ∧ ty = .int ∧ ty' = .int ∧ sp = 0 ∧ dp = 0 ∧ ¬ n < 0 ∧ n.toNatClampNeg = m ∧ m' = m ∧ sx_isI df = true ∧ up.all (fun e => sx_isI e.2) = true then sx_setK mem d (.inl (ty, m, df, up)) (fun mem => sx_go iv mem y full tl lv r cb sb K (pc + 3)) else none
            | _, _ => none
          | _ => none)
        else sx_cal a (iv, mem, (y, full, (pc, (.invokestatic idx), len, kd, a, b, z) :: tl, lv, st, cb, sb), K) kd len 0 pc tl
def sx_f_ireturn  (kx : Nat) (zs : List mm_Zt) (iv : List (Nat × Nat)) (mem : List sx_C) (y : Nat) (full tl : List sx_I) (lv : List (Option sx_V)) (st : List sx_V) (cb sb : Nat) (K : List sx_F) (pc len kd a b : Nat) (z : Int) : sx_R := sx_ret iv mem y (.ireturn) len st K
def sx_f_areturn  (kx : Nat) (zs : List mm_Zt) (iv : List (Nat × Nat)) (mem : List sx_C) (y : Nat) (full tl : List sx_I) (lv : List (Option sx_V)) (st : List sx_V) (cb sb : Nat) (K : List sx_F) (pc len kd a b : Nat) (z : Int) : sx_R := sx_ret iv mem y (.areturn) len st K
def sx_f_return_  (kx : Nat) (zs : List mm_Zt) (iv : List (Nat × Nat)) (mem : List sx_C) (y : Nat) (full tl : List sx_I) (lv : List (Option sx_V)) (st : List sx_V) (cb sb : Nat) (K : List sx_F) (pc len kd a b : Nat) (z : Int) : sx_R := sx_ret iv mem y (.return_) len st K
def sx_f_iaload  (kx : Nat) (zs : List mm_Zt) (iv : List (Nat × Nat)) (mem : List sx_C) (y : Nat) (full tl : List sx_I) (lv : List (Option sx_V)) (st : List sx_V) (cb sb : Nat) (K : List sx_F) (pc len kd a b : Nat) (z : Int) : sx_R := sx_ald (iv, mem, (y, full, (pc, (.iaload), len, kd, a, b, z) :: tl, lv, st, cb, sb), K) (.iaload) len st mem (fun st => sx_go iv mem y full tl lv st cb sb K (pc + 1))
def sx_f_caload  (kx : Nat) (zs : List mm_Zt) (iv : List (Nat × Nat)) (mem : List sx_C) (y : Nat) (full tl : List sx_I) (lv : List (Option sx_V)) (st : List sx_V) (cb sb : Nat) (K : List sx_F) (pc len kd a b : Nat) (z : Int) : sx_R := sx_ald (iv, mem, (y, full, (pc, (.caload), len, kd, a, b, z) :: tl, lv, st, cb, sb), K) (.caload) len st mem (fun st => sx_go iv mem y full tl lv st cb sb K (pc + 1))
def sx_f_baload  (kx : Nat) (zs : List mm_Zt) (iv : List (Nat × Nat)) (mem : List sx_C) (y : Nat) (full tl : List sx_I) (lv : List (Option sx_V)) (st : List sx_V) (cb sb : Nat) (K : List sx_F) (pc len kd a b : Nat) (z : Int) : sx_R := sx_ald (iv, mem, (y, full, (pc, (.baload), len, kd, a, b, z) :: tl, lv, st, cb, sb), K) (.baload) len st mem (fun st => sx_go iv mem y full tl lv st cb sb K (pc + 1))
def sx_f_aaload  (kx : Nat) (zs : List mm_Zt) (iv : List (Nat × Nat)) (mem : List sx_C) (y : Nat) (full tl : List sx_I) (lv : List (Option sx_V)) (st : List sx_V) (cb sb : Nat) (K : List sx_F) (pc len kd a b : Nat) (z : Int) : sx_R := sx_ald (iv, mem, (y, full, (pc, (.aaload), len, kd, a, b, z) :: tl, lv, st, cb, sb), K) (.aaload) len st mem (fun st => sx_go iv mem y full tl lv st cb sb K (pc + 1))
def sx_f_iastore  (kx : Nat) (zs : List mm_Zt) (iv : List (Nat × Nat)) (mem : List sx_C) (y : Nat) (full tl : List sx_I) (lv : List (Option sx_V)) (st : List sx_V) (cb sb : Nat) (K : List sx_F) (pc len kd a b : Nat) (z : Int) : sx_R := sx_ast (iv, mem, (y, full, (pc, (.iastore), len, kd, a, b, z) :: tl, lv, st, cb, sb), K) kx (.iastore) len st mem (fun mem st => sx_go iv mem y full tl lv st cb sb K (pc + 1))
def sx_f_castore  (kx : Nat) (zs : List mm_Zt) (iv : List (Nat × Nat)) (mem : List sx_C) (y : Nat) (full tl : List sx_I) (lv : List (Option sx_V)) (st : List sx_V) (cb sb : Nat) (K : List sx_F) (pc len kd a b : Nat) (z : Int) : sx_R := sx_ast (iv, mem, (y, full, (pc, (.castore), len, kd, a, b, z) :: tl, lv, st, cb, sb), K) kx (.castore) len st mem (fun mem st => sx_go iv mem y full tl lv st cb sb K (pc + 1))
def sx_f_bastore  (kx : Nat) (zs : List mm_Zt) (iv : List (Nat × Nat)) (mem : List sx_C) (y : Nat) (full tl : List sx_I) (lv : List (Option sx_V)) (st : List sx_V) (cb sb : Nat) (K : List sx_F) (pc len kd a b : Nat) (z : Int) : sx_R := sx_ast (iv, mem, (y, full, (pc, (.bastore), len, kd, a, b, z) :: tl, lv, st, cb, sb), K) kx (.bastore) len st mem (fun mem st => sx_go iv mem y full tl lv st cb sb K (pc + 1))
def sx_f_aastore  (kx : Nat) (zs : List mm_Zt) (iv : List (Nat × Nat)) (mem : List sx_C) (y : Nat) (full tl : List sx_I) (lv : List (Option sx_V)) (st : List sx_V) (cb sb : Nat) (K : List sx_F) (pc len kd a b : Nat) (z : Int) : sx_R := sx_asta (iv, mem, (y, full, (pc, (.aastore), len, kd, a, b, z) :: tl, lv, st, cb, sb), K) kx len st mem (fun mem st => sx_go iv mem y full tl lv st cb sb K (pc + 1))
def sx_f_iadd (kx : Nat) (zs : List mm_Zt) (iv : List (Nat × Nat)) (mem : List sx_C) (y : Nat) (full tl : List sx_I) (lv : List (Option sx_V)) (st : List sx_V) (cb sb : Nat) (K : List sx_F) (pc len kd a b : Nat) (z : Int) : sx_R := if len = 1 then sx_b2 (fun x y => x + y) st (fun st => sx_go iv mem y full tl lv st cb sb K (pc + 1)) else none
def sx_f_isub (kx : Nat) (zs : List mm_Zt) (iv : List (Nat × Nat)) (mem : List sx_C) (y : Nat) (full tl : List sx_I) (lv : List (Option sx_V)) (st : List sx_V) (cb sb : Nat) (K : List sx_F) (pc len kd a b : Nat) (z : Int) : sx_R := if len = 1 then sx_b2 (fun x y => x - y) st (fun st => sx_go iv mem y full tl lv st cb sb K (pc + 1)) else none
def sx_f_imul (kx : Nat) (zs : List mm_Zt) (iv : List (Nat × Nat)) (mem : List sx_C) (y : Nat) (full tl : List sx_I) (lv : List (Option sx_V)) (st : List sx_V) (cb sb : Nat) (K : List sx_F) (pc len kd a b : Nat) (z : Int) : sx_R := if len = 1 then sx_b2 (fun x y => x * y) st (fun st => sx_go iv mem y full tl lv st cb sb K (pc + 1)) else none
def sx_f_ior (kx : Nat) (zs : List mm_Zt) (iv : List (Nat × Nat)) (mem : List sx_C) (y : Nat) (full tl : List sx_I) (lv : List (Option sx_V)) (st : List sx_V) (cb sb : Nat) (K : List sx_F) (pc len kd a b : Nat) (z : Int) : sx_R := if len = 1 then sx_b2 (fun x y => x ||| y) st (fun st => sx_go iv mem y full tl lv st cb sb K (pc + 1)) else none
def sx_f_ixor (kx : Nat) (zs : List mm_Zt) (iv : List (Nat × Nat)) (mem : List sx_C) (y : Nat) (full tl : List sx_I) (lv : List (Option sx_V)) (st : List sx_V) (cb sb : Nat) (K : List sx_F) (pc len kd a b : Nat) (z : Int) : sx_R := if len = 1 then sx_b2 (fun x y => x ^^^ y) st (fun st => sx_go iv mem y full tl lv st cb sb K (pc + 1)) else none
def sx_f_ishl (kx : Nat) (zs : List mm_Zt) (iv : List (Nat × Nat)) (mem : List sx_C) (y : Nat) (full tl : List sx_I) (lv : List (Option sx_V)) (st : List sx_V) (cb sb : Nat) (K : List sx_F) (pc len kd a b : Nat) (z : Int) : sx_R := if len = 1 then sx_b2 (fun x y => x <<< (y &&& 31)) st (fun st => sx_go iv mem y full tl lv st cb sb K (pc + 1)) else none
def sx_f_ishr (kx : Nat) (zs : List mm_Zt) (iv : List (Nat × Nat)) (mem : List sx_C) (y : Nat) (full tl : List sx_I) (lv : List (Option sx_V)) (st : List sx_V) (cb sb : Nat) (K : List sx_F) (pc len kd a b : Nat) (z : Int) : sx_R := if len = 1 then sx_b2 (fun x y => x >>> (y &&& 31)) st (fun st => sx_go iv mem y full tl lv st cb sb K (pc + 1)) else none
def sx_f_iushr (kx : Nat) (zs : List mm_Zt) (iv : List (Nat × Nat)) (mem : List sx_C) (y : Nat) (full tl : List sx_I) (lv : List (Option sx_V)) (st : List sx_V) (cb sb : Nat) (K : List sx_F) (pc len kd a b : Nat) (z : Int) : sx_R := if len = 1 then sx_b2 (fun x y => (x.toUInt32 >>> (y.toUInt32 &&& Int32.toUInt32 31)).toInt32) st (fun st => sx_go iv mem y full tl lv st cb sb K (pc + 1)) else none
abbrev sx_Ot : Type := Nat → List mm_Zt → List (Nat × Nat) → List sx_C → Nat → List sx_I → List sx_I → List (Option sx_V) → List sx_V → Nat → Nat → List sx_F → Nat → Nat → Nat → Nat → Nat → Int → sx_R
def sx_f_no : sx_Ot := fun _ _ _ _ _ _ _ _ _ _ _ _ _ _ _ _ _ _ => none
def sx_op (ins : Instr) : sx_Ot := match ins with
  | .iconst n => sx_f_iconst n
  | .bipush n => sx_f_bipush n
  | .sipush n => sx_f_sipush n
  | .lconst n => sx_f_lconst n
  | .iload_n i => sx_f_iload_n i
  | .iload i => sx_f_iload i
  | .lload_n i => sx_f_lload_n i
  | .lload i => sx_f_lload i
  | .aload_n i => sx_f_aload_n i
  | .aload i => sx_f_aload i
  | .istore_n i => sx_f_istore_n i
  | .istore i => sx_f_istore i
  | .astore_n i => sx_f_astore_n i
  | .astore i => sx_f_astore i
  | .iinc i n => sx_f_iinc i n
  | .iand => sx_f_iand 
  | .idiv => sx_f_idiv 
  | .irem => sx_f_irem 
  | .ineg => sx_f_ineg 
  | .i2b => sx_f_i2b 
  | .i2s => sx_f_i2s 
  | .land => sx_f_land 
  | .lor => sx_f_lor 
  | .lshl => sx_f_lshl 
  | .lshr => sx_f_lshr 
  | .i2l => sx_f_i2l 
  | .l2i => sx_f_l2i 
  | .goto off => sx_f_goto off
  | .ifCond cd off => sx_f_ifCond cd off
  | .if_icmp cd off => sx_f_if_icmp cd off
  | .tableswitch dflt lo hi offs => sx_f_tableswitch dflt lo hi offs
  | .dup => sx_f_dup 
  | .pop => sx_f_pop 
  | .dup2 => sx_f_dup2 
  | .getfield idx => sx_f_getfield idx
  | .putfield idx => sx_f_putfield idx
  | .arraylength => sx_f_arraylength 
  | .ldc idx => sx_f_ldc idx
  | .ldc_w idx => sx_f_ldc_w idx
  | .ldc2_w idx => sx_f_ldc2_w idx
  | .getstatic idx => sx_f_getstatic idx
  | .new idx => sx_f_new idx
  | .newarray at_ => sx_f_newarray at_
  | .anewarray idx => sx_f_anewarray idx
  | .invokevirtual idx => sx_f_invokevirtual idx
  | .invokespecial idx => sx_f_invokespecial idx
  | .invokestatic idx => sx_f_invokestatic idx
  | .ireturn => sx_f_ireturn 
  | .areturn => sx_f_areturn 
  | .return_ => sx_f_return_ 
  | .iaload => sx_f_iaload 
  | .caload => sx_f_caload 
  | .baload => sx_f_baload 
  | .aaload => sx_f_aaload 
  | .iastore => sx_f_iastore 
  | .castore => sx_f_castore 
  | .bastore => sx_f_bastore 
  | .aastore => sx_f_aastore 
  | .iadd => sx_f_iadd
  | .isub => sx_f_isub
  | .imul => sx_f_imul
  | .ior => sx_f_ior
  | .ixor => sx_f_ixor
  | .ishl => sx_f_ishl
  | .ishr => sx_f_ishr
  | .iushr => sx_f_iushr
  | _ => sx_f_no
def sx_stepF (kx : Nat) (zs : List mm_Zt) (S : sx_S) : sx_R := match S with
  | (iv, mem, (y, full, cs, lv, st, cb, sb), K) => match cs with
    | [] => none
    | (pc, ins, len, kd, a, b, z) :: tl => sx_op ins kx zs iv mem y full tl lv st cb sb K pc len kd a b z
set_option maxHeartbeats 4000000 in
theorem sx_stepF_eq (kx : Nat) (zs : List mm_Zt) (S : sx_S) : sx_stepF kx zs S = sx_step kx zs S := by
  obtain ⟨iv, mem, ⟨y, full, cs, lv, st, cb, sb⟩, K⟩ := S
  cases cs with
  | nil => rfl
  | cons e tl =>
    obtain ⟨pc, ins, len, kd, a, b, z⟩ := e
    cases ins <;> rfl
/-- 2^k steps over the ways that are left -/
def sx_itF (kx : Nat) (zs : List mm_Zt) : Nat → List sx_S → sx_R
  | 0, [] => some []
  | 0, S :: r => match sx_stepF kx zs S with
    | some l => some (l ++ r)
    | none => none
  | k + 1, w => match sx_itF kx zs k w with
    | some [] => some []
    | some (S :: r) => sx_itF kx zs k (S :: r)
    | none => none
theorem sx_itF_eq (kx : Nat) (zs : List mm_Zt) : ∀ (k : Nat) (w : List sx_S), sx_itF kx zs k w = sx_it kx zs k w := by
  intro k
  induction k with
  | zero =>
    intro w
    cases w with
    | nil => rfl
    | cons S r =>
      simp only [sx_itF, sx_it, sx_stepF_eq]
      cases sx_step kx zs S <;> rfl
  | succ k ih =>
    intro w
    simp only [sx_itF, sx_it, ih]
    cases sx_it kx zs k w with
    | none => rfl
    | some l => cases l <;> rfl
end
section
/-! ===== symbolic runs: what they stand for ===== -/
def sx_g (env : Nat → Int32) : sx_V → Value → Prop
  | .inl w, v => v = w
  | .inr (0, k), v => v = .int (env k)
  | .inr (1, _), v => ∃ x, v = .int x
  | .inr (2, _), v => ∃ x, v = .long x
  | _, _ => False
def sx_r2 {α β : Type} (R : α → β → Prop) : List α → List β → Prop
  | [], [] => True
  | a :: s, b :: t => R a b ∧ sx_r2 R s t
  | _, _ => False
theorem sx_r2_len {α β : Type} {R : α → β → Prop} : ∀ {s : List α} {t : List β}, sx_r2 R s t → s.length = t.length
  | [], [], _ => rfl
  | _ :: s, _ :: t, h => by simp [sx_r2_len h.2]
  | [], _ :: _, h => h.elim
  | _ :: _, [], h => h.elim
theorem sx_r2_get {α β : Type} {R : α → β → Prop} : ∀ {s : List α} {t : List β}, sx_r2 R s t → ∀ {i : Nat} {a : α}, s[i]? = some a → ∃ b, t[i]? = some b ∧ R a b
  | [], [], _, i, a, h => by simp at h
  | x :: s, y :: t, h, 0, a, e => by simp at e; subst e; exact ⟨y, by simp, h.1⟩
  | x :: s, y :: t, h, i + 1, a, e => by simp at e; obtain ⟨b, h1, h2⟩ := sx_r2_get h.2 e; exact ⟨b, by simpa using h1, h2⟩
  | [], _ :: _, h, _, _, _ => h.elim
  | _ :: _, [], h, _, _, _ => h.elim
theorem sx_r2_set {α β : Type} {R : α → β → Prop} {a : α} {b : β} (hab : R a b) : ∀ {s : List α} {t : List β}, sx_r2 R s t → ∀ (i : Nat), sx_r2 R (s.set i a) (t.set i b)
  | [], [], _, i => trivial
  | x :: s, y :: t, h, 0 => ⟨hab, h.2⟩
  | x :: s, y :: t, h, i + 1 => ⟨h.1, sx_r2_set hab h.2 i⟩
  | [], _ :: _, h, _ => h.elim
  | _ :: _, [], h, _ => h.elim
theorem sx_r2_cat {α β : Type} {R : α → β → Prop} : ∀ {s : List α} {t : List β}, sx_r2 R s t → ∀ {s' : List α} {t' : List β}, sx_r2 R s' t' → sx_r2 R (s ++ s') (t ++ t')
  | [], [], _, _, _, h => h
  | x :: s, y :: t, h, _, _, h' => ⟨h.1, sx_r2_cat h.2 h'⟩
  | [], _ :: _, h, _, _, _ => h.elim
  | _ :: _, [], h, _, _, _ => h.elim
theorem sx_r2_rev {α β : Type} {R : α → β → Prop} : ∀ {s : List α} {t : List β}, sx_r2 R s t → sx_r2 R s.reverse t.reverse
  | [], [], _ => trivial
  | x :: s, y :: t, h => by simp only [List.reverse_cons]; exact sx_r2_cat (sx_r2_rev h.2) ⟨h.1, trivial⟩
  | [], _ :: _, h => h.elim
  | _ :: _, [], h => h.elim
theorem sx_r2_take {α β : Type} {R : α → β → Prop} : ∀ {s : List α} {t : List β}, sx_r2 R s t → ∀ (n : Nat), sx_r2 R (s.take n) (t.take n)
  | [], [], _, n => by simp [sx_r2]
  | x :: s, y :: t, h, 0 => trivial
  | x :: s, y :: t, h, n + 1 => ⟨h.1, sx_r2_take h.2 n⟩
  | [], _ :: _, h, _ => h.elim
  | _ :: _, [], h, _ => h.elim
theorem sx_r2_drop {α β : Type} {R : α → β → Prop} : ∀ {s : List α} {t : List β}, sx_r2 R s t → ∀ (n : Nat), sx_r2 R (s.drop n) (t.drop n)
  | [], [], _, n => by simp [sx_r2]
  | x :: s, y :: t, h, 0 => h
  | x :: s, y :: t, h, n + 1 => sx_r2_drop h.2 n
  | [], _ :: _, h, _ => h.elim
  | _ :: _, [], h, _ => h.elim
theorem sx_r2_cons {α β : Type} {R : α → β → Prop} {a : α} {s : List α} {t : List β} (h : sx_r2 R (a :: s) t) : ∃ b t', t = b :: t' ∧ R a b ∧ sx_r2 R s t' := by
  cases t with
  | nil => exact h.elim
  | cons b t' => exact ⟨b, t', rfl, h.1, h.2⟩
theorem sx_r2_nil {α β : Type} {R : α → β → Prop} {t : List β} (h : sx_r2 R ([] : List α) t) : t = [] := by
  cases t with
  | nil => rfl
  | cons b t' => exact h.elim
theorem sx_nK_eq {β : Type} (n : Nat) (k : Nat → β) : sx_nK n k = k n := by cases n <;> rfl
theorem sx_iK_eq {β : Type} (x : Int32) (k : Int32 → β) : sx_iK x k = k x := by
  unfold sx_iK
  rw [sx_nK_eq]
  congr 1
  simp
theorem sx_lK_eq {β : Type} (x : Int64) (k : Int64 → β) : sx_lK x k = k x := by
  unfold sx_lK
  rw [sx_nK_eq]
  congr 1
  simp
theorem sx_setK_eq {α β : Type} : ∀ (l : List α) (i : Nat) (c : α) (k : List α → β), sx_setK l i c k = k (l.set i c)
  | [], i, c, k => by simp [sx_setK]
  | h :: t, 0, c, k => by simp [sx_setK]
  | h :: t, i + 1, c, k => by simp only [sx_setK, List.set_cons_succ]; exact sx_setK_eq t i c _
theorem sx_appK_eq {α β : Type} : ∀ (l : List α) (c : α) (k : List α → β), sx_appK l c k = k (l ++ [c])
  | [], c, k => rfl
  | h :: t, c, k => by simp only [sx_appK, List.cons_append]; exact sx_appK_eq t c _
def sx_rd (up : List (Nat × sx_V)) (j : Nat) (df : sx_V) : sx_V := sx_rdK up j df id
theorem sx_rdK_eq {β : Type} (j : Nat) (df : sx_V) (k : sx_V → β) : ∀ (up : List (Nat × sx_V)), sx_rdK up j df k = k (sx_rd up j df)
  | [] => rfl
  | (i, v) :: t => by
    unfold sx_rd
    simp only [sx_rdK]
    split
    · rfl
    · exact sx_rdK_eq j df k t
theorem sx_rd_cons (i j : Nat) (v df : sx_V) (t : List (Nat × sx_V)) : sx_rd ((i, v) :: t) j df = if i = j then v else sx_rd t j df := by
  unfold sx_rd
  simp only [sx_rdK]
  by_cases h : i = j
  · subst h; simp
  · rw [if_neg h, if_neg (fun q => h (Nat.eq_of_beq_eq_true q))]
def sx_gc (env : Nat → Int32) : sx_C → mm_C → Prop
  | .inl (ty, n, df, up), .inl (ty', xs) => ty = ty' ∧ xs.length = n ∧ ∀ j, j < n → ∃ x, xs[j]? = some x ∧ sx_g env (sx_rd up j df) x
  | .inr (ci, fs), .inr (ci', ws) => ci = ci' ∧ sx_r2 (sx_g env) fs ws
  | _, _ => False
def sx_gl (env : Nat → Int32) (lv : List (Option sx_V)) (lc : List (Nat × Value)) : Prop := ∀ (i : Nat) (v : sx_V), lv[i]? = some (some v) → ∃ x, mm_lget lc i = some x ∧ sx_g env v x
def sx_iv (env : Nat → Int32) (iv : List (Nat × Nat)) : Prop := (∀ (k lo hi : Nat), iv[k]? = some (lo, hi) → lo ≤ sx_off (env k) ∧ sx_off (env k) < hi) ∧ env 6 = env 0 &&& 63
theorem sx_off_lt (x : Int32) : sx_off x < sx_M := by
  have h1 := Int32.toInt_lt x
  have h2 := Int32.le_toInt x
  unfold sx_off sx_M
  omega
theorem sx_off_int (x : Int32) : (sx_off x : Int) = x.toInt + 2147483648 := by
  have h2 := Int32.le_toInt x
  unfold sx_off
  omega
theorem sx_cst_off (x : Int32) : sx_cst (sx_off x) = x := by
  unfold sx_cst
  rw [sx_off_int, Int.add_sub_cancel]
  exact Int32.ofInt_toInt x
theorem sx_P2_off (cd : Jvm.ClassFile.Cond) (x y : Int32) : (mm_P2 cd x y = true → ∃ r ∈ (sx_rng cd (sx_off y)).1, r.1 ≤ sx_off x ∧ sx_off x < r.2) ∧ (mm_P2 cd x y = false → ∃ r ∈ (sx_rng cd (sx_off y)).2, r.1 ≤ sx_off x ∧ sx_off x < r.2) := by
  have hx := sx_off_lt x
  have hy := sx_off_lt y
  have ex := sx_off_int x
  have ey := sx_off_int y
  have hlt : x < y ↔ sx_off x < sx_off y := by rw [Int32.lt_iff_toInt_lt]; omega
  have hgt : y < x ↔ sx_off y < sx_off x := by rw [Int32.lt_iff_toInt_lt]; omega
  have hle : x ≤ y ↔ sx_off x ≤ sx_off y := by rw [Int32.le_iff_toInt_le]; omega
  have hge : y ≤ x ↔ sx_off y ≤ sx_off x := by rw [Int32.le_iff_toInt_le]; omega
  have heq : x = y ↔ sx_off x = sx_off y := by rw [← Int32.toInt_inj]; omega
  cases cd <;> simp only [mm_P2, sx_rng, hlt, hgt, hle, hge, heq, decide_eq_true_eq, decide_eq_false_iff_not, Bool.not_eq_true', Bool.not_eq_false', List.mem_cons, List.not_mem_nil, or_false] <;> constructor <;> intro h
  · exact ⟨_, rfl, by omega, by omega⟩
  · rcases Nat.lt_or_ge (sx_off x) (sx_off y) with q | q
    · exact ⟨_, Or.inl rfl, by omega, by omega⟩
    · exact ⟨_, Or.inr rfl, by dsimp only; omega, by omega⟩
  · rcases Nat.lt_or_ge (sx_off x) (sx_off y) with q | q
    · exact ⟨_, Or.inl rfl, by omega, by omega⟩
    · exact ⟨_, Or.inr rfl, by dsimp only; omega, by omega⟩
  · exact ⟨_, rfl, by omega, by omega⟩
  · exact ⟨_, rfl, by omega, by omega⟩
  · exact ⟨_, rfl, by omega, by omega⟩
  · exact ⟨_, rfl, by omega, by omega⟩
  · exact ⟨_, rfl, by omega, by omega⟩
  · exact ⟨_, rfl, by dsimp only; omega, by omega⟩
  · exact ⟨_, rfl, by omega, by dsimp only; omega⟩
  · exact ⟨_, rfl, by omega, by dsimp only; omega⟩
  · exact ⟨_, rfl, by dsimp only; omega, by omega⟩
theorem sx_swp_P2 (cd : Jvm.ClassFile.Cond) (x y : Int32) : mm_P2 (sx_swp cd) y x = mm_P2 cd x y := by
  cases cd <;> simp only [mm_P2, sx_swp]
  · simp [eq_comm]
  · simp [eq_comm]
theorem sx_cn_g {env : Nat → Int32} {iv : List (Nat × Nat)} (hiv : sx_iv env iv) {v : sx_V} {x : Value} (h : sx_g env v x) : sx_g env (sx_cn iv v) x := by
  unfold sx_cn
  split
  · next k =>
    split
    · next lo hi e1 =>
      split
      · next e2 =>
        have h1 := hiv.1 k lo hi e1
        have h2 : hi = lo + 1 := Nat.eq_of_beq_eq_true e2
        have h3 : sx_off (env k) = lo := by omega
        have h4 : x = .int (env k) := h
        show x = .int (sx_cst lo)
        rw [h4, ← h3, sx_cst_off]
      · exact h
    · exact h
  · exact h
theorem sx_both_inv {a b : sx_R} {l : List sx_S} (h : sx_both a b = some l) : ∃ x y, a = some x ∧ b = some y ∧ l = x ++ y := by
  unfold sx_both at h
  split at h
  · cases h; exact ⟨_, _, rfl, rfl, rfl⟩
  · cases h
theorem sx_iv_set {env : Nat → Int32} {iv : List (Nat × Nat)} (hiv : sx_iv env iv) {k a b : Nat} (h : a ≤ sx_off (env k) ∧ sx_off (env k) < b) : sx_iv env (iv.set k (a, b)) := by
  refine ⟨?_, hiv.2⟩
  intro j lo hi e
  by_cases hj : k = j
  · subst hj
    rw [List.getElem?_set] at e
    simp only [if_true] at e
    split at e
    · cases e; exact h
    · cases e
  · rw [List.getElem?_set_ne hj] at e
    exact hiv.1 j lo hi e
theorem sx_spl_inv {env : Nat → Int32} {iv : List (Nat × Nat)} (hiv : sx_iv env iv) {k : Nat} {kk : List (Nat × Nat) → sx_R} : ∀ {rs : List (Nat × Nat)} {l : List sx_S}, sx_spl iv k rs kk = some l → (∃ r ∈ rs, r.1 ≤ sx_off (env k) ∧ sx_off (env k) < r.2) → ∃ iv' l', kk iv' = some l' ∧ (∀ S ∈ l', S ∈ l) ∧ sx_iv env iv' := by
  intro rs
  induction rs with
  | nil => intro l h hr; obtain ⟨r, hr, -⟩ := hr; exact absurd hr List.not_mem_nil
  | cons ab rs ih =>
    obtain ⟨a, b⟩ := ab
    intro l h hr
    unfold sx_spl at h
    split at h
    · cases h
    · next lo hi e1 =>
      have h1 := hiv.1 k lo hi e1
      simp only at h
      split at h
      · next e2 =>
        refine ih h ?_
        obtain ⟨r, hr1, hr2⟩ := hr
        rcases List.mem_cons.mp hr1 with rfl | hr1
        · exfalso
          have := Nat.le_of_ble_eq_true e2
          dsimp only at hr2
          omega
        · exact ⟨r, hr1, hr2⟩
      · obtain ⟨x, y, hx, hy, rfl⟩ := sx_both_inv h
        rw [sx_nK_eq, sx_nK_eq, sx_setK_eq] at hx
        obtain ⟨r, hr1, hr2⟩ := hr
        rcases List.mem_cons.mp hr1 with rfl | hr1
        · dsimp only at hr2
          exact ⟨_, x, hx, fun S hS => List.mem_append_left _ hS, sx_iv_set hiv ⟨by omega, by omega⟩⟩
        · obtain ⟨iv', l', g1, g2, g3⟩ := ih hy ⟨r, hr1, hr2⟩
          exact ⟨iv', l', g1, fun S hS => List.mem_append_right _ (g2 S hS), g3⟩
theorem sx_isI_g {env : Nat → Int32} {v : sx_V} {w : Value} (h : sx_isI v = true) (hg : sx_g env v w) : ∃ x, w = .int x := by
  unfold sx_isI at h
  split at h
  · exact ⟨_, hg⟩
  · exact ⟨_, hg⟩
  · exact hg
  · cases h
theorem sx_isL_g {env : Nat → Int32} {v : sx_V} {w : Value} (h : sx_isL v = true) (hg : sx_g env v w) : ∃ x, w = .long x := by
  unfold sx_isL at h
  split at h
  · exact ⟨_, hg⟩
  · exact hg
  · cases h
theorem sx_cmp_inv {env : Nat → Int32} {iv : List (Nat × Nat)} (hiv : sx_iv env iv) {cd : Jvm.ClassFile.Cond} {x y : sx_V} {kt kf : List (Nat × Nat) → sx_R} {l : List sx_S} (h : sx_cmp iv cd x y kt kf = some l) {vx vy : Value} (hx : sx_g env x vx) (hy : sx_g env y vy) : ∃ a b, vx = .int a ∧ vy = .int b ∧ ∃ iv' l', (if mm_P2 cd a b then kt else kf) iv' = some l' ∧ (∀ S ∈ l', S ∈ l) ∧ sx_iv env iv' := by
  unfold sx_cmp at h
  split at h
  · next a b =>
    refine ⟨a, b, hx, hy, iv, l, ?_, fun _ h => h, hiv⟩
    split at h <;> next e => simp [e, h]
  · next k b =>
    rw [sx_nK_eq] at h
    obtain ⟨u, w, hu, hw, rfl⟩ := sx_both_inv h
    refine ⟨env k, b, hx, hy, ?_⟩
    cases hP : mm_P2 cd (env k) b with
    | true =>
      obtain ⟨iv', l', g1, g2, g3⟩ := sx_spl_inv hiv hu ((sx_P2_off cd _ _).1 hP)
      exact ⟨iv', l', g1, fun S hS => List.mem_append_left _ (g2 S hS), g3⟩
    | false =>
      obtain ⟨iv', l', g1, g2, g3⟩ := sx_spl_inv hiv hw ((sx_P2_off cd _ _).2 hP)
      exact ⟨iv', l', g1, fun S hS => List.mem_append_right _ (g2 S hS), g3⟩
  · next a k =>
    rw [sx_nK_eq] at h
    obtain ⟨u, w, hu, hw, rfl⟩ := sx_both_inv h
    refine ⟨a, env k, hx, hy, ?_⟩
    rw [← sx_swp_P2 cd a (env k)]
    cases hP : mm_P2 (sx_swp cd) (env k) a with
    | true =>
      obtain ⟨iv', l', g1, g2, g3⟩ := sx_spl_inv hiv hu ((sx_P2_off _ _ _).1 hP)
      exact ⟨iv', l', g1, fun S hS => List.mem_append_left _ (g2 S hS), g3⟩
    | false =>
      obtain ⟨iv', l', g1, g2, g3⟩ := sx_spl_inv hiv hw ((sx_P2_off _ _ _).2 hP)
      exact ⟨iv', l', g1, fun S hS => List.mem_append_right _ (g2 S hS), g3⟩
  · next k j =>
    refine ⟨env k, env j, hx, hy, ?_⟩
    split at h
    · next e1 =>
      have e2 : k = j := Nat.eq_of_beq_eq_true e1
      subst e2
      have e3 : mm_P2 cd (env k) (env k) = mm_P2 cd 0 0 := by cases cd <;> simp [mm_P2]
      refine ⟨iv, l, ?_, fun _ h => h, hiv⟩
      rw [e3]
      split at h <;> next e => simp [e, h]
    · obtain ⟨u, w, hu, hw, rfl⟩ := sx_both_inv h
      cases hP : mm_P2 cd (env k) (env j) with
      | true => exact ⟨iv, u, hu, fun S hS => List.mem_append_left _ hS, hiv⟩
      | false => exact ⟨iv, w, hw, fun S hS => List.mem_append_right _ hS, hiv⟩
  · split at h
    · next e1 =>
      rw [Bool.and_eq_true] at e1
      obtain ⟨a, rfl⟩ := sx_isI_g e1.1 hx
      obtain ⟨b, rfl⟩ := sx_isI_g e1.2 hy
      obtain ⟨u, w, hu, hw, rfl⟩ := sx_both_inv h
      refine ⟨a, b, rfl, rfl, ?_⟩
      cases hP : mm_P2 cd a b with
      | true => exact ⟨iv, u, hu, fun S hS => List.mem_append_left _ hS, hiv⟩
      | false => exact ⟨iv, w, hw, fun S hS => List.mem_append_right _ hS, hiv⟩
    · cases h
end
section
def tt_m0 : List sx_C := [.inl (.int, 6, .inr (0, 0), [(0, .inr (0, 0)), (1, .inr (0, 1)), (2, .inr (0, 2)), (3, .inr (0, 3)), (4, .inr (0, 4)), (5, .inr (0, 5))]), .inl (.int, 6, .inl (.int 0), [(0, .inl (.int (-1))), (2, .inl (.int 1)), (3, .inl (.int 1)), (5, .inl (.int 1))]), .inl (.int, 6, .inl (.int 0), [(0, .inl (.int 1)), (1, .inl (.int 2)), (2, .inl (.int 3)), (3, .inl (.int 2)), (4, .inl (.int 1))]), .inl (.int, 4, .inl (.int 0), [(0, .inl (.int (-1))), (1, .inl (.int 1))]), .inl (.int, 4, .inl (.int 0), [(2, .inl (.int (-1))), (3, .inl (.int 1))])]
def tt_s0 : sx_S := ([(0, sx_M), (0, sx_M), (0, sx_M), (0, sx_M), (0, sx_M), (0, sx_M), (2147483648, 2147483712)], tt_m0, (330, sx_c330, sx_c330, [some (.inl (.ref 0)), none, none, none], [], 600000, 7302250), [])
theorem tt_9 : (sx_itF 5 mm_zs 12 [tt_s0]).isSome = true := by decide +kernel
end
