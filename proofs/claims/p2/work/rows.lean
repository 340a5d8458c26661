section
-- ===== PART A: goes FIRST, ahead of the names: the tables' words, and 'selects' of the private methods out of them =====
/-- a private method of a class that the tables say can be made, by its rows of tables_1 -/
def lw_okq (q : MethodName × Nat) : Prop := (q.1.cls ≠ "java/lang/invoke/MethodHandle" ∧ q.1.cls ≠ "java/lang/invoke/VarHandle") ∧ Cond.instantiable q.1.cls q.2 ∈ tables_1 ∧ Cond.privateMethod q.1 ∈ tables_1 ∧ Cond.instanceMethod q.1 ∈ tables_1
theorem lw_p0 : lw_okq (⟨"RaftTown", "noted", "(I)I"⟩, 8) := ⟨⟨by decide +kernel, by decide +kernel⟩, List.mem_of_getElem? (i := 23) (by decide +kernel), List.mem_of_getElem? (i := 423) (by decide +kernel), List.mem_of_getElem? (i := 424) (by decide +kernel)⟩
theorem lw_p1 : lw_okq (⟨"RaftTown", "surveyed", "()LRaftTown$Net;"⟩, 8) := ⟨⟨by decide +kernel, by decide +kernel⟩, List.mem_of_getElem? (i := 23) (by decide +kernel), List.mem_of_getElem? (i := 475) (by decide +kernel), List.mem_of_getElem? (i := 476) (by decide +kernel)⟩
theorem lw_p2 : lw_okq (⟨"RaftTown$Net", "reach", "(II)I"⟩, 6) := ⟨⟨by decide +kernel, by decide +kernel⟩, List.mem_of_getElem? (i := 343) (by decide +kernel), List.mem_of_getElem? (i := 524) (by decide +kernel), List.mem_of_getElem? (i := 525) (by decide +kernel)⟩
theorem lw_p3 : lw_okq (⟨"RaftTown", "areParents", "(II)Z"⟩, 8) := ⟨⟨by decide +kernel, by decide +kernel⟩, List.mem_of_getElem? (i := 23) (by decide +kernel), List.mem_of_getElem? (i := 572) (by decide +kernel), List.mem_of_getElem? (i := 573) (by decide +kernel)⟩
theorem lw_p4 : lw_okq (⟨"RaftTown$Town", "areKin", "(II)Z"⟩, 12) := ⟨⟨by decide +kernel, by decide +kernel⟩, List.mem_of_getElem? (i := 31) (by decide +kernel), List.mem_of_getElem? (i := 607) (by decide +kernel), List.mem_of_getElem? (i := 608) (by decide +kernel)⟩
theorem lw_p5 : lw_okq (⟨"RaftTown$Log", "placeOf", "(I)I"⟩, 9) := ⟨⟨by decide +kernel, by decide +kernel⟩, List.mem_of_getElem? (i := 61) (by decide +kernel), List.mem_of_getElem? (i := 644) (by decide +kernel), List.mem_of_getElem? (i := 645) (by decide +kernel)⟩
theorem lw_p6 : lw_okq (⟨"RaftTown", "ropeRuling", "(III)I"⟩, 8) := ⟨⟨by decide +kernel, by decide +kernel⟩, List.mem_of_getElem? (i := 23) (by decide +kernel), List.mem_of_getElem? (i := 664) (by decide +kernel), List.mem_of_getElem? (i := 665) (by decide +kernel)⟩
theorem lw_p7 : lw_okq (⟨"RaftTown$Judge", "nameNothing", "()V"⟩, 3) := ⟨⟨by decide +kernel, by decide +kernel⟩, List.mem_of_getElem? (i := 371) (by decide +kernel), List.mem_of_getElem? (i := 673) (by decide +kernel), List.mem_of_getElem? (i := 674) (by decide +kernel)⟩
theorem lw_p8 : lw_okq (⟨"RaftTown$Net", "weigh", "(I)I"⟩, 6) := ⟨⟨by decide +kernel, by decide +kernel⟩, List.mem_of_getElem? (i := 343) (by decide +kernel), List.mem_of_getElem? (i := 685) (by decide +kernel), List.mem_of_getElem? (i := 686) (by decide +kernel)⟩
theorem lw_p9 : lw_okq (⟨"RaftTown$Judge", "namePart", "(LRaftTown$Town;I)V"⟩, 3) := ⟨⟨by decide +kernel, by decide +kernel⟩, List.mem_of_getElem? (i := 371) (by decide +kernel), List.mem_of_getElem? (i := 714) (by decide +kernel), List.mem_of_getElem? (i := 715) (by decide +kernel)⟩
theorem lw_p10 : lw_okq (⟨"RaftTown$Judge", "push", "(I)V"⟩, 3) := ⟨⟨by decide +kernel, by decide +kernel⟩, List.mem_of_getElem? (i := 371) (by decide +kernel), List.mem_of_getElem? (i := 757) (by decide +kernel), List.mem_of_getElem? (i := 758) (by decide +kernel)⟩
theorem lw_p11 : lw_okq (⟨"RaftTown$Judge", "pop", "()I"⟩, 3) := ⟨⟨by decide +kernel, by decide +kernel⟩, List.mem_of_getElem? (i := 371) (by decide +kernel), List.mem_of_getElem? (i := 761) (by decide +kernel), List.mem_of_getElem? (i := 762) (by decide +kernel)⟩
theorem lw_p12 : lw_okq (⟨"RaftTown$Town", "partUnder", "(ILRaftTown$Net;)I"⟩, 12) := ⟨⟨by decide +kernel, by decide +kernel⟩, List.mem_of_getElem? (i := 31) (by decide +kernel), List.mem_of_getElem? (i := 824) (by decide +kernel), List.mem_of_getElem? (i := 825) (by decide +kernel)⟩
theorem lw_p13 : lw_okq (⟨"RaftTown$Town", "catchRain", "(I)V"⟩, 12) := ⟨⟨by decide +kernel, by decide +kernel⟩, List.mem_of_getElem? (i := 31) (by decide +kernel), List.mem_of_getElem? (i := 836) (by decide +kernel), List.mem_of_getElem? (i := 837) (by decide +kernel)⟩
theorem lw_p14 : lw_okq (⟨"RaftTown$Town", "waterGardens", "()V"⟩, 12) := ⟨⟨by decide +kernel, by decide +kernel⟩, List.mem_of_getElem? (i := 31) (by decide +kernel), List.mem_of_getElem? (i := 844) (by decide +kernel), List.mem_of_getElem? (i := 845) (by decide +kernel)⟩
theorem lw_p15 : lw_okq (⟨"RaftTown$Town", "drinkAll", "(LRaftTown$Net;)V"⟩, 12) := ⟨⟨by decide +kernel, by decide +kernel⟩, List.mem_of_getElem? (i := 31) (by decide +kernel), List.mem_of_getElem? (i := 848) (by decide +kernel), List.mem_of_getElem? (i := 849) (by decide +kernel)⟩
def lw_privs_1 : List (MethodName × Nat) := [(⟨"RaftTown", "noted", "(I)I"⟩, 8), (⟨"RaftTown", "surveyed", "()LRaftTown$Net;"⟩, 8), (⟨"RaftTown$Net", "reach", "(II)I"⟩, 6), (⟨"RaftTown", "areParents", "(II)Z"⟩, 8), (⟨"RaftTown$Town", "areKin", "(II)Z"⟩, 12), (⟨"RaftTown$Log", "placeOf", "(I)I"⟩, 9), (⟨"RaftTown", "ropeRuling", "(III)I"⟩, 8), (⟨"RaftTown$Judge", "nameNothing", "()V"⟩, 3), (⟨"RaftTown$Net", "weigh", "(I)I"⟩, 6), (⟨"RaftTown$Judge", "namePart", "(LRaftTown$Town;I)V"⟩, 3), (⟨"RaftTown$Judge", "push", "(I)V"⟩, 3), (⟨"RaftTown$Judge", "pop", "()I"⟩, 3), (⟨"RaftTown$Town", "partUnder", "(ILRaftTown$Net;)I"⟩, 12), (⟨"RaftTown$Town", "catchRain", "(I)V"⟩, 12), (⟨"RaftTown$Town", "waterGardens", "()V"⟩, 12), (⟨"RaftTown$Town", "drinkAll", "(LRaftTown$Net;)V"⟩, 12)]
theorem lw_r1 : ∀ q ∈ lw_privs_1, lw_okq q := List.forall_mem_cons.mpr ⟨lw_p0, List.forall_mem_cons.mpr ⟨lw_p1, List.forall_mem_cons.mpr ⟨lw_p2, List.forall_mem_cons.mpr ⟨lw_p3, List.forall_mem_cons.mpr ⟨lw_p4, List.forall_mem_cons.mpr ⟨lw_p5, List.forall_mem_cons.mpr ⟨lw_p6, List.forall_mem_cons.mpr ⟨lw_p7, List.forall_mem_cons.mpr ⟨lw_p8, List.forall_mem_cons.mpr ⟨lw_p9, List.forall_mem_cons.mpr ⟨lw_p10, List.forall_mem_cons.mpr ⟨lw_p11, List.forall_mem_cons.mpr ⟨lw_p12, List.forall_mem_cons.mpr ⟨lw_p13, List.forall_mem_cons.mpr ⟨lw_p14, List.forall_mem_cons.mpr ⟨lw_p15, fun _ h => absurd h List.not_mem_nil⟩⟩⟩⟩⟩⟩⟩⟩⟩⟩⟩⟩⟩⟩⟩⟩
theorem lw_p16 : lw_okq (⟨"RaftTown$Town", "drink", "(II)V"⟩, 12) := ⟨⟨by decide +kernel, by decide +kernel⟩, List.mem_of_getElem? (i := 31) (by decide +kernel), List.mem_of_getElem? (i := 852) (by decide +kernel), List.mem_of_getElem? (i := 853) (by decide +kernel)⟩
theorem lw_p17 : lw_okq (⟨"RaftTown$Town", "fullestOf", "(I)LRaftTown$Raft;"⟩, 12) := ⟨⟨by decide +kernel, by decide +kernel⟩, List.mem_of_getElem? (i := 31) (by decide +kernel), List.mem_of_getElem? (i := 856) (by decide +kernel), List.mem_of_getElem? (i := 857) (by decide +kernel)⟩
theorem lw_p18 : lw_okq (⟨"RaftTown$Town", "lose", "(II)V"⟩, 12) := ⟨⟨by decide +kernel, by decide +kernel⟩, List.mem_of_getElem? (i := 31) (by decide +kernel), List.mem_of_getElem? (i := 861) (by decide +kernel), List.mem_of_getElem? (i := 862) (by decide +kernel)⟩
theorem lw_p19 : lw_okq (⟨"RaftTown$Town", "ageRopes", "(Z)V"⟩, 12) := ⟨⟨by decide +kernel, by decide +kernel⟩, List.mem_of_getElem? (i := 31) (by decide +kernel), List.mem_of_getElem? (i := 865) (by decide +kernel), List.mem_of_getElem? (i := 866) (by decide +kernel)⟩
theorem lw_p20 : lw_okq (⟨"RaftTown$Town", "rot", "(LRaftTown$Net;)V"⟩, 12) := ⟨⟨by decide +kernel, by decide +kernel⟩, List.mem_of_getElem? (i := 31) (by decide +kernel), List.mem_of_getElem? (i := 869) (by decide +kernel), List.mem_of_getElem? (i := 870) (by decide +kernel)⟩
theorem lw_p21 : lw_okq (⟨"RaftTown$Town", "sink", "(ILRaftTown$Net;)V"⟩, 12) := ⟨⟨by decide +kernel, by decide +kernel⟩, List.mem_of_getElem? (i := 31) (by decide +kernel), List.mem_of_getElem? (i := 873) (by decide +kernel), List.mem_of_getElem? (i := 874) (by decide +kernel)⟩
theorem lw_p22 : lw_okq (⟨"RaftTown$Town", "drift", "()V"⟩, 12) := ⟨⟨by decide +kernel, by decide +kernel⟩, List.mem_of_getElem? (i := 31) (by decide +kernel), List.mem_of_getElem? (i := 881) (by decide +kernel), List.mem_of_getElem? (i := 882) (by decide +kernel)⟩
theorem lw_p23 : lw_okq (⟨"RaftTown$Sea", "ledBy", "(II)I"⟩, 3) := ⟨⟨by decide +kernel, by decide +kernel⟩, List.mem_of_getElem? (i := 37) (by decide +kernel), List.mem_of_getElem? (i := 889) (by decide +kernel), List.mem_of_getElem? (i := 890) (by decide +kernel)⟩
theorem lw_p24 : lw_okq (⟨"RaftTown$Tape", "next", "()V"⟩, 7) := ⟨⟨by decide +kernel, by decide +kernel⟩, List.mem_of_getElem? (i := 312) (by decide +kernel), List.mem_of_getElem? (i := 949) (by decide +kernel), List.mem_of_getElem? (i := 950) (by decide +kernel)⟩
theorem lw_p25 : lw_okq (⟨"RaftTown$Tape", "byteAt", "(I)I"⟩, 7) := ⟨⟨by decide +kernel, by decide +kernel⟩, List.mem_of_getElem? (i := 312) (by decide +kernel), List.mem_of_getElem? (i := 953) (by decide +kernel), List.mem_of_getElem? (i := 954) (by decide +kernel)⟩
theorem lw_p26 : lw_okq (⟨"RaftTown$Tape", "nextWord", "()V"⟩, 7) := ⟨⟨by decide +kernel, by decide +kernel⟩, List.mem_of_getElem? (i := 312) (by decide +kernel), List.mem_of_getElem? (i := 961) (by decide +kernel), List.mem_of_getElem? (i := 962) (by decide +kernel)⟩
theorem lw_p27 : lw_okq (⟨"RaftTown$Tape", "standsHere", "(Ljava/lang/String;)Z"⟩, 7) := ⟨⟨by decide +kernel, by decide +kernel⟩, List.mem_of_getElem? (i := 312) (by decide +kernel), List.mem_of_getElem? (i := 984) (by decide +kernel), List.mem_of_getElem? (i := 985) (by decide +kernel)⟩
theorem lw_p28 : lw_okq (⟨"RaftTown$Tape", "nextNumber", "()V"⟩, 7) := ⟨⟨by decide +kernel, by decide +kernel⟩, List.mem_of_getElem? (i := 312) (by decide +kernel), List.mem_of_getElem? (i := 1039) (by decide +kernel), List.mem_of_getElem? (i := 1040) (by decide +kernel)⟩
theorem lw_p29 : lw_okq (⟨"RaftTown$Tape", "readClause", "(II)Z"⟩, 7) := ⟨⟨by decide +kernel, by decide +kernel⟩, List.mem_of_getElem? (i := 312) (by decide +kernel), List.mem_of_getElem? (i := 1046) (by decide +kernel), List.mem_of_getElem? (i := 1047) (by decide +kernel)⟩
theorem lw_p30 : lw_okq (⟨"RaftTown$Tape", "pass", "(I)Z"⟩, 7) := ⟨⟨by decide +kernel, by decide +kernel⟩, List.mem_of_getElem? (i := 312) (by decide +kernel), List.mem_of_getElem? (i := 1050) (by decide +kernel), List.mem_of_getElem? (i := 1051) (by decide +kernel)⟩
theorem lw_p31 : lw_okq (⟨"RaftTown$Tape", "readOr", "(I)Z"⟩, 7) := ⟨⟨by decide +kernel, by decide +kernel⟩, List.mem_of_getElem? (i := 312) (by decide +kernel), List.mem_of_getElem? (i := 1054) (by decide +kernel), List.mem_of_getElem? (i := 1055) (by decide +kernel)⟩
def lw_privs_2 : List (MethodName × Nat) := [(⟨"RaftTown$Town", "drink", "(II)V"⟩, 12), (⟨"RaftTown$Town", "fullestOf", "(I)LRaftTown$Raft;"⟩, 12), (⟨"RaftTown$Town", "lose", "(II)V"⟩, 12), (⟨"RaftTown$Town", "ageRopes", "(Z)V"⟩, 12), (⟨"RaftTown$Town", "rot", "(LRaftTown$Net;)V"⟩, 12), (⟨"RaftTown$Town", "sink", "(ILRaftTown$Net;)V"⟩, 12), (⟨"RaftTown$Town", "drift", "()V"⟩, 12), (⟨"RaftTown$Sea", "ledBy", "(II)I"⟩, 3), (⟨"RaftTown$Tape", "next", "()V"⟩, 7), (⟨"RaftTown$Tape", "byteAt", "(I)I"⟩, 7), (⟨"RaftTown$Tape", "nextWord", "()V"⟩, 7), (⟨"RaftTown$Tape", "standsHere", "(Ljava/lang/String;)Z"⟩, 7), (⟨"RaftTown$Tape", "nextNumber", "()V"⟩, 7), (⟨"RaftTown$Tape", "readClause", "(II)Z"⟩, 7), (⟨"RaftTown$Tape", "pass", "(I)Z"⟩, 7), (⟨"RaftTown$Tape", "readOr", "(I)Z"⟩, 7)]
theorem lw_r2 : ∀ q ∈ lw_privs_2, lw_okq q := List.forall_mem_cons.mpr ⟨lw_p16, List.forall_mem_cons.mpr ⟨lw_p17, List.forall_mem_cons.mpr ⟨lw_p18, List.forall_mem_cons.mpr ⟨lw_p19, List.forall_mem_cons.mpr ⟨lw_p20, List.forall_mem_cons.mpr ⟨lw_p21, List.forall_mem_cons.mpr ⟨lw_p22, List.forall_mem_cons.mpr ⟨lw_p23, List.forall_mem_cons.mpr ⟨lw_p24, List.forall_mem_cons.mpr ⟨lw_p25, List.forall_mem_cons.mpr ⟨lw_p26, List.forall_mem_cons.mpr ⟨lw_p27, List.forall_mem_cons.mpr ⟨lw_p28, List.forall_mem_cons.mpr ⟨lw_p29, List.forall_mem_cons.mpr ⟨lw_p30, List.forall_mem_cons.mpr ⟨lw_p31, fun _ h => absurd h List.not_mem_nil⟩⟩⟩⟩⟩⟩⟩⟩⟩⟩⟩⟩⟩⟩⟩⟩
theorem lw_p32 : lw_okq (⟨"RaftTown$Tape", "readAnd", "(I)Z"⟩, 7) := ⟨⟨by decide +kernel, by decide +kernel⟩, List.mem_of_getElem? (i := 312) (by decide +kernel), List.mem_of_getElem? (i := 1058) (by decide +kernel), List.mem_of_getElem? (i := 1059) (by decide +kernel)⟩
theorem lw_p33 : lw_okq (⟨"RaftTown$Tape", "readNot", "(I)Z"⟩, 7) := ⟨⟨by decide +kernel, by decide +kernel⟩, List.mem_of_getElem? (i := 312) (by decide +kernel), List.mem_of_getElem? (i := 1062) (by decide +kernel), List.mem_of_getElem? (i := 1063) (by decide +kernel)⟩
theorem lw_p34 : lw_okq (⟨"RaftTown$Tape", "readComparison", "(I)Z"⟩, 7) := ⟨⟨by decide +kernel, by decide +kernel⟩, List.mem_of_getElem? (i := 312) (by decide +kernel), List.mem_of_getElem? (i := 1066) (by decide +kernel), List.mem_of_getElem? (i := 1067) (by decide +kernel)⟩
theorem lw_p35 : lw_okq (⟨"RaftTown$Tape", "readSum", "(I)Z"⟩, 7) := ⟨⟨by decide +kernel, by decide +kernel⟩, List.mem_of_getElem? (i := 312) (by decide +kernel), List.mem_of_getElem? (i := 1070) (by decide +kernel), List.mem_of_getElem? (i := 1071) (by decide +kernel)⟩
theorem lw_p36 : lw_okq (⟨"RaftTown$Tape", "readOne", "(I)Z"⟩, 7) := ⟨⟨by decide +kernel, by decide +kernel⟩, List.mem_of_getElem? (i := 312) (by decide +kernel), List.mem_of_getElem? (i := 1074) (by decide +kernel), List.mem_of_getElem? (i := 1075) (by decide +kernel)⟩
theorem lw_p37 : lw_okq (⟨"RaftTown", "lawAt", "(I)I"⟩, 8) := ⟨⟨by decide +kernel, by decide +kernel⟩, List.mem_of_getElem? (i := 23) (by decide +kernel), List.mem_of_getElem? (i := 1113) (by decide +kernel), List.mem_of_getElem? (i := 1114) (by decide +kernel)⟩
theorem lw_p38 : lw_okq (⟨"RaftTown$Net", "ropesOf", "(I)I"⟩, 6) := ⟨⟨by decide +kernel, by decide +kernel⟩, List.mem_of_getElem? (i := 343) (by decide +kernel), List.mem_of_getElem? (i := 1166) (by decide +kernel), List.mem_of_getElem? (i := 1167) (by decide +kernel)⟩
theorem lw_p39 : lw_okq (⟨"RaftTown$Net", "doomed", "(I)I"⟩, 6) := ⟨⟨by decide +kernel, by decide +kernel⟩, List.mem_of_getElem? (i := 343) (by decide +kernel), List.mem_of_getElem? (i := 1170) (by decide +kernel), List.mem_of_getElem? (i := 1171) (by decide +kernel)⟩
theorem lw_p40 : lw_okq (⟨"RaftTown$Net", "doomedOf", "(II)I"⟩, 6) := ⟨⟨by decide +kernel, by decide +kernel⟩, List.mem_of_getElem? (i := 343) (by decide +kernel), List.mem_of_getElem? (i := 1174) (by decide +kernel), List.mem_of_getElem? (i := 1175) (by decide +kernel)⟩
theorem lw_p41 : lw_okq (⟨"RaftTown$Net", "isBridge", "(II)Z"⟩, 6) := ⟨⟨by decide +kernel, by decide +kernel⟩, List.mem_of_getElem? (i := 343) (by decide +kernel), List.mem_of_getElem? (i := 1178) (by decide +kernel), List.mem_of_getElem? (i := 1179) (by decide +kernel)⟩
theorem lw_p42 : lw_okq (⟨"RaftTown$Net", "bridgesOf", "(I)I"⟩, 6) := ⟨⟨by decide +kernel, by decide +kernel⟩, List.mem_of_getElem? (i := 343) (by decide +kernel), List.mem_of_getElem? (i := 1182) (by decide +kernel), List.mem_of_getElem? (i := 1183) (by decide +kernel)⟩
theorem lw_p43 : lw_okq (⟨"RaftTown$Net", "holds", "(II)Z"⟩, 6) := ⟨⟨by decide +kernel, by decide +kernel⟩, List.mem_of_getElem? (i := 343) (by decide +kernel), List.mem_of_getElem? (i := 1187) (by decide +kernel), List.mem_of_getElem? (i := 1188) (by decide +kernel)⟩
theorem lw_p44 : lw_okq (⟨"RaftTown$Net", "mostKept", "(II)I"⟩, 6) := ⟨⟨by decide +kernel, by decide +kernel⟩, List.mem_of_getElem? (i := 343) (by decide +kernel), List.mem_of_getElem? (i := 1199) (by decide +kernel), List.mem_of_getElem? (i := 1200) (by decide +kernel)⟩
theorem lw_p45 : lw_okq (⟨"RaftTown", "hasSail", "(I)Z"⟩, 8) := ⟨⟨by decide +kernel, by decide +kernel⟩, List.mem_of_getElem? (i := 23) (by decide +kernel), List.mem_of_getElem? (i := 1223) (by decide +kernel), List.mem_of_getElem? (i := 1224) (by decide +kernel)⟩
theorem lw_p46 : lw_okq (⟨"RaftTown$Sea", "aDayOn", "(J)J"⟩, 3) := ⟨⟨by decide +kernel, by decide +kernel⟩, List.mem_of_getElem? (i := 37) (by decide +kernel), List.mem_of_getElem? (i := 1236) (by decide +kernel), List.mem_of_getElem? (i := 1237) (by decide +kernel)⟩
theorem lw_p47 : lw_okq (⟨"RaftTownModel", "finds", "(I)I"⟩, 26) := ⟨⟨by decide +kernel, by decide +kernel⟩, List.mem_of_getElem? (i := 1338) (by decide +kernel), List.mem_of_getElem? (i := 1433) (by decide +kernel), List.mem_of_getElem? (i := 1434) (by decide +kernel)⟩
def lw_privs_3 : List (MethodName × Nat) := [(⟨"RaftTown$Tape", "readAnd", "(I)Z"⟩, 7), (⟨"RaftTown$Tape", "readNot", "(I)Z"⟩, 7), (⟨"RaftTown$Tape", "readComparison", "(I)Z"⟩, 7), (⟨"RaftTown$Tape", "readSum", "(I)Z"⟩, 7), (⟨"RaftTown$Tape", "readOne", "(I)Z"⟩, 7), (⟨"RaftTown", "lawAt", "(I)I"⟩, 8), (⟨"RaftTown$Net", "ropesOf", "(I)I"⟩, 6), (⟨"RaftTown$Net", "doomed", "(I)I"⟩, 6), (⟨"RaftTown$Net", "doomedOf", "(II)I"⟩, 6), (⟨"RaftTown$Net", "isBridge", "(II)Z"⟩, 6), (⟨"RaftTown$Net", "bridgesOf", "(I)I"⟩, 6), (⟨"RaftTown$Net", "holds", "(II)Z"⟩, 6), (⟨"RaftTown$Net", "mostKept", "(II)I"⟩, 6), (⟨"RaftTown", "hasSail", "(I)Z"⟩, 8), (⟨"RaftTown$Sea", "aDayOn", "(J)J"⟩, 3), (⟨"RaftTownModel", "finds", "(I)I"⟩, 26)]
theorem lw_r3 : ∀ q ∈ lw_privs_3, lw_okq q := List.forall_mem_cons.mpr ⟨lw_p32, List.forall_mem_cons.mpr ⟨lw_p33, List.forall_mem_cons.mpr ⟨lw_p34, List.forall_mem_cons.mpr ⟨lw_p35, List.forall_mem_cons.mpr ⟨lw_p36, List.forall_mem_cons.mpr ⟨lw_p37, List.forall_mem_cons.mpr ⟨lw_p38, List.forall_mem_cons.mpr ⟨lw_p39, List.forall_mem_cons.mpr ⟨lw_p40, List.forall_mem_cons.mpr ⟨lw_p41, List.forall_mem_cons.mpr ⟨lw_p42, List.forall_mem_cons.mpr ⟨lw_p43, List.forall_mem_cons.mpr ⟨lw_p44, List.forall_mem_cons.mpr ⟨lw_p45, List.forall_mem_cons.mpr ⟨lw_p46, List.forall_mem_cons.mpr ⟨lw_p47, fun _ h => absurd h List.not_mem_nil⟩⟩⟩⟩⟩⟩⟩⟩⟩⟩⟩⟩⟩⟩⟩⟩
theorem lw_p48 : lw_okq (⟨"RaftTownModel", "makes", "(III)V"⟩, 26) := ⟨⟨by decide +kernel, by decide +kernel⟩, List.mem_of_getElem? (i := 1338) (by decide +kernel), List.mem_of_getElem? (i := 1442) (by decide +kernel), List.mem_of_getElem? (i := 1443) (by decide +kernel)⟩
theorem lw_p49 : lw_okq (⟨"RaftTownModel", "isFloat", "(I)Z"⟩, 26) := ⟨⟨by decide +kernel, by decide +kernel⟩, List.mem_of_getElem? (i := 1338) (by decide +kernel), List.mem_of_getElem? (i := 1450) (by decide +kernel), List.mem_of_getElem? (i := 1451) (by decide +kernel)⟩
theorem lw_p50 : lw_okq (⟨"RaftTownModel", "own", "(II)I"⟩, 26) := ⟨⟨by decide +kernel, by decide +kernel⟩, List.mem_of_getElem? (i := 1338) (by decide +kernel), List.mem_of_getElem? (i := 1454) (by decide +kernel), List.mem_of_getElem? (i := 1455) (by decide +kernel)⟩
theorem lw_p51 : lw_okq (⟨"RaftTownModel", "weightOf", "(I)I"⟩, 26) := ⟨⟨by decide +kernel, by decide +kernel⟩, List.mem_of_getElem? (i := 1338) (by decide +kernel), List.mem_of_getElem? (i := 1463) (by decide +kernel), List.mem_of_getElem? (i := 1464) (by decide +kernel)⟩
theorem lw_p52 : lw_okq (⟨"RaftTownModel", "isOn", "(II)Z"⟩, 26) := ⟨⟨by decide +kernel, by decide +kernel⟩, List.mem_of_getElem? (i := 1338) (by decide +kernel), List.mem_of_getElem? (i := 1467) (by decide +kernel), List.mem_of_getElem? (i := 1468) (by decide +kernel)⟩
theorem lw_p53 : lw_okq (⟨"RaftTownModel", "isLost", "(I)Z"⟩, 26) := ⟨⟨by decide +kernel, by decide +kernel⟩, List.mem_of_getElem? (i := 1338) (by decide +kernel), List.mem_of_getElem? (i := 1471) (by decide +kernel), List.mem_of_getElem? (i := 1472) (by decide +kernel)⟩
theorem lw_p54 : lw_okq (⟨"RaftTownModel", "ofPerson", "(II)I"⟩, 26) := ⟨⟨by decide +kernel, by decide +kernel⟩, List.mem_of_getElem? (i := 1338) (by decide +kernel), List.mem_of_getElem? (i := 1475) (by decide +kernel), List.mem_of_getElem? (i := 1476) (by decide +kernel)⟩
theorem lw_p55 : lw_okq (⟨"RaftTownModel", "areaOf", "(I)I"⟩, 26) := ⟨⟨by decide +kernel, by decide +kernel⟩, List.mem_of_getElem? (i := 1338) (by decide +kernel), List.mem_of_getElem? (i := 1479) (by decide +kernel), List.mem_of_getElem? (i := 1480) (by decide +kernel)⟩
theorem lw_p56 : lw_okq (⟨"RaftTownModel", "allRopes", "()I"⟩, 26) := ⟨⟨by decide +kernel, by decide +kernel⟩, List.mem_of_getElem? (i := 1338) (by decide +kernel), List.mem_of_getElem? (i := 1483) (by decide +kernel), List.mem_of_getElem? (i := 1484) (by decide +kernel)⟩
theorem lw_p57 : lw_okq (⟨"RaftTownModel", "isLaid", "(I)Z"⟩, 26) := ⟨⟨by decide +kernel, by decide +kernel⟩, List.mem_of_getElem? (i := 1338) (by decide +kernel), List.mem_of_getElem? (i := 1487) (by decide +kernel), List.mem_of_getElem? (i := 1488) (by decide +kernel)⟩
theorem lw_p58 : lw_okq (⟨"RaftTownModel", "ofRope", "(II)I"⟩, 26) := ⟨⟨by decide +kernel, by decide +kernel⟩, List.mem_of_getElem? (i := 1338) (by decide +kernel), List.mem_of_getElem? (i := 1491) (by decide +kernel), List.mem_of_getElem? (i := 1492) (by decide +kernel)⟩
theorem lw_p59 : lw_okq (⟨"RaftTownModel", "partOf", "(II)I"⟩, 26) := ⟨⟨by decide +kernel, by decide +kernel⟩, List.mem_of_getElem? (i := 1338) (by decide +kernel), List.mem_of_getElem? (i := 1495) (by decide +kernel), List.mem_of_getElem? (i := 1496) (by decide +kernel)⟩
theorem lw_p60 : lw_okq (⟨"RaftTownModel", "isSunk", "(I)Z"⟩, 26) := ⟨⟨by decide +kernel, by decide +kernel⟩, List.mem_of_getElem? (i := 1338) (by decide +kernel), List.mem_of_getElem? (i := 1506) (by decide +kernel), List.mem_of_getElem? (i := 1507) (by decide +kernel)⟩
theorem lw_p61 : lw_okq (⟨"RaftTownModel", "roomOf", "(I)I"⟩, 26) := ⟨⟨by decide +kernel, by decide +kernel⟩, List.mem_of_getElem? (i := 1338) (by decide +kernel), List.mem_of_getElem? (i := 1511) (by decide +kernel), List.mem_of_getElem? (i := 1512) (by decide +kernel)⟩
theorem lw_p62 : lw_okq (⟨"RaftTownModel", "isPerson", "(I)Z"⟩, 26) := ⟨⟨by decide +kernel, by decide +kernel⟩, List.mem_of_getElem? (i := 1338) (by decide +kernel), List.mem_of_getElem? (i := 1530) (by decide +kernel), List.mem_of_getElem? (i := 1531) (by decide +kernel)⟩
theorem lw_p63 : lw_okq (⟨"RaftTownModel", "areKin", "(II)Z"⟩, 26) := ⟨⟨by decide +kernel, by decide +kernel⟩, List.mem_of_getElem? (i := 1338) (by decide +kernel), List.mem_of_getElem? (i := 1543) (by decide +kernel), List.mem_of_getElem? (i := 1544) (by decide +kernel)⟩
def lw_privs_4 : List (MethodName × Nat) := [(⟨"RaftTownModel", "makes", "(III)V"⟩, 26), (⟨"RaftTownModel", "isFloat", "(I)Z"⟩, 26), (⟨"RaftTownModel", "own", "(II)I"⟩, 26), (⟨"RaftTownModel", "weightOf", "(I)I"⟩, 26), (⟨"RaftTownModel", "isOn", "(II)Z"⟩, 26), (⟨"RaftTownModel", "isLost", "(I)Z"⟩, 26), (⟨"RaftTownModel", "ofPerson", "(II)I"⟩, 26), (⟨"RaftTownModel", "areaOf", "(I)I"⟩, 26), (⟨"RaftTownModel", "allRopes", "()I"⟩, 26), (⟨"RaftTownModel", "isLaid", "(I)Z"⟩, 26), (⟨"RaftTownModel", "ofRope", "(II)I"⟩, 26), (⟨"RaftTownModel", "partOf", "(II)I"⟩, 26), (⟨"RaftTownModel", "isSunk", "(I)Z"⟩, 26), (⟨"RaftTownModel", "roomOf", "(I)I"⟩, 26), (⟨"RaftTownModel", "isPerson", "(I)Z"⟩, 26), (⟨"RaftTownModel", "areKin", "(II)Z"⟩, 26)]
theorem lw_r4 : ∀ q ∈ lw_privs_4, lw_okq q := List.forall_mem_cons.mpr ⟨lw_p48, List.forall_mem_cons.mpr ⟨lw_p49, List.forall_mem_cons.mpr ⟨lw_p50, List.forall_mem_cons.mpr ⟨lw_p51, List.forall_mem_cons.mpr ⟨lw_p52, List.forall_mem_cons.mpr ⟨lw_p53, List.forall_mem_cons.mpr ⟨lw_p54, List.forall_mem_cons.mpr ⟨lw_p55, List.forall_mem_cons.mpr ⟨lw_p56, List.forall_mem_cons.mpr ⟨lw_p57, List.forall_mem_cons.mpr ⟨lw_p58, List.forall_mem_cons.mpr ⟨lw_p59, List.forall_mem_cons.mpr ⟨lw_p60, List.forall_mem_cons.mpr ⟨lw_p61, List.forall_mem_cons.mpr ⟨lw_p62, List.forall_mem_cons.mpr ⟨lw_p63, fun _ h => absurd h List.not_mem_nil⟩⟩⟩⟩⟩⟩⟩⟩⟩⟩⟩⟩⟩⟩⟩⟩
theorem lw_p64 : lw_okq (⟨"RaftTownModel", "isParent", "(II)Z"⟩, 26) := ⟨⟨by decide +kernel, by decide +kernel⟩, List.mem_of_getElem? (i := 1338) (by decide +kernel), List.mem_of_getElem? (i := 1547) (by decide +kernel), List.mem_of_getElem? (i := 1548) (by decide +kernel)⟩
theorem lw_p65 : lw_okq (⟨"RaftTownModel", "partMany", "()I"⟩, 26) := ⟨⟨by decide +kernel, by decide +kernel⟩, List.mem_of_getElem? (i := 1338) (by decide +kernel), List.mem_of_getElem? (i := 1555) (by decide +kernel), List.mem_of_getElem? (i := 1556) (by decide +kernel)⟩
theorem lw_p66 : lw_okq (⟨"RaftTownModel", "hasRoom", "(II)Z"⟩, 26) := ⟨⟨by decide +kernel, by decide +kernel⟩, List.mem_of_getElem? (i := 1338) (by decide +kernel), List.mem_of_getElem? (i := 1567) (by decide +kernel), List.mem_of_getElem? (i := 1568) (by decide +kernel)⟩
theorem lw_p67 : lw_okq (⟨"RaftTownModel", "tellsOn", "(I)V"⟩, 26) := ⟨⟨by decide +kernel, by decide +kernel⟩, List.mem_of_getElem? (i := 1338) (by decide +kernel), List.mem_of_getElem? (i := 1571) (by decide +kernel), List.mem_of_getElem? (i := 1572) (by decide +kernel)⟩
theorem lw_p68 : lw_okq (⟨"RaftTownModel", "happens", "(III)V"⟩, 26) := ⟨⟨by decide +kernel, by decide +kernel⟩, List.mem_of_getElem? (i := 1338) (by decide +kernel), List.mem_of_getElem? (i := 1575) (by decide +kernel), List.mem_of_getElem? (i := 1576) (by decide +kernel)⟩
theorem lw_p69 : lw_okq (⟨"RaftTownModel", "isRope", "(I)Z"⟩, 26) := ⟨⟨by decide +kernel, by decide +kernel⟩, List.mem_of_getElem? (i := 1338) (by decide +kernel), List.mem_of_getElem? (i := 1583) (by decide +kernel), List.mem_of_getElem? (i := 1584) (by decide +kernel)⟩
theorem lw_p70 : lw_okq (⟨"RaftTownModel", "strengthOf", "(I)I"⟩, 26) := ⟨⟨by decide +kernel, by decide +kernel⟩, List.mem_of_getElem? (i := 1338) (by decide +kernel), List.mem_of_getElem? (i := 1587) (by decide +kernel), List.mem_of_getElem? (i := 1588) (by decide +kernel)⟩
theorem lw_p71 : lw_okq (⟨"RaftTownModel", "weighs", "()V"⟩, 26) := ⟨⟨by decide +kernel, by decide +kernel⟩, List.mem_of_getElem? (i := 1338) (by decide +kernel), List.mem_of_getElem? (i := 1591) (by decide +kernel), List.mem_of_getElem? (i := 1592) (by decide +kernel)⟩
theorem lw_p72 : lw_okq (⟨"RaftTownModel", "hangOf", "(II)I"⟩, 26) := ⟨⟨by decide +kernel, by decide +kernel⟩, List.mem_of_getElem? (i := 1338) (by decide +kernel), List.mem_of_getElem? (i := 1595) (by decide +kernel), List.mem_of_getElem? (i := 1596) (by decide +kernel)⟩
theorem lw_p73 : lw_okq (⟨"RaftTownModel", "weightOfAll", "(I)I"⟩, 26) := ⟨⟨by decide +kernel, by decide +kernel⟩, List.mem_of_getElem? (i := 1338) (by decide +kernel), List.mem_of_getElem? (i := 1599) (by decide +kernel), List.mem_of_getElem? (i := 1600) (by decide +kernel)⟩
theorem lw_p74 : lw_okq (⟨"RaftTownModel", "loadOf", "(III)I"⟩, 26) := ⟨⟨by decide +kernel, by decide +kernel⟩, List.mem_of_getElem? (i := 1338) (by decide +kernel), List.mem_of_getElem? (i := 1610) (by decide +kernel), List.mem_of_getElem? (i := 1611) (by decide +kernel)⟩
theorem lw_p75 : lw_okq (⟨"RaftTownModel", "partsFirst", "(II)I"⟩, 26) := ⟨⟨by decide +kernel, by decide +kernel⟩, List.mem_of_getElem? (i := 1338) (by decide +kernel), List.mem_of_getElem? (i := 1618) (by decide +kernel), List.mem_of_getElem? (i := 1619) (by decide +kernel)⟩
theorem lw_p76 : lw_okq (⟨"RaftTownModel", "passes", "(II)I"⟩, 26) := ⟨⟨by decide +kernel, by decide +kernel⟩, List.mem_of_getElem? (i := 1338) (by decide +kernel), List.mem_of_getElem? (i := 1634) (by decide +kernel), List.mem_of_getElem? (i := 1635) (by decide +kernel)⟩
theorem lw_p77 : lw_okq (⟨"RaftTownModel", "partsAll", "(I)I"⟩, 26) := ⟨⟨by decide +kernel, by decide +kernel⟩, List.mem_of_getElem? (i := 1338) (by decide +kernel), List.mem_of_getElem? (i := 1638) (by decide +kernel), List.mem_of_getElem? (i := 1639) (by decide +kernel)⟩
theorem lw_p78 : lw_okq (⟨"RaftTownModel", "rains", "(I)V"⟩, 26) := ⟨⟨by decide +kernel, by decide +kernel⟩, List.mem_of_getElem? (i := 1338) (by decide +kernel), List.mem_of_getElem? (i := 1642) (by decide +kernel), List.mem_of_getElem? (i := 1643) (by decide +kernel)⟩
theorem lw_p79 : lw_okq (⟨"RaftTownModel", "drinks", "(I)Z"⟩, 26) := ⟨⟨by decide +kernel, by decide +kernel⟩, List.mem_of_getElem? (i := 1338) (by decide +kernel), List.mem_of_getElem? (i := 1646) (by decide +kernel), List.mem_of_getElem? (i := 1647) (by decide +kernel)⟩
def lw_privs_5 : List (MethodName × Nat) := [(⟨"RaftTownModel", "isParent", "(II)Z"⟩, 26), (⟨"RaftTownModel", "partMany", "()I"⟩, 26), (⟨"RaftTownModel", "hasRoom", "(II)Z"⟩, 26), (⟨"RaftTownModel", "tellsOn", "(I)V"⟩, 26), (⟨"RaftTownModel", "happens", "(III)V"⟩, 26), (⟨"RaftTownModel", "isRope", "(I)Z"⟩, 26), (⟨"RaftTownModel", "strengthOf", "(I)I"⟩, 26), (⟨"RaftTownModel", "weighs", "()V"⟩, 26), (⟨"RaftTownModel", "hangOf", "(II)I"⟩, 26), (⟨"RaftTownModel", "weightOfAll", "(I)I"⟩, 26), (⟨"RaftTownModel", "loadOf", "(III)I"⟩, 26), (⟨"RaftTownModel", "partsFirst", "(II)I"⟩, 26), (⟨"RaftTownModel", "passes", "(II)I"⟩, 26), (⟨"RaftTownModel", "partsAll", "(I)I"⟩, 26), (⟨"RaftTownModel", "rains", "(I)V"⟩, 26), (⟨"RaftTownModel", "drinks", "(I)Z"⟩, 26)]
theorem lw_r5 : ∀ q ∈ lw_privs_5, lw_okq q := List.forall_mem_cons.mpr ⟨lw_p64, List.forall_mem_cons.mpr ⟨lw_p65, List.forall_mem_cons.mpr ⟨lw_p66, List.forall_mem_cons.mpr ⟨lw_p67, List.forall_mem_cons.mpr ⟨lw_p68, List.forall_mem_cons.mpr ⟨lw_p69, List.forall_mem_cons.mpr ⟨lw_p70, List.forall_mem_cons.mpr ⟨lw_p71, List.forall_mem_cons.mpr ⟨lw_p72, List.forall_mem_cons.mpr ⟨lw_p73, List.forall_mem_cons.mpr ⟨lw_p74, List.forall_mem_cons.mpr ⟨lw_p75, List.forall_mem_cons.mpr ⟨lw_p76, List.forall_mem_cons.mpr ⟨lw_p77, List.forall_mem_cons.mpr ⟨lw_p78, List.forall_mem_cons.mpr ⟨lw_p79, fun _ h => absurd h List.not_mem_nil⟩⟩⟩⟩⟩⟩⟩⟩⟩⟩⟩⟩⟩⟩⟩⟩
theorem lw_p80 : lw_okq (⟨"RaftTownModel", "allDrink", "()V"⟩, 26) := ⟨⟨by decide +kernel, by decide +kernel⟩, List.mem_of_getElem? (i := 1338) (by decide +kernel), List.mem_of_getElem? (i := 1650) (by decide +kernel), List.mem_of_getElem? (i := 1651) (by decide +kernel)⟩
theorem lw_p81 : lw_okq (⟨"RaftTownModel", "loses", "(II)V"⟩, 26) := ⟨⟨by decide +kernel, by decide +kernel⟩, List.mem_of_getElem? (i := 1338) (by decide +kernel), List.mem_of_getElem? (i := 1654) (by decide +kernel), List.mem_of_getElem? (i := 1655) (by decide +kernel)⟩
theorem lw_p82 : lw_okq (⟨"RaftTownModel", "ropesAge", "(I)V"⟩, 26) := ⟨⟨by decide +kernel, by decide +kernel⟩, List.mem_of_getElem? (i := 1338) (by decide +kernel), List.mem_of_getElem? (i := 1658) (by decide +kernel), List.mem_of_getElem? (i := 1659) (by decide +kernel)⟩
theorem lw_p83 : lw_okq (⟨"RaftTownModel", "rots", "()V"⟩, 26) := ⟨⟨by decide +kernel, by decide +kernel⟩, List.mem_of_getElem? (i := 1338) (by decide +kernel), List.mem_of_getElem? (i := 1662) (by decide +kernel), List.mem_of_getElem? (i := 1663) (by decide +kernel)⟩
theorem lw_p84 : lw_okq (⟨"RaftTownModel", "sinks", "(I)V"⟩, 26) := ⟨⟨by decide +kernel, by decide +kernel⟩, List.mem_of_getElem? (i := 1338) (by decide +kernel), List.mem_of_getElem? (i := 1666) (by decide +kernel), List.mem_of_getElem? (i := 1667) (by decide +kernel)⟩
theorem lw_p85 : lw_okq (⟨"RaftTownModel", "drifts", "()V"⟩, 26) := ⟨⟨by decide +kernel, by decide +kernel⟩, List.mem_of_getElem? (i := 1338) (by decide +kernel), List.mem_of_getElem? (i := 1670) (by decide +kernel), List.mem_of_getElem? (i := 1671) (by decide +kernel)⟩
theorem lw_p86 : lw_okq (⟨"RaftTownModel", "leads", "(II)I"⟩, 26) := ⟨⟨by decide +kernel, by decide +kernel⟩, List.mem_of_getElem? (i := 1338) (by decide +kernel), List.mem_of_getElem? (i := 1674) (by decide +kernel), List.mem_of_getElem? (i := 1675) (by decide +kernel)⟩
theorem lw_p87 : lw_okq (⟨"RaftTownModel", "headsOf", "(I)I"⟩, 26) := ⟨⟨by decide +kernel, by decide +kernel⟩, List.mem_of_getElem? (i := 1338) (by decide +kernel), List.mem_of_getElem? (i := 1689) (by decide +kernel), List.mem_of_getElem? (i := 1690) (by decide +kernel)⟩
theorem lw_p88 : lw_okq (⟨"RaftTownModel", "waterOf", "(I)I"⟩, 26) := ⟨⟨by decide +kernel, by decide +kernel⟩, List.mem_of_getElem? (i := 1338) (by decide +kernel), List.mem_of_getElem? (i := 1693) (by decide +kernel), List.mem_of_getElem? (i := 1694) (by decide +kernel)⟩
theorem lw_p89 : lw_okq (⟨"RaftTownModel", "reads", "()Z"⟩, 26) := ⟨⟨by decide +kernel, by decide +kernel⟩, List.mem_of_getElem? (i := 1338) (by decide +kernel), List.mem_of_getElem? (i := 1705) (by decide +kernel), List.mem_of_getElem? (i := 1706) (by decide +kernel)⟩
theorem lw_p90 : lw_okq (⟨"RaftTownModel", "looks", "()V"⟩, 26) := ⟨⟨by decide +kernel, by decide +kernel⟩, List.mem_of_getElem? (i := 1338) (by decide +kernel), List.mem_of_getElem? (i := 1709) (by decide +kernel), List.mem_of_getElem? (i := 1710) (by decide +kernel)⟩
theorem lw_p91 : lw_okq (⟨"RaftTownModel", "byteAt", "(I)I"⟩, 26) := ⟨⟨by decide +kernel, by decide +kernel⟩, List.mem_of_getElem? (i := 1338) (by decide +kernel), List.mem_of_getElem? (i := 1713) (by decide +kernel), List.mem_of_getElem? (i := 1714) (by decide +kernel)⟩
theorem lw_p92 : lw_okq (⟨"RaftTownModel", "wordOf", "()I"⟩, 26) := ⟨⟨by decide +kernel, by decide +kernel⟩, List.mem_of_getElem? (i := 1338) (by decide +kernel), List.mem_of_getElem? (i := 1720) (by decide +kernel), List.mem_of_getElem? (i := 1721) (by decide +kernel)⟩
theorem lw_p93 : lw_okq (⟨"RaftTownModel", "readsE", "(I)Z"⟩, 26) := ⟨⟨by decide +kernel, by decide +kernel⟩, List.mem_of_getElem? (i := 1338) (by decide +kernel), List.mem_of_getElem? (i := 1730) (by decide +kernel), List.mem_of_getElem? (i := 1731) (by decide +kernel)⟩
theorem lw_p94 : lw_okq (⟨"RaftTownModel", "waitsOf", "(I)I"⟩, 26) := ⟨⟨by decide +kernel, by decide +kernel⟩, List.mem_of_getElem? (i := 1338) (by decide +kernel), List.mem_of_getElem? (i := 1734) (by decide +kernel), List.mem_of_getElem? (i := 1735) (by decide +kernel)⟩
theorem lw_p95 : lw_okq (⟨"RaftTownModel", "lays", "(I)V"⟩, 26) := ⟨⟨by decide +kernel, by decide +kernel⟩, List.mem_of_getElem? (i := 1338) (by decide +kernel), List.mem_of_getElem? (i := 1738) (by decide +kernel), List.mem_of_getElem? (i := 1739) (by decide +kernel)⟩
def lw_privs_6 : List (MethodName × Nat) := [(⟨"RaftTownModel", "allDrink", "()V"⟩, 26), (⟨"RaftTownModel", "loses", "(II)V"⟩, 26), (⟨"RaftTownModel", "ropesAge", "(I)V"⟩, 26), (⟨"RaftTownModel", "rots", "()V"⟩, 26), (⟨"RaftTownModel", "sinks", "(I)V"⟩, 26), (⟨"RaftTownModel", "drifts", "()V"⟩, 26), (⟨"RaftTownModel", "leads", "(II)I"⟩, 26), (⟨"RaftTownModel", "headsOf", "(I)I"⟩, 26), (⟨"RaftTownModel", "waterOf", "(I)I"⟩, 26), (⟨"RaftTownModel", "reads", "()Z"⟩, 26), (⟨"RaftTownModel", "looks", "()V"⟩, 26), (⟨"RaftTownModel", "byteAt", "(I)I"⟩, 26), (⟨"RaftTownModel", "wordOf", "()I"⟩, 26), (⟨"RaftTownModel", "readsE", "(I)Z"⟩, 26), (⟨"RaftTownModel", "waitsOf", "(I)I"⟩, 26), (⟨"RaftTownModel", "lays", "(I)V"⟩, 26)]
theorem lw_r6 : ∀ q ∈ lw_privs_6, lw_okq q := List.forall_mem_cons.mpr ⟨lw_p80, List.forall_mem_cons.mpr ⟨lw_p81, List.forall_mem_cons.mpr ⟨lw_p82, List.forall_mem_cons.mpr ⟨lw_p83, List.forall_mem_cons.mpr ⟨lw_p84, List.forall_mem_cons.mpr ⟨lw_p85, List.forall_mem_cons.mpr ⟨lw_p86, List.forall_mem_cons.mpr ⟨lw_p87, List.forall_mem_cons.mpr ⟨lw_p88, List.forall_mem_cons.mpr ⟨lw_p89, List.forall_mem_cons.mpr ⟨lw_p90, List.forall_mem_cons.mpr ⟨lw_p91, List.forall_mem_cons.mpr ⟨lw_p92, List.forall_mem_cons.mpr ⟨lw_p93, List.forall_mem_cons.mpr ⟨lw_p94, List.forall_mem_cons.mpr ⟨lw_p95, fun _ h => absurd h List.not_mem_nil⟩⟩⟩⟩⟩⟩⟩⟩⟩⟩⟩⟩⟩⟩⟩⟩
theorem lw_p96 : lw_okq (⟨"RaftTownModel", "settles", "(I)V"⟩, 26) := ⟨⟨by decide +kernel, by decide +kernel⟩, List.mem_of_getElem? (i := 1338) (by decide +kernel), List.mem_of_getElem? (i := 1742) (by decide +kernel), List.mem_of_getElem? (i := 1743) (by decide +kernel)⟩
theorem lw_p97 : lw_okq (⟨"RaftTownModel", "isTested", "()Z"⟩, 26) := ⟨⟨by decide +kernel, by decide +kernel⟩, List.mem_of_getElem? (i := 1338) (by decide +kernel), List.mem_of_getElem? (i := 1749) (by decide +kernel), List.mem_of_getElem? (i := 1750) (by decide +kernel)⟩
theorem lw_p98 : lw_okq (⟨"RaftTownModel", "lawOf", "(I)I"⟩, 26) := ⟨⟨by decide +kernel, by decide +kernel⟩, List.mem_of_getElem? (i := 1338) (by decide +kernel), List.mem_of_getElem? (i := 1761) (by decide +kernel), List.mem_of_getElem? (i := 1762) (by decide +kernel)⟩
theorem lw_p99 : lw_okq (⟨"RaftTownModel", "cutOf", "(IIII)I"⟩, 26) := ⟨⟨by decide +kernel, by decide +kernel⟩, List.mem_of_getElem? (i := 1338) (by decide +kernel), List.mem_of_getElem? (i := 1769) (by decide +kernel), List.mem_of_getElem? (i := 1770) (by decide +kernel)⟩
theorem lw_p100 : lw_okq (⟨"RaftTownModel", "namesOf", "(I)V"⟩, 26) := ⟨⟨by decide +kernel, by decide +kernel⟩, List.mem_of_getElem? (i := 1338) (by decide +kernel), List.mem_of_getElem? (i := 1773) (by decide +kernel), List.mem_of_getElem? (i := 1774) (by decide +kernel)⟩
theorem lw_p101 : lw_okq (⟨"RaftTownModel", "kinOn", "(II)I"⟩, 26) := ⟨⟨by decide +kernel, by decide +kernel⟩, List.mem_of_getElem? (i := 1338) (by decide +kernel), List.mem_of_getElem? (i := 1777) (by decide +kernel), List.mem_of_getElem? (i := 1778) (by decide +kernel)⟩
theorem lw_p102 : lw_okq (⟨"RaftTownModel", "worth", "(II)I"⟩, 26) := ⟨⟨by decide +kernel, by decide +kernel⟩, List.mem_of_getElem? (i := 1338) (by decide +kernel), List.mem_of_getElem? (i := 1781) (by decide +kernel), List.mem_of_getElem? (i := 1782) (by decide +kernel)⟩
theorem lw_p103 : lw_okq (⟨"RaftTownModel", "holds", "(II)Z"⟩, 26) := ⟨⟨by decide +kernel, by decide +kernel⟩, List.mem_of_getElem? (i := 1338) (by decide +kernel), List.mem_of_getElem? (i := 1808) (by decide +kernel), List.mem_of_getElem? (i := 1809) (by decide +kernel)⟩
theorem lw_p104 : lw_okq (⟨"RaftTownModel", "lostBy", "(II)I"⟩, 26) := ⟨⟨by decide +kernel, by decide +kernel⟩, List.mem_of_getElem? (i := 1338) (by decide +kernel), List.mem_of_getElem? (i := 1816) (by decide +kernel), List.mem_of_getElem? (i := 1817) (by decide +kernel)⟩
theorem lw_p105 : lw_okq (⟨"RaftTownModel", "hasSail", "(I)Z"⟩, 26) := ⟨⟨by decide +kernel, by decide +kernel⟩, List.mem_of_getElem? (i := 1338) (by decide +kernel), List.mem_of_getElem? (i := 1828) (by decide +kernel), List.mem_of_getElem? (i := 1829) (by decide +kernel)⟩
theorem lw_p106 : lw_okq (⟨"RaftTownModel", "copies", "()V"⟩, 26) := ⟨⟨by decide +kernel, by decide +kernel⟩, List.mem_of_getElem? (i := 1338) (by decide +kernel), List.mem_of_getElem? (i := 1835) (by decide +kernel), List.mem_of_getElem? (i := 1836) (by decide +kernel)⟩
def lw_privs_7 : List (MethodName × Nat) := [(⟨"RaftTownModel", "settles", "(I)V"⟩, 26), (⟨"RaftTownModel", "isTested", "()Z"⟩, 26), (⟨"RaftTownModel", "lawOf", "(I)I"⟩, 26), (⟨"RaftTownModel", "cutOf", "(IIII)I"⟩, 26), (⟨"RaftTownModel", "namesOf", "(I)V"⟩, 26), (⟨"RaftTownModel", "kinOn", "(II)I"⟩, 26), (⟨"RaftTownModel", "worth", "(II)I"⟩, 26), (⟨"RaftTownModel", "holds", "(II)Z"⟩, 26), (⟨"RaftTownModel", "lostBy", "(II)I"⟩, 26), (⟨"RaftTownModel", "hasSail", "(I)Z"⟩, 26), (⟨"RaftTownModel", "copies", "()V"⟩, 26)]
theorem lw_r7 : ∀ q ∈ lw_privs_7, lw_okq q := List.forall_mem_cons.mpr ⟨lw_p96, List.forall_mem_cons.mpr ⟨lw_p97, List.forall_mem_cons.mpr ⟨lw_p98, List.forall_mem_cons.mpr ⟨lw_p99, List.forall_mem_cons.mpr ⟨lw_p100, List.forall_mem_cons.mpr ⟨lw_p101, List.forall_mem_cons.mpr ⟨lw_p102, List.forall_mem_cons.mpr ⟨lw_p103, List.forall_mem_cons.mpr ⟨lw_p104, List.forall_mem_cons.mpr ⟨lw_p105, List.forall_mem_cons.mpr ⟨lw_p106, fun _ h => absurd h List.not_mem_nil⟩⟩⟩⟩⟩⟩⟩⟩⟩⟩⟩
def lw_privs : List (MethodName × Nat) := lw_privs_1 ++ (lw_privs_2 ++ (lw_privs_3 ++ (lw_privs_4 ++ (lw_privs_5 ++ (lw_privs_6 ++ (lw_privs_7))))))
def lw_tbl : List Cond := k2_sels lw_privs ++ tables_1
theorem lw_privs_ok : ∀ q ∈ lw_privs, lw_okq q := by
  show ∀ q ∈ lw_privs_1 ++ (lw_privs_2 ++ (lw_privs_3 ++ (lw_privs_4 ++ (lw_privs_5 ++ (lw_privs_6 ++ (lw_privs_7)))))), lw_okq q
  exact List.forall_mem_append.mpr ⟨lw_r1, List.forall_mem_append.mpr ⟨lw_r2, List.forall_mem_append.mpr ⟨lw_r3, List.forall_mem_append.mpr ⟨lw_r4, List.forall_mem_append.mpr ⟨lw_r5, List.forall_mem_append.mpr ⟨lw_r6, lw_r7⟩⟩⟩⟩⟩⟩
end
section
/-! ===== the small machine: its memory, and how the heap holds it ===== -/
/-- a cell: an array of a type, or an object of the class of a number; addresses are places in the memory -/
abbrev mm_C : Type := (FieldType × List Value) ⊕ (Nat × List Value)
def mm_sh (φ : Nat → Nat) : Value → Value
  | .ref a => .ref (φ a)
  | v => v
def mm_sl (φ : Nat → Nat) (l : List (Nat × Value)) : List (Nat × Value) := l.map fun q => (q.1, mm_sh φ q.2)
def mm_ph (φ : Nat → Nat) (kx bs : Nat) : Prop := (∀ i, i < kx → φ i < bs) ∧ ∀ i, kx ≤ i → φ i = bs + (i - kx)
/-- nothing but class and contents -/
def mm_pl (cell : Cell) : Prop := cell.vm = .none ∧ cell = { cls := cell.cls, slots := cell.slots, vm := .none }
theorem mm_pl_set {cell : Cell} (h : mm_pl cell) (k : Nat) (v : Value) : mm_pl (cell.setSlot k v) := by
  refine ⟨h.1, ?_⟩
  rw [h.2]
  rfl
/-- what is read of a row that may be another's: its first places -/
def mm_wk (φ : Nat → Nat) (cell : Cell) (xs : List Value) : Prop := xs.length ≤ cell.slots.size ∧ cell.slots.size.toInt32 = Int32.ofNat xs.length ∧ ∀ (j : Nat) (v : Value), xs[j]? = some v → cell.slots[j]? = some (mm_sh φ v)
theorem mm_wk_of {φ : Nat → Nat} {cell : Cell} {xs : List Value} (h : cell.slots = (xs.map (mm_sh φ)).toArray) : mm_wk φ cell xs := by
  refine ⟨by rw [h]; simp, by rw [h]; simp, fun j v hv => ?_⟩
  rw [h]
  simp [hv]
def mm_at (φ : Nat → Nat) (kx : Nat) (D : va_G) (cl : List vw_C) (U : State) (H : Heap) (i : Nat) : mm_C → Prop
  | .inl a => ∃ cell : Cell, H[φ i]? = some cell ∧ mm_wk φ cell a.2 ∧ cell.vm ≠ .unknown ∧ U.isArrayOf cell a.1 ∧ (kx ≤ i → (mm_pl cell ∧ cell.slots = (a.2.map (mm_sh φ)).toArray) ∧ va_RA U cell.cls a.1)
  | .inr o => ∃ r : vw_C, cl[o.1]? = some r ∧ o.2.length = r.2.2 ∧ t_OB (φ i) (D.1 o.1) r.2.2 (D.2 o.1) H (vp_V (o.2.map (mm_sh φ)))
def mm_B (bs : Nat) : Nat → Prop := fun q => bs ≤ q
abbrev mm_Zt : Type := String × String × String × Value
def mm_R (φ : Nat → Nat) (kx bs : Nat) (D : va_G) (cl : List vw_C) (zs : List mm_Zt) (U : State) (mem : List mm_C) (H : Heap) : Prop :=
  kx ≤ mem.length ∧ H.size = bs + (mem.length - kx) ∧ (∀ (i : Nat) (c : mm_C), mem[i]? = some c → mm_at φ kx D cl U H i c) ∧ ∀ z ∈ zs, va_Z z.1 z.2.1 z.2.2.1 (mm_sh φ z.2.2.2) (mm_B bs) U H
theorem mm_sh_cat (φ : Nat → Nat) (v : Value) : (mm_sh φ v).category = v.category := by cases v <;> rfl
theorem mm_at_moved {φ : Nat → Nat} {kx : Nat} {D : va_G} {cl : List vw_C} {u U : State} {H : Heap} {i : Nat} {c : mm_C} (hvm : u.vm.Alike U.vm) (h : mm_at φ kx D cl u H i c) : mm_at φ kx D cl U H i c := by
  cases c with
  | inl a =>
    obtain ⟨cell, h1, h2, h3, h4, h5⟩ := h
    exact ⟨cell, h1, h2, h3, State.isArrayOf_alike hvm h4, fun q => ⟨(h5 q).1, (h5 q).2.moved hvm⟩⟩
  | inr o => exact h
theorem mm_R_moved {φ : Nat → Nat} {kx bs : Nat} {D : va_G} {cl : List vw_C} {zs : List mm_Zt} {u U : State} {mem : List mm_C} {H : Heap} (hvm : u.vm.Alike U.vm) (h : mm_R φ kx bs D cl zs u mem H) : mm_R φ kx bs D cl zs U mem H :=
  ⟨h.1, h.2.1, fun i c hc => mm_at_moved hvm (h.2.2.1 i c hc), fun z hz => (h.2.2.2 z hz).moved hvm⟩
theorem mm_at_kept {φ : Nat → Nat} {kx : Nat} {D : va_G} {cl : List vw_C} {U : State} {H H1 : Heap} {i : Nat} {c : mm_C} (h : mm_at φ kx D cl U H i c) (hq : H1[φ i]? = H[φ i]?) : mm_at φ kx D cl U H1 i c := by
  cases c with
  | inl a =>
    obtain ⟨cell, h1, h2⟩ := h
    exact ⟨cell, hq.trans h1, h2⟩
  | inr o =>
    obtain ⟨r, h1, h2, h3⟩ := h
    exact ⟨r, h1, h2, h3.kept hq⟩
theorem mm_at_lt {φ : Nat → Nat} {kx : Nat} {D : va_G} {cl : List vw_C} {U : State} {H : Heap} {i : Nat} {c : mm_C} (h : mm_at φ kx D cl U H i c) : φ i < H.size := by
  cases c with
  | inl a =>
    obtain ⟨cell, h1, h2⟩ := h
    exact (Array.getElem?_eq_some_iff.mp h1).1
  | inr o =>
    obtain ⟨r, h1, h2, cell, h3, h4⟩ := h
    exact (Array.getElem?_eq_some_iff.mp h3).1
theorem mm_ph_ne {φ : Nat → Nat} {kx bs : Nat} (h : mm_ph φ kx bs) {i j : Nat} (hi : kx ≤ i) (hij : j ≠ i) : φ j ≠ φ i := by
  intro e
  rw [h.2 i hi] at e
  by_cases hj : kx ≤ j
  · rw [h.2 j hj] at e; omega
  · have := h.1 j (by omega); omega
/-- one cell of ours is another now -/
theorem mm_R_set {φ : Nat → Nat} {kx bs : Nat} {D : va_G} {cl : List vw_C} {zs : List mm_Zt} {U : State} {mem : List mm_C} {H H1 : Heap} (hp : mm_ph φ kx bs) (h : mm_R φ kx bs D cl zs U mem H) {i : Nat} (hi : kx ≤ i) {c : mm_C} (hc : mm_at φ kx D cl U H1 i c) (hz : H1.size = H.size) (ho : ∀ q : Nat, q ≠ φ i → H1[q]? = H[q]?) : mm_R φ kx bs D cl zs U (mem.set i c) H1 := by
  refine ⟨by simpa using h.1, by rw [hz, h.2.1, List.length_set], fun j d hd => ?_, fun z hz => ?_⟩
  · by_cases hj : j = i
    · subst hj
      rw [List.getElem?_set] at hd
      simp only [if_true] at hd
      split at hd
      · cases hd; exact hc
      · cases hd
    · rw [List.getElem?_set_ne (fun e => hj e.symm)] at hd
      exact mm_at_kept (h.2.2.1 j d hd) (ho _ (mm_ph_ne hp hi hj))
  · refine (h.2.2.2 z hz).kept (fun a _ ha => ho a (fun e => ha ?_))
    rw [e, hp.2 i hi]
    exact Nat.le_add_right _ _
/-- a cell more -/
theorem mm_R_push {φ : Nat → Nat} {kx bs : Nat} {D : va_G} {cl : List vw_C} {zs : List mm_Zt} {U : State} {mem : List mm_C} {H H1 : Heap} (h : mm_R φ kx bs D cl zs U mem H) {c : mm_C} (hc : mm_at φ kx D cl U H1 mem.length c) (hz : H1.size = H.size + 1) (ho : ∀ q : Nat, q < H.size → H1[q]? = H[q]?) : mm_R φ kx bs D cl zs U (mem ++ [c]) H1 := by
  have h1 := h.1
  have h2 := h.2.1
  refine ⟨by simp; omega, by simp; omega, fun j d hd => ?_, fun z hz => ?_⟩
  · by_cases hj : j < mem.length
    · rw [List.getElem?_append_left hj] at hd
      exact mm_at_kept (h.2.2.1 j d hd) (ho _ (mm_at_lt (h.2.2.1 j d hd)))
    · rw [List.getElem?_append_right (by omega)] at hd
      have hlt := (List.getElem?_eq_some_iff.mp hd).1
      simp at hlt
      have : j = mem.length := by omega
      subst this
      simp at hd
      subst hd
      exact hc
  · exact (h.2.2.2 z hz).kept (fun a ha _ => ho a ha)
theorem mm_ph_size {φ : Nat → Nat} {kx bs : Nat} {D : va_G} {cl : List vw_C} {zs : List mm_Zt} {U : State} {mem : List mm_C} {H : Heap} (hp : mm_ph φ kx bs) (h : mm_R φ kx bs D cl zs U mem H) : φ mem.length = H.size := by
  rw [hp.2 _ h.1, h.2.1]
end
section
/-! ===== printed by wip/gen_names.py: names, methods, pools ===== -/
def RX0 : String := "RaftTown$Judge"
def TX0 : u_T := fun k => match k with
  | 0 => ("RaftTown$Judge", "names", "[I", true)
  | 1 => ("RaftTown$Judge", "values", "[I", true)
  | _ => ("RaftTown$Judge", "open", "I", false)
def tyX0 : Nat → FieldType := fun k => match k with
  | 0 => .array .int
  | 1 => .array .int
  | _ => .int
theorem nmX0 : ∀ a, a < 3 → ∀ b, b < 3 → a ≠ b → (TX0 a).2.1 ≠ (TX0 b).2.1 := by decide +kernel
theorem tyX0_ok : ∀ k, k < 3 → parseFieldDescriptor (TX0 k).2.2.1 = some (tyX0 k) := by decide +kernel
def RX1 : String := "RaftTown$Log"
def TX1 : u_T := fun k => match k with
  | 0 => ("RaftTown$Log", "whats", "[I", true)
  | 1 => ("RaftTown$Log", "numbers", "[I", true)
  | 2 => ("RaftTown$Log", "days", "[I", true)
  | 3 => ("RaftTown$Log", "knowers", "[I", true)
  | 4 => ("RaftTown$Log", "first", "I", false)
  | 5 => ("RaftTown$Log", "size", "I", false)
  | 6 => ("RaftTown$Log", "lawText", "[I", true)
  | 7 => ("RaftTown$Log", "lawKnown", "[I", true)
  | _ => ("RaftTown$Log", "lawCount", "I", false)
def tyX1 : Nat → FieldType := fun k => match k with
  | 0 => .array .int
  | 1 => .array .int
  | 2 => .array .int
  | 3 => .array .int
  | 4 => .int
  | 5 => .int
  | 6 => .array .int
  | 7 => .array .int
  | _ => .int
theorem nmX1 : ∀ a, a < 9 → ∀ b, b < 9 → a ≠ b → (TX1 a).2.1 ≠ (TX1 b).2.1 := by decide +kernel
theorem tyX1_ok : ∀ k, k < 9 → parseFieldDescriptor (TX1 k).2.2.1 = some (tyX1 k) := by decide +kernel
def RX2 : String := "RaftTown$Net"
def TX2 : u_T := fun k => match k with
  | 0 => ("RaftTown$Net", "ends", "[I", true)
  | 1 => ("RaftTown$Net", "strength", "[I", true)
  | 2 => ("RaftTown$Net", "lighter", "[I", true)
  | 3 => ("RaftTown$Net", "weight", "[I", true)
  | 4 => ("RaftTown$Net", "all", "I", false)
  | _ => ("RaftTown$Net", "afloat", "I", false)
def tyX2 : Nat → FieldType := fun k => match k with
  | 0 => .array .int
  | 1 => .array .int
  | 2 => .array .int
  | 3 => .array .int
  | 4 => .int
  | _ => .int
theorem nmX2 : ∀ a, a < 6 → ∀ b, b < 6 → a ≠ b → (TX2 a).2.1 ≠ (TX2 b).2.1 := by decide +kernel
theorem tyX2_ok : ∀ k, k < 6 → parseFieldDescriptor (TX2 k).2.2.1 = some (tyX2 k) := by decide +kernel
def RX3 : String := "RaftTown$Person"
def TX3 : u_T := fun k => match k with
  | 0 => ("RaftTown$Person", "raft", "I", false)
  | 1 => ("RaftTown$Person", "born", "I", false)
  | 2 => ("RaftTown$Person", "one", "I", false)
  | 3 => ("RaftTown$Person", "two", "I", false)
  | 4 => ("RaftTown$Person", "wedTo", "I", false)
  | 5 => ("RaftTown$Person", "thirst", "I", false)
  | _ => ("RaftTown$Person", "lost", "Z", false)
def tyX3 : Nat → FieldType := fun k => match k with
  | 0 => .int
  | 1 => .int
  | 2 => .int
  | 3 => .int
  | 4 => .int
  | 5 => .int
  | _ => .boolean
theorem nmX3 : ∀ a, a < 7 → ∀ b, b < 7 → a ≠ b → (TX3 a).2.1 ≠ (TX3 b).2.1 := by decide +kernel
theorem tyX3_ok : ∀ k, k < 7 → parseFieldDescriptor (TX3 k).2.2.1 = some (tyX3 k) := by decide +kernel
def RX4 : String := "RaftTown$Raft"
def TX4 : u_T := fun k => match k with
  | 0 => ("RaftTown$Raft", "kind", "I", false)
  | 1 => ("RaftTown$Raft", "cell", "I", false)
  | 2 => ("RaftTown$Raft", "planks", "I", false)
  | 3 => ("RaftTown$Raft", "hold", "I", false)
  | 4 => ("RaftTown$Raft", "water", "I", false)
  | 5 => ("RaftTown$Raft", "goods", "I", false)
  | _ => ("RaftTown$Raft", "sunk", "Z", false)
def tyX4 : Nat → FieldType := fun k => match k with
  | 0 => .int
  | 1 => .int
  | 2 => .int
  | 3 => .int
  | 4 => .int
  | 5 => .int
  | _ => .boolean
theorem nmX4 : ∀ a, a < 7 → ∀ b, b < 7 → a ≠ b → (TX4 a).2.1 ≠ (TX4 b).2.1 := by decide +kernel
theorem tyX4_ok : ∀ k, k < 7 → parseFieldDescriptor (TX4 k).2.2.1 = some (tyX4 k) := by decide +kernel
def RX5 : String := "RaftTown$Rope"
def TX5 : u_T := fun k => match k with
  | 0 => ("RaftTown$Rope", "one", "I", false)
  | 1 => ("RaftTown$Rope", "two", "I", false)
  | 2 => ("RaftTown$Rope", "sideOne", "I", false)
  | 3 => ("RaftTown$Rope", "sideTwo", "I", false)
  | 4 => ("RaftTown$Rope", "toldStrength", "I", false)
  | 5 => ("RaftTown$Rope", "age", "I", false)
  | 6 => ("RaftTown$Rope", "wetDays", "I", false)
  | _ => ("RaftTown$Rope", "live", "Z", false)
def tyX5 : Nat → FieldType := fun k => match k with
  | 0 => .int
  | 1 => .int
  | 2 => .int
  | 3 => .int
  | 4 => .int
  | 5 => .int
  | 6 => .int
  | _ => .boolean
theorem nmX5 : ∀ a, a < 8 → ∀ b, b < 8 → a ≠ b → (TX5 a).2.1 ≠ (TX5 b).2.1 := by decide +kernel
theorem tyX5_ok : ∀ k, k < 8 → parseFieldDescriptor (TX5 k).2.2.1 = some (tyX5 k) := by decide +kernel
def RX6 : String := "RaftTown$Sea"
def TX6 : u_T := fun k => match k with
  | 0 => ("RaftTown$Sea", "streamX", "[I", true)
  | 1 => ("RaftTown$Sea", "streamY", "[I", true)
  | _ => ("RaftTown$Sea", "steps", "[J", true)
def tyX6 : Nat → FieldType := fun k => match k with
  | 0 => .array .int
  | 1 => .array .int
  | _ => .array .long
theorem nmX6 : ∀ a, a < 3 → ∀ b, b < 3 → a ≠ b → (TX6 a).2.1 ≠ (TX6 b).2.1 := by decide +kernel
theorem tyX6_ok : ∀ k, k < 3 → parseFieldDescriptor (TX6 k).2.2.1 = some (tyX6 k) := by decide +kernel
def RX7 : String := "RaftTown$Sheet"
def TX7 : u_T := fun k => match k with
  | 0 => ("RaftTown$Sheet", "bits", "I", false)
  | 1 => ("RaftTown$Sheet", "length", "I", false)
  | _ => ("RaftTown$Sheet", "row", "[I", true)
def tyX7 : Nat → FieldType := fun k => match k with
  | 0 => .int
  | 1 => .int
  | _ => .array .int
theorem nmX7 : ∀ a, a < 3 → ∀ b, b < 3 → a ≠ b → (TX7 a).2.1 ≠ (TX7 b).2.1 := by decide +kernel
theorem tyX7_ok : ∀ k, k < 3 → parseFieldDescriptor (TX7 k).2.2.1 = some (tyX7 k) := by decide +kernel
def RX8 : String := "RaftTown$Tape"
def TX8 : u_T := fun k => match k with
  | 0 => ("RaftTown$Tape", "bytes", "[I", true)
  | 1 => ("RaftTown$Tape", "length", "I", false)
  | 2 => ("RaftTown$Tape", "draft", "LRaftTown$Text;", true)
  | 3 => ("RaftTown$Tape", "at", "I", false)
  | 4 => ("RaftTown$Tape", "token", "I", false)
  | 5 => ("RaftTown$Tape", "start", "I", false)
  | _ => ("RaftTown$Tape", "number", "I", false)
def tyX8 : Nat → FieldType := fun k => match k with
  | 0 => .array .int
  | 1 => .int
  | 2 => .object "RaftTown$Text"
  | 3 => .int
  | 4 => .int
  | 5 => .int
  | _ => .int
theorem nmX8 : ∀ a, a < 7 → ∀ b, b < 7 → a ≠ b → (TX8 a).2.1 ≠ (TX8 b).2.1 := by decide +kernel
theorem tyX8_ok : ∀ k, k < 7 → parseFieldDescriptor (TX8 k).2.2.1 = some (tyX8 k) := by decide +kernel
def RX9 : String := "RaftTown$Text"
def TX9 : u_T := fun k => match k with
  | 0 => ("RaftTown$Text", "told", "Z", false)
  | 1 => ("RaftTown$Text", "code", "[I", true)
  | 2 => ("RaftTown$Text", "ends", "[I", true)
  | _ => ("RaftTown$Text", "length", "I", false)
def tyX9 : Nat → FieldType := fun k => match k with
  | 0 => .boolean
  | 1 => .array .int
  | 2 => .array .int
  | _ => .int
theorem nmX9 : ∀ a, a < 4 → ∀ b, b < 4 → a ≠ b → (TX9 a).2.1 ≠ (TX9 b).2.1 := by decide +kernel
theorem tyX9_ok : ∀ k, k < 4 → parseFieldDescriptor (TX9 k).2.2.1 = some (tyX9 k) := by decide +kernel
def RX10 : String := "RaftTown$Town"
def TX10 : u_T := fun k => match k with
  | 0 => ("RaftTown$Town", "sea", "LRaftTown$Sea;", true)
  | 1 => ("RaftTown$Town", "rafts", "[LRaftTown$Raft;", true)
  | 2 => ("RaftTown$Town", "raftCount", "I", false)
  | 3 => ("RaftTown$Town", "persons", "[LRaftTown$Person;", true)
  | 4 => ("RaftTown$Town", "personCount", "I", false)
  | 5 => ("RaftTown$Town", "ropes", "[LRaftTown$Rope;", true)
  | 6 => ("RaftTown$Town", "ropeCount", "I", false)
  | 7 => ("RaftTown$Town", "log", "LRaftTown$Log;", true)
  | 8 => ("RaftTown$Town", "texts", "[LRaftTown$Text;", true)
  | 9 => ("RaftTown$Town", "today", "I", false)
  | 10 => ("RaftTown$Town", "used", "I", false)
  | _ => ("RaftTown$Town", "spilt", "I", false)
def tyX10 : Nat → FieldType := fun k => match k with
  | 0 => .object "RaftTown$Sea"
  | 1 => .array (.object "RaftTown$Raft")
  | 2 => .int
  | 3 => .array (.object "RaftTown$Person")
  | 4 => .int
  | 5 => .array (.object "RaftTown$Rope")
  | 6 => .int
  | 7 => .object "RaftTown$Log"
  | 8 => .array (.object "RaftTown$Text")
  | 9 => .int
  | 10 => .int
  | _ => .int
theorem nmX10 : ∀ a, a < 12 → ∀ b, b < 12 → a ≠ b → (TX10 a).2.1 ≠ (TX10 b).2.1 := by decide +kernel
theorem tyX10_ok : ∀ k, k < 12 → parseFieldDescriptor (TX10 k).2.2.1 = some (tyX10 k) := by decide +kernel
def RX11 : String := "RaftTown"
def TX11 : u_T := fun k => match k with
  | 0 => ("RaftTown", "town", "LRaftTown$Town;", true)
  | 1 => ("RaftTown", "kept", "LRaftTown$Town;", true)
  | 2 => ("RaftTown", "hasImage", "Z", false)
  | 3 => ("RaftTown", "sheets", "[LRaftTown$Sheet;", true)
  | 4 => ("RaftTown", "tape", "LRaftTown$Tape;", true)
  | 5 => ("RaftTown", "net", "LRaftTown$Net;", true)
  | 6 => ("RaftTown", "judge", "LRaftTown$Judge;", true)
  | _ => ("RaftTown", "findings", "I", false)
def tyX11 : Nat → FieldType := fun k => match k with
  | 0 => .object "RaftTown$Town"
  | 1 => .object "RaftTown$Town"
  | 2 => .boolean
  | 3 => .array (.object "RaftTown$Sheet")
  | 4 => .object "RaftTown$Tape"
  | 5 => .object "RaftTown$Net"
  | 6 => .object "RaftTown$Judge"
  | _ => .int
theorem nmX11 : ∀ a, a < 8 → ∀ b, b < 8 → a ≠ b → (TX11 a).2.1 ≠ (TX11 b).2.1 := by decide +kernel
theorem tyX11_ok : ∀ k, k < 8 → parseFieldDescriptor (TX11 k).2.2.1 = some (tyX11 k) := by decide +kernel
def RX12 : String := "RaftTownModel"
def TX12 : u_T := fun k => match k with
  | 0 => ("RaftTownModel", "now", "[I", true)
  | 1 => ("RaftTownModel", "kept", "[I", true)
  | 2 => ("RaftTownModel", "hasImage", "Z", false)
  | 3 => ("RaftTownModel", "findings", "I", false)
  | 4 => ("RaftTownModel", "weights", "[I", true)
  | 5 => ("RaftTownModel", "tape", "[B", true)
  | 6 => ("RaftTownModel", "taped", "I", false)
  | 7 => ("RaftTownModel", "letters", "[C", true)
  | 8 => ("RaftTownModel", "begins", "[I", true)
  | 9 => ("RaftTownModel", "code", "[I", true)
  | 10 => ("RaftTownModel", "waits", "[I", true)
  | 11 => ("RaftTownModel", "names", "[I", true)
  | 12 => ("RaftTownModel", "begin", "I", false)
  | 13 => ("RaftTownModel", "end", "I", false)
  | 14 => ("RaftTownModel", "next", "I", false)
  | 15 => ("RaftTownModel", "number", "I", false)
  | 16 => ("RaftTownModel", "size", "I", false)
  | 17 => ("RaftTownModel", "waitMany", "I", false)
  | 18 => ("RaftTownModel", "heap", "[I", true)
  | 19 => ("RaftTownModel", "lostOf", "[I", true)
  | 20 => ("RaftTownModel", "may0", "[Z", true)
  | 21 => ("RaftTownModel", "then", "[Z", true)
  | 22 => ("RaftTownModel", "sheetBits", "[I", true)
  | 23 => ("RaftTownModel", "sheetSize", "[I", true)
  | 24 => ("RaftTownModel", "sheets", "[I", true)
  | _ => ("RaftTownModel", "carried", "[I", true)
def tyX12 : Nat → FieldType := fun k => match k with
  | 0 => .array .int
  | 1 => .array .int
  | 2 => .boolean
  | 3 => .int
  | 4 => .array .int
  | 5 => .array .byte
  | 6 => .int
  | 7 => .array .char
  | 8 => .array .int
  | 9 => .array .int
  | 10 => .array .int
  | 11 => .array .int
  | 12 => .int
  | 13 => .int
  | 14 => .int
  | 15 => .int
  | 16 => .int
  | 17 => .int
  | 18 => .array .int
  | 19 => .array .int
  | 20 => .array .boolean
  | 21 => .array .boolean
  | 22 => .array .int
  | 23 => .array .int
  | 24 => .array .int
  | _ => .array .int
theorem nmX12 : ∀ a, a < 26 → ∀ b, b < 26 → a ≠ b → (TX12 a).2.1 ≠ (TX12 b).2.1 := by decide +kernel
theorem tyX12_ok : ∀ k, k < 26 → parseFieldDescriptor (TX12 k).2.2.1 = some (tyX12 k) := by decide +kernel
abbrev vwCl : List vw_C := [(RX0, TX0, 3), (RX1, TX1, 9), (RX2, TX2, 6), (RX3, TX3, 7), (RX4, TX4, 7), (RX5, TX5, 8), (RX6, TX6, 3), (RX7, TX7, 3), (RX8, TX8, 7), (RX9, TX9, 4), (RX10, TX10, 12), (RX11, TX11, 8), (RX12, TX12, 26)]
def mm_ty (ci : Nat) : Nat → FieldType := match ci with
  | 0 => tyX0
  | 1 => tyX1
  | 2 => tyX2
  | 3 => tyX3
  | 4 => tyX4
  | 5 => tyX5
  | 6 => tyX6
  | 7 => tyX7
  | 8 => tyX8
  | 9 => tyX9
  | 10 => tyX10
  | 11 => tyX11
  | _ => tyX12
def mm_cns : List String := [RX0, RX1, RX2, RX3, RX4, RX5, RX6, RX7, RX8, RX9, RX10, RX11, RX12, "RaftTownLaw", "java/lang/Integer", "java/lang/String", "java/lang/StringLatin1", "jdk/internal/util/Preconditions", "java/lang/StringUTF16", "java/lang/Long"]
abbrev mm_Mt : Type := Nat × MethodName × ByteArray × Nat × Option FieldType × Nat × Nat × List Nat
def mm_mths_0 : List mm_Mt := [
  (11, ⟨"RaftTown", "<init>", "()V"⟩, prog_1_method_1_code, 2, (none), 0, 2, [1026, 1025, 0, 1001]),
  (10, ⟨"RaftTown$Town", "<init>", "()V"⟩, prog_12_method_1_code, 2, (none), 0, 2, [1034, 1033, 0, 1002]),
  (6, ⟨"RaftTown$Sea", "<init>", "()V"⟩, prog_8_method_1_code, 1, (none), 0, 2, [1040, 1039, 0, 1003]),
  (1, ⟨"RaftTown$Log", "<init>", "()V"⟩, prog_3_method_1_code, 1, (none), 0, 2, [1064, 1063, 0, 1004]),
  (4, ⟨"RaftTown$Raft", "<init>", "()V"⟩, prog_6_method_1_code, 1, (none), 0, 2, [1101, 1100, 0, 1005]),
  (3, ⟨"RaftTown$Person", "<init>", "()V"⟩, prog_5_method_1_code, 1, (none), 0, 2, [1142, 1141, 0, 1006]),
  (5, ⟨"RaftTown$Rope", "<init>", "()V"⟩, prog_7_method_1_code, 1, (none), 0, 2, [1183, 1182, 0, 1007]),
  (9, ⟨"RaftTown$Text", "<init>", "()V"⟩, prog_11_method_1_code, 1, (none), 0, 2, [1229, 1228, 0, 1008]),
  (7, ⟨"RaftTown$Sheet", "<init>", "()V"⟩, prog_9_method_1_code, 1, (none), 0, 2, [2056, 2055, 0, 1009]),
  (8, ⟨"RaftTown$Tape", "<init>", "()V"⟩, prog_10_method_1_code, 1, (none), 0, 2, [2075, 2074, 0, 1010]),
  (2, ⟨"RaftTown$Net", "<init>", "()V"⟩, prog_4_method_1_code, 1, (none), 0, 2, [2106, 2105, 0, 1011]),
  (0, ⟨"RaftTown$Judge", "<init>", "()V"⟩, prog_2_method_1_code, 1, (none), 0, 2, [2134, 2133, 0, 1012]),
  (11, ⟨"RaftTown", "stream", "(III)I"⟩, prog_1_method_2_code, 4, (some .int), 3, 1, [2174, 2172, 2173, 1001]),
  (11, ⟨"RaftTown", "isCell", "(I)Z"⟩, prog_1_method_49_code, 1, (some .boolean), 1, 0, [2177, 2176, 0, 1001]),
  (11, ⟨"RaftTown", "within", "(III)Z"⟩, prog_1_method_48_code, 3, (some .boolean), 3, 0, [2180, 2179, 0, 1001]),
  (11, ⟨"RaftTown", "noted", "(I)I"⟩, prog_1_method_42_code, 2, (some .int), 1, 1, [2185, 2184, 0, 1001]),
  (6, ⟨"RaftTown$Sea", "lead", "(III)V"⟩, prog_8_method_3_code, 4, (none), 3, 1, [2190, 2188, 2189, 1003]),
  (11, ⟨"RaftTown", "raft", "(IIII)I"⟩, prog_1_method_3_code, 5, (some .int), 4, 1, [2195, 2193, 2194, 1001]),
  (11, ⟨"RaftTown", "isKind", "(I)Z"⟩, prog_1_method_50_code, 1, (some .boolean), 1, 0, [2198, 2197, 0, 1001]),
  (10, ⟨"RaftTown$Town", "addRaft", "(IIII)I"⟩, prog_12_method_11_code, 6, (some .int), 4, 1, [2203, 2201, 2202, 1002]),
  (10, ⟨"RaftTown$Town", "raftAt", "(I)LRaftTown$Raft;"⟩, prog_12_method_6_code, 2, (some (.object "RaftTown$Raft")), 1, 1, [2207, 2205, 2206, 1002]),
  (4, ⟨"RaftTown$Raft", "launch", "(IIII)V"⟩, prog_6_method_3_code, 5, (none), 4, 1, [2212, 2210, 2211, 1005]),
  (11, ⟨"RaftTown", "as", "(II)I"⟩, prog_1_method_4_code, 3, (some .int), 2, 1, [2216, 2214, 2215, 1001]),
  (10, ⟨"RaftTown$Town", "hasRaft", "(I)Z"⟩, prog_12_method_3_code, 2, (some .boolean), 1, 1, [2220, 2218, 2219, 1002]),
  (4, ⟨"RaftTown$Raft", "isOf", "(I)Z"⟩, prog_6_method_4_code, 4, (some .boolean), 1, 1, [2225, 2223, 2224, 1005]),
  (11, ⟨"RaftTown", "raftIs", "(II)I"⟩, prog_1_method_5_code, 4, (some .int), 2, 1, [2233, 2231, 2232, 1001]),
  (11, ⟨"RaftTown", "surveyed", "()LRaftTown$Net;"⟩, prog_1_method_43_code, 1, (some (.object "RaftTown$Net")), 0, 1, [2237, 2236, 1, 1001]),
  (2, ⟨"RaftTown$Net", "survey", "(LRaftTown$Town;)V"⟩, prog_4_method_2_code, 4, (none), 1, 1, [3001, 2239, 3000, 1011]),
  (4, ⟨"RaftTown$Raft", "ownWeight", "()I"⟩, prog_6_method_6_code, 1, (some .int), 0, 1, [3006, 3004, 3005, 1005]),
  (4, ⟨"RaftTown$Raft", "area", "()I"⟩, prog_6_method_5_code, 1, (some .int), 0, 1, [3010, 3008, 3009, 1005]),
  (10, ⟨"RaftTown$Town", "personAt", "(I)LRaftTown$Person;"⟩, prog_12_method_7_code, 2, (some (.object "RaftTown$Person")), 1, 1, [3017, 3015, 3016, 1002]),
  (10, ⟨"RaftTown$Town", "ropeAt", "(I)LRaftTown$Rope;"⟩, prog_12_method_8_code, 2, (some (.object "RaftTown$Rope")), 1, 1, [3022, 3020, 3021, 1002]),
  (5, ⟨"RaftTown$Rope", "strength", "()I"⟩, prog_7_method_4_code, 1, (some .int), 0, 1, [3026, 3024, 3025, 1007]),
  (2, ⟨"RaftTown$Net", "weightAt", "(I)I"⟩, prog_4_method_3_code, 2, (some .int), 1, 1, [3033, 3031, 3032, 1011]),
  (2, ⟨"RaftTown$Net", "partOf", "(I)I"⟩, prog_4_method_6_code, 2, (some .int), 1, 1, [3042, 3040, 3041, 1011]),
  (2, ⟨"RaftTown$Net", "reach", "(II)I"⟩, prog_4_method_5_code, 7, (some .int), 2, 1, [3046, 3045, 2, 1011]),
  (11, ⟨"RaftTown", "leastOf", "(I)I"⟩, prog_1_method_57_code, 1, (some .int), 1, 0, [3049, 3048, 0, 1001]),
  (14, ⟨"java/lang/Integer", "numberOfTrailingZeros", "(I)I"⟩, prog_15_method_48_code, 2, (some .int), 1, 0, [3052, 3051, 0, 1015]),
  (11, ⟨"RaftTown", "load", "(IIZ)I"⟩, prog_1_method_6_code, 5, (some .int), 3, 1, [3057, 3055, 3056, 1001]),
  (4, ⟨"RaftTown$Raft", "room", "()I"⟩, prog_6_method_7_code, 1, (some .int), 0, 1, [3062, 3060, 3061, 1005])]
def mm_mths_1 : List mm_Mt := [
  (4, ⟨"RaftTown$Raft", "stow", "(IZ)I"⟩, prog_6_method_9_code, 3, (some .int), 2, 1, [3066, 3064, 3065, 1005]),
  (4, ⟨"RaftTown$Raft", "casks", "(Z)I"⟩, prog_6_method_8_code, 2, (some .int), 1, 1, [3070, 3068, 3069, 1005]),
  (11, ⟨"RaftTown", "trade", "(IIIZ)I"⟩, prog_1_method_7_code, 7, (some .int), 4, 1, [3074, 3072, 3073, 1001]),
  (2, ⟨"RaftTown$Net", "inOnePart", "(II)Z"⟩, prog_4_method_7_code, 3, (some .boolean), 2, 1, [3079, 3077, 3078, 1011]),
  (11, ⟨"RaftTown", "has", "(II)Z"⟩, prog_1_method_56_code, 2, (some .boolean), 2, 0, [3083, 3082, 0, 1001]),
  (11, ⟨"RaftTown", "person", "(IIII)I"⟩, prog_1_method_8_code, 5, (some .int), 4, 1, [3090, 3088, 3089, 1001]),
  (11, ⟨"RaftTown", "areParents", "(II)Z"⟩, prog_1_method_47_code, 3, (some .boolean), 2, 1, [3094, 3093, 3, 1001]),
  (10, ⟨"RaftTown$Town", "addPerson", "(IIII)I"⟩, prog_12_method_12_code, 6, (some .int), 4, 1, [3098, 3096, 3097, 1002]),
  (3, ⟨"RaftTown$Person", "arrive", "(IIII)V"⟩, prog_5_method_3_code, 5, (none), 4, 1, [3103, 3101, 3102, 1006]),
  (11, ⟨"RaftTown", "wed", "(II)I"⟩, prog_1_method_9_code, 5, (some .int), 2, 1, [3107, 3105, 3106, 1001]),
  (10, ⟨"RaftTown$Town", "hasPerson", "(I)Z"⟩, prog_12_method_4_code, 2, (some .boolean), 1, 1, [3111, 3109, 3110, 1002]),
  (11, ⟨"RaftTown", "move", "(II)I"⟩, prog_1_method_10_code, 5, (some .int), 2, 1, [3117, 3115, 3116, 1001]),
  (11, ⟨"RaftTown", "personIs", "(II)I"⟩, prog_1_method_11_code, 4, (some .int), 2, 1, [3121, 3119, 3120, 1001]),
  (10, ⟨"RaftTown$Town", "kinOf", "(I)I"⟩, prog_12_method_16_code, 4, (some .int), 1, 1, [3125, 3123, 3124, 1002]),
  (10, ⟨"RaftTown$Town", "areKin", "(II)Z"⟩, prog_12_method_15_code, 5, (some .boolean), 2, 1, [3129, 3128, 4, 1002]),
  (3, ⟨"RaftTown$Person", "hasParent", "(I)Z"⟩, prog_5_method_4_code, 2, (some .boolean), 1, 1, [3133, 3131, 3132, 1006]),
  (11, ⟨"RaftTown", "tie", "(IIIII)I"⟩, prog_1_method_12_code, 10, (some .int), 5, 1, [3137, 3135, 3136, 1001]),
  (11, ⟨"RaftTown", "isSide", "(I)Z"⟩, prog_1_method_51_code, 1, (some .boolean), 1, 0, [3140, 3139, 0, 1001]),
  (10, ⟨"RaftTown$Town", "hasRoomAt", "(II)Z"⟩, prog_12_method_13_code, 5, (some .boolean), 2, 1, [3144, 3142, 3143, 1002]),
  (5, ⟨"RaftTown$Rope", "isAtSide", "(II)Z"⟩, prog_7_method_6_code, 3, (some .boolean), 2, 1, [3148, 3146, 3147, 1007]),
  (10, ⟨"RaftTown$Town", "freeRope", "()I"⟩, prog_12_method_14_code, 2, (some .int), 0, 1, [3152, 3150, 3151, 1002]),
  (5, ⟨"RaftTown$Rope", "lay", "(IIIII)V"⟩, prog_7_method_3_code, 6, (none), 5, 1, [3158, 3156, 3157, 1007]),
  (1, ⟨"RaftTown$Log", "add", "(IIII)V"⟩, prog_3_method_5_code, 6, (none), 4, 1, [3162, 3160, 3161, 1004]),
  (1, ⟨"RaftTown$Log", "placeOf", "(I)I"⟩, prog_3_method_3_code, 3, (some .int), 1, 1, [3166, 3165, 5, 1004]),
  (1, ⟨"RaftTown$Log", "tellOn", "(I)V"⟩, prog_3_method_7_code, 3, (none), 1, 1, [3170, 3168, 3169, 1004]),
  (11, ⟨"RaftTown", "cut", "(I)I"⟩, prog_1_method_13_code, 4, (some .int), 1, 1, [3174, 3172, 3173, 1001]),
  (10, ⟨"RaftTown$Town", "hasRope", "(I)Z"⟩, prog_12_method_5_code, 2, (some .boolean), 1, 1, [3178, 3176, 3177, 1002]),
  (1, ⟨"RaftTown$Log", "lawOf", "(I)I"⟩, prog_3_method_9_code, 4, (some .int), 1, 1, [3182, 3180, 3181, 1004]),
  (11, ⟨"RaftTown", "ropeRuling", "(III)I"⟩, prog_1_method_45_code, 4, (some .int), 3, 1, [3186, 3185, 6, 1001]),
  (0, ⟨"RaftTown$Judge", "nameRope", "(LRaftTown$Town;LRaftTown$Net;II)V"⟩, prog_2_method_3_code, 6, (none), 4, 1, [3190, 3188, 3189, 1012]),
  (0, ⟨"RaftTown$Judge", "nameNothing", "()V"⟩, prog_2_method_2_code, 2, (none), 0, 1, [3195, 3194, 7, 1012]),
  (2, ⟨"RaftTown$Net", "loadOf", "(III)I"⟩, prog_4_method_11_code, 4, (some .int), 3, 1, [3199, 3197, 3198, 1011]),
  (2, ⟨"RaftTown$Net", "hang", "(II)I"⟩, prog_4_method_10_code, 7, (some .int), 2, 1, [3203, 3201, 3202, 1011]),
  (2, ⟨"RaftTown$Net", "weigh", "(I)I"⟩, prog_4_method_9_code, 4, (some .int), 1, 1, [3207, 3206, 8, 1011]),
  (10, ⟨"RaftTown$Town", "kinBetween", "(II)I"⟩, prog_12_method_19_code, 6, (some .int), 2, 1, [3212, 3210, 3211, 1002]),
  (10, ⟨"RaftTown$Town", "personsOf", "(I)I"⟩, prog_12_method_17_code, 4, (some .int), 1, 1, [3216, 3214, 3215, 1002]),
  (3, ⟨"RaftTown$Person", "isAmong", "(I)Z"⟩, prog_5_method_6_code, 2, (some .boolean), 1, 1, [3220, 3218, 3219, 1006]),
  (3, ⟨"RaftTown$Person", "isOn", "(I)Z"⟩, prog_5_method_5_code, 2, (some .boolean), 1, 1, [3224, 3222, 3223, 1006]),
  (14, ⟨"java/lang/Integer", "bitCount", "(I)I"⟩, prog_15_method_49_code, 1, (some .int), 1, 0, [3228, 3227, 0, 1015]),
  (0, ⟨"RaftTown$Judge", "namePart", "(LRaftTown$Town;I)V"⟩, prog_2_method_6_code, 3, (none), 2, 1, [3236, 3235, 9, 1012])]
def mm_mths_2 : List mm_Mt := [
  (10, ⟨"RaftTown$Town", "headsOf", "(I)I"⟩, prog_12_method_18_code, 2, (some .int), 1, 1, [4000, 3238, 3239, 1002]),
  (10, ⟨"RaftTown$Town", "waterOf", "(I)I"⟩, prog_12_method_20_code, 4, (some .int), 1, 1, [4004, 4002, 4003, 1002]),
  (10, ⟨"RaftTown$Town", "textOfLaw", "(I)LRaftTown$Text;"⟩, prog_12_method_10_code, 2, (some (.object "RaftTown$Text")), 1, 1, [4009, 4007, 4008, 1002]),
  (1, ⟨"RaftTown$Log", "textOf", "(I)I"⟩, prog_3_method_10_code, 2, (some .int), 1, 1, [4013, 4011, 4012, 1004]),
  (10, ⟨"RaftTown$Town", "textAt", "(I)LRaftTown$Text;"⟩, prog_12_method_9_code, 2, (some (.object "RaftTown$Text")), 1, 1, [4018, 4016, 4017, 1002]),
  (11, ⟨"RaftTown", "isText", "(I)Z"⟩, prog_1_method_52_code, 1, (some .boolean), 1, 0, [4021, 4020, 0, 1001]),
  (0, ⟨"RaftTown$Judge", "comesTo", "(LRaftTown$Text;I)I"⟩, prog_2_method_7_code, 8, (some .int), 2, 1, [4025, 4023, 4024, 1012]),
  (9, ⟨"RaftTown$Text", "endOf", "(I)I"⟩, prog_11_method_8_code, 2, (some .int), 1, 1, [4029, 4027, 4028, 1008]),
  (9, ⟨"RaftTown$Text", "startOf", "(I)I"⟩, prog_11_method_7_code, 2, (some .int), 1, 1, [4035, 4033, 4034, 1008]),
  (0, ⟨"RaftTown$Judge", "push", "(I)V"⟩, prog_2_method_8_code, 2, (none), 1, 1, [4039, 4038, 10, 1012]),
  (0, ⟨"RaftTown$Judge", "pop", "()I"⟩, prog_2_method_9_code, 1, (some .int), 0, 1, [4043, 4042, 11, 1012]),
  (0, ⟨"RaftTown$Judge", "joined", "(III)I"⟩, prog_2_method_10_code, 3, (some .int), 3, 0, [4046, 4045, 0, 1012]),
  (2, ⟨"RaftTown$Net", "countParts", "()I"⟩, prog_4_method_8_code, 4, (some .int), 0, 1, [4051, 4049, 4050, 1011]),
  (11, ⟨"RaftTown", "rope", "(II)I"⟩, prog_1_method_14_code, 4, (some .int), 2, 1, [4055, 4053, 4054, 1001]),
  (11, ⟨"RaftTown", "bears", "(II)I"⟩, prog_1_method_15_code, 3, (some .int), 2, 1, [4061, 4059, 4060, 1001]),
  (11, ⟨"RaftTown", "areWaves", "(I)Z"⟩, prog_1_method_54_code, 1, (some .boolean), 1, 0, [4064, 4063, 0, 1001]),
  (11, ⟨"RaftTown", "parts", "()I"⟩, prog_1_method_16_code, 1, (some .int), 0, 1, [4069, 4067, 4068, 1001]),
  (11, ⟨"RaftTown", "part", "(I)I"⟩, prog_1_method_17_code, 2, (some .int), 1, 1, [4073, 4071, 4072, 1001]),
  (11, ⟨"RaftTown", "worst", "(II)I"⟩, prog_1_method_18_code, 4, (some .int), 2, 1, [4077, 4075, 4076, 1001]),
  (2, ⟨"RaftTown$Net", "countParting", "(III)I"⟩, prog_4_method_13_code, 8, (some .int), 3, 1, [4081, 4079, 4080, 1011]),
  (2, ⟨"RaftTown$Net", "worstOf", "(II)I"⟩, prog_4_method_12_code, 7, (some .int), 2, 1, [4085, 4083, 4084, 1011]),
  (2, ⟨"RaftTown$Net", "partingAt", "(II)I"⟩, prog_4_method_14_code, 6, (some .int), 2, 1, [4090, 4088, 4089, 1011]),
  (11, ⟨"RaftTown", "day", "(II)I"⟩, prog_1_method_19_code, 3, (some .int), 2, 1, [4094, 4092, 4093, 1001]),
  (11, ⟨"RaftTown", "isRain", "(I)Z"⟩, prog_1_method_55_code, 1, (some .boolean), 1, 0, [4097, 4096, 0, 1001]),
  (10, ⟨"RaftTown$Town", "passDay", "(IILRaftTown$Net;)I"⟩, prog_12_method_26_code, 5, (some .int), 3, 1, [4101, 4099, 4100, 1002]),
  (10, ⟨"RaftTown$Town", "partUnder", "(ILRaftTown$Net;)I"⟩, prog_12_method_27_code, 6, (some .int), 2, 1, [4106, 4105, 12, 1002]),
  (2, ⟨"RaftTown$Net", "drop", "(I)V"⟩, prog_4_method_4_code, 2, (none), 1, 1, [4114, 4112, 4113, 1011]),
  (10, ⟨"RaftTown$Town", "catchRain", "(I)V"⟩, prog_12_method_28_code, 4, (none), 1, 1, [4118, 4117, 13, 1002]),
  (10, ⟨"RaftTown$Town", "waterGardens", "()V"⟩, prog_12_method_29_code, 3, (none), 0, 1, [4126, 4125, 14, 1002]),
  (10, ⟨"RaftTown$Town", "drinkAll", "(LRaftTown$Net;)V"⟩, prog_12_method_30_code, 4, (none), 1, 1, [4130, 4129, 15, 1002]),
  (10, ⟨"RaftTown$Town", "drink", "(II)V"⟩, prog_12_method_31_code, 5, (none), 2, 1, [4134, 4133, 16, 1002]),
  (10, ⟨"RaftTown$Town", "fullestOf", "(I)LRaftTown$Raft;"⟩, prog_12_method_32_code, 4, (some (.object "RaftTown$Raft")), 1, 1, [4138, 4137, 17, 1002]),
  (10, ⟨"RaftTown$Town", "lose", "(II)V"⟩, prog_12_method_33_code, 3, (none), 2, 1, [4143, 4142, 18, 1002]),
  (10, ⟨"RaftTown$Town", "ageRopes", "(Z)V"⟩, prog_12_method_34_code, 3, (none), 1, 1, [4147, 4146, 19, 1002]),
  (10, ⟨"RaftTown$Town", "rot", "(LRaftTown$Net;)V"⟩, prog_12_method_35_code, 5, (none), 1, 1, [4151, 4150, 20, 1002]),
  (10, ⟨"RaftTown$Town", "sink", "(ILRaftTown$Net;)V"⟩, prog_12_method_36_code, 7, (none), 2, 1, [4155, 4154, 21, 1002]),
  (5, ⟨"RaftTown$Rope", "isAt", "(I)Z"⟩, prog_7_method_5_code, 2, (some .boolean), 1, 1, [4159, 4157, 4158, 1007]),
  (10, ⟨"RaftTown$Town", "drift", "()V"⟩, prog_12_method_37_code, 3, (none), 0, 1, [4163, 4162, 22, 1002]),
  (6, ⟨"RaftTown$Sea", "drifted", "(I)I"⟩, prog_8_method_6_code, 2, (some .int), 1, 1, [4167, 4165, 4166, 1003]),
  (6, ⟨"RaftTown$Sea", "ledBy", "(II)I"⟩, prog_8_method_5_code, 3, (some .int), 2, 1, [4171, 4170, 23, 1003])]
def mm_mths_3 : List mm_Mt := [
  (6, ⟨"RaftTown$Sea", "stepped", "(III)I"⟩, prog_8_method_4_code, 6, (some .int), 3, 0, [4174, 4173, 0, 1003]),
  (11, ⟨"RaftTown", "days", "(II)I"⟩, prog_1_method_20_code, 10, (some .int), 2, 1, [4179, 4177, 4178, 1001]),
  (11, ⟨"RaftTown", "isSheet", "(I)Z"⟩, prog_1_method_53_code, 1, (some .boolean), 1, 0, [4182, 4181, 0, 1001]),
  (7, ⟨"RaftTown$Sheet", "isMissing", "()Z"⟩, prog_9_method_2_code, 1, (some .boolean), 0, 1, [4186, 4184, 4185, 1009]),
  (7, ⟨"RaftTown$Sheet", "numberOr", "(II)I"⟩, prog_9_method_5_code, 3, (some .int), 2, 1, [4190, 4188, 4189, 1009]),
  (11, ⟨"RaftTown", "lasts", "(I)I"⟩, prog_1_method_21_code, 4, (some .int), 1, 1, [4195, 4193, 4194, 1001]),
  (10, ⟨"RaftTown$Town", "countKind", "(II)I"⟩, prog_12_method_21_code, 5, (some .int), 2, 1, [4200, 4198, 4199, 1002]),
  (11, ⟨"RaftTown", "feed", "(IJ)I"⟩, prog_1_method_22_code, 4, (some .int), 2, 1, [4205, 4203, 4204, 1001]),
  (8, ⟨"RaftTown$Tape", "hasRoom", "(I)Z"⟩, prog_10_method_2_code, 2, (some .boolean), 1, 1, [4209, 4207, 4208, 1010]),
  (8, ⟨"RaftTown$Tape", "append", "(IJ)I"⟩, prog_10_method_3_code, 5, (some .int), 2, 1, [4213, 4211, 4212, 1010]),
  (11, ⟨"RaftTown", "text", "(I)I"⟩, prog_1_method_23_code, 3, (some .int), 1, 1, [4218, 4216, 4217, 1001]),
  (8, ⟨"RaftTown$Tape", "read", "()I"⟩, prog_10_method_4_code, 2, (some .int), 0, 1, [4223, 4221, 4222, 1010]),
  (9, ⟨"RaftTown$Text", "clear", "()V"⟩, prog_11_method_3_code, 1, (none), 0, 1, [4227, 4225, 4226, 1008]),
  (8, ⟨"RaftTown$Tape", "next", "()V"⟩, prog_10_method_13_code, 2, (none), 0, 1, [4231, 4230, 24, 1010]),
  (8, ⟨"RaftTown$Tape", "byteAt", "(I)I"⟩, prog_10_method_14_code, 2, (some .int), 1, 1, [4235, 4234, 25, 1010]),
  (8, ⟨"RaftTown$Tape", "isLetter", "(I)Z"⟩, prog_10_method_18_code, 1, (some .boolean), 1, 0, [4238, 4237, 0, 1010]),
  (8, ⟨"RaftTown$Tape", "nextWord", "()V"⟩, prog_10_method_15_code, 2, (none), 0, 1, [5003, 5002, 26, 1010]),
  (8, ⟨"RaftTown$Tape", "word", "(I)Ljava/lang/String;"⟩, prog_10_method_21_code, 1, (some (.object "java/lang/String")), 1, 0, [5006, 5005, 0, 1010]),
  (8, ⟨"RaftTown$Tape", "standsHere", "(Ljava/lang/String;)Z"⟩, prog_10_method_16_code, 3, (some .boolean), 1, 1, [5026, 5025, 27, 1010]),
  (15, ⟨"java/lang/String", "length", "()I"⟩, prog_18_method_54_code, 1, (some .int), 0, 1, [5030, 5028, 5029, 1016]),
  (15, ⟨"java/lang/String", "coder", "()B"⟩, prog_18_method_152_code, 1, (some .byte), 0, 1, [5034, 5032, 5033, 1016]),
  (15, ⟨"java/lang/String", "charAt", "(I)C"⟩, prog_18_method_56_code, 2, (some .char), 1, 1, [5040, 5038, 5039, 1016]),
  (15, ⟨"java/lang/String", "isLatin1", "()Z"⟩, prog_18_method_154_code, 1, (some .boolean), 0, 1, [5044, 5042, 5043, 1016]),
  (16, ⟨"java/lang/StringLatin1", "charAt", "([BI)C"⟩, prog_19_method_2_code, 2, (some .char), 2, 0, [5047, 5046, 0, 1017]),
  (15, ⟨"java/lang/String", "checkIndex", "(II)V"⟩, prog_18_method_155_code, 2, (none), 2, 0, [5050, 5049, 0, 1016]),
  (17, ⟨"jdk/internal/util/Preconditions", "checkIndex", "(IILjava/util/function/BiFunction;)I"⟩, prog_22_method_11_code, 3, (some .int), 3, 0, [5055, 5054, 0, 1018]),
  (18, ⟨"java/lang/StringUTF16", "charAt", "([BI)C"⟩, prog_20_method_83_code, 2, (some .char), 2, 0, [5058, 5057, 0, 1019]),
  (18, ⟨"java/lang/StringUTF16", "checkIndex", "(I[B)V"⟩, prog_20_method_91_code, 2, (none), 2, 0, [5061, 5060, 0, 1019]),
  (18, ⟨"java/lang/StringUTF16", "length", "([B)I"⟩, prog_20_method_6_code, 1, (some .int), 1, 0, [5064, 5063, 0, 1019]),
  (18, ⟨"java/lang/StringUTF16", "getChar", "([BI)C"⟩, prog_20_method_5_code, 2, (some .char), 2, 0, [5068, 5067, 0, 1019]),
  (8, ⟨"RaftTown$Tape", "isDigit", "(I)Z"⟩, prog_10_method_19_code, 1, (some .boolean), 1, 0, [5077, 5076, 0, 1010]),
  (8, ⟨"RaftTown$Tape", "nextNumber", "()V"⟩, prog_10_method_17_code, 1, (none), 0, 1, [5081, 5080, 28, 1010]),
  (8, ⟨"RaftTown$Tape", "signOf", "(I)I"⟩, prog_10_method_20_code, 1, (some .int), 1, 0, [5084, 5083, 0, 1010]),
  (8, ⟨"RaftTown$Tape", "readClause", "(II)Z"⟩, prog_10_method_5_code, 4, (some .boolean), 2, 1, [5088, 5087, 29, 1010]),
  (8, ⟨"RaftTown$Tape", "pass", "(I)Z"⟩, prog_10_method_6_code, 2, (some .boolean), 1, 1, [5092, 5091, 30, 1010]),
  (8, ⟨"RaftTown$Tape", "readOr", "(I)Z"⟩, prog_10_method_7_code, 4, (some .boolean), 1, 1, [5096, 5095, 31, 1010]),
  (8, ⟨"RaftTown$Tape", "readAnd", "(I)Z"⟩, prog_10_method_8_code, 4, (some .boolean), 1, 1, [5100, 5099, 32, 1010]),
  (8, ⟨"RaftTown$Tape", "readNot", "(I)Z"⟩, prog_10_method_9_code, 3, (some .boolean), 1, 1, [5104, 5103, 33, 1010]),
  (8, ⟨"RaftTown$Tape", "readComparison", "(I)Z"⟩, prog_10_method_10_code, 4, (some .boolean), 1, 1, [5108, 5107, 34, 1010]),
  (8, ⟨"RaftTown$Tape", "readSum", "(I)Z"⟩, prog_10_method_11_code, 5, (some .boolean), 1, 1, [5112, 5111, 35, 1010])]
def mm_mths_4 : List mm_Mt := [
  (8, ⟨"RaftTown$Tape", "readOne", "(I)Z"⟩, prog_10_method_12_code, 2, (some .boolean), 1, 1, [5116, 5115, 36, 1010]),
  (9, ⟨"RaftTown$Text", "addNumber", "(I)V"⟩, prog_11_method_4_code, 2, (none), 1, 1, [5120, 5118, 5119, 1008]),
  (9, ⟨"RaftTown$Text", "addToken", "(I)V"⟩, prog_11_method_5_code, 2, (none), 1, 1, [5124, 5122, 5123, 1008]),
  (9, ⟨"RaftTown$Text", "endClause", "(I)V"⟩, prog_11_method_6_code, 2, (none), 1, 1, [5129, 5127, 5128, 1008]),
  (9, ⟨"RaftTown$Text", "take", "(LRaftTown$Text;)V"⟩, prog_11_method_2_code, 2, (none), 1, 1, [5134, 5132, 5133, 1008]),
  (11, ⟨"RaftTown", "force", "(II)I"⟩, prog_1_method_24_code, 3, (some .int), 2, 1, [5142, 5140, 5141, 1001]),
  (1, ⟨"RaftTown$Log", "addLaw", "(III)I"⟩, prog_3_method_6_code, 5, (some .int), 3, 1, [5146, 5144, 5145, 1004]),
  (11, ⟨"RaftTown", "law", "(I)I"⟩, prog_1_method_25_code, 3, (some .int), 1, 1, [5151, 5149, 5150, 1001]),
  (11, ⟨"RaftTown", "lawAt", "(I)I"⟩, prog_1_method_44_code, 3, (some .int), 1, 1, [5155, 5154, 37, 1001]),
  (11, ⟨"RaftTown", "may", "(II)I"⟩, prog_1_method_26_code, 5, (some .int), 2, 1, [5159, 5157, 5158, 1001]),
  (11, ⟨"RaftTown", "must", "(II)I"⟩, prog_1_method_27_code, 4, (some .int), 2, 1, [5163, 5161, 5162, 1001]),
  (0, ⟨"RaftTown$Judge", "nameRafts", "(LRaftTown$Town;III)V"⟩, prog_2_method_4_code, 5, (none), 4, 1, [5167, 5165, 5166, 1012]),
  (11, ⟨"RaftTown", "speaks", "(I)I"⟩, prog_1_method_28_code, 8, (some .int), 1, 1, [5171, 5169, 5170, 1001]),
  (0, ⟨"RaftTown$Judge", "namePerson", "(LRaftTown$Town;II)V"⟩, prog_2_method_5_code, 4, (none), 3, 1, [5176, 5174, 5175, 1012]),
  (11, ⟨"RaftTown", "events", "(I)I"⟩, prog_1_method_29_code, 2, (some .int), 1, 1, [5184, 5182, 5183, 1001]),
  (1, ⟨"RaftTown$Log", "countKnown", "(I)I"⟩, prog_3_method_8_code, 4, (some .int), 1, 1, [5188, 5186, 5187, 1004]),
  (11, ⟨"RaftTown", "event", "(II)I"⟩, prog_1_method_30_code, 3, (some .int), 2, 1, [5192, 5190, 5191, 1001]),
  (1, ⟨"RaftTown$Log", "detail", "(II)I"⟩, prog_3_method_4_code, 4, (some .int), 2, 1, [5196, 5194, 5195, 1004]),
  (11, ⟨"RaftTown", "lash", "(II)I"⟩, prog_1_method_31_code, 4, (some .int), 2, 1, [5200, 5198, 5199, 1001]),
  (2, ⟨"RaftTown$Net", "fewestLashings", "(II)I"⟩, prog_4_method_21_code, 11, (some .int), 2, 1, [5204, 5202, 5203, 1011]),
  (2, ⟨"RaftTown$Net", "ropesOf", "(I)I"⟩, prog_4_method_20_code, 4, (some .int), 1, 1, [5208, 5207, 38, 1011]),
  (2, ⟨"RaftTown$Net", "doomed", "(I)I"⟩, prog_4_method_18_code, 5, (some .int), 1, 1, [5212, 5211, 39, 1011]),
  (2, ⟨"RaftTown$Net", "doomedOf", "(II)I"⟩, prog_4_method_19_code, 6, (some .int), 2, 1, [5216, 5215, 40, 1011]),
  (2, ⟨"RaftTown$Net", "isBridge", "(II)Z"⟩, prog_4_method_16_code, 4, (some .boolean), 2, 1, [5220, 5219, 41, 1011]),
  (2, ⟨"RaftTown$Net", "bridgesOf", "(I)I"⟩, prog_4_method_17_code, 4, (some .int), 1, 1, [5224, 5223, 42, 1011]),
  (2, ⟨"RaftTown$Net", "holds", "(II)Z"⟩, prog_4_method_15_code, 4, (some .boolean), 2, 1, [5229, 5228, 43, 1011]),
  (11, ⟨"RaftTown", "storm", "(IZ)I"⟩, prog_1_method_32_code, 4, (some .int), 2, 1, [5233, 5231, 5232, 1001]),
  (2, ⟨"RaftTown$Net", "bestCuts", "(I)I"⟩, prog_4_method_24_code, 5, (some .int), 1, 1, [5237, 5235, 5236, 1011]),
  (2, ⟨"RaftTown$Net", "mostKept", "(II)I"⟩, prog_4_method_22_code, 6, (some .int), 2, 1, [6001, 6000, 44, 1011]),
  (2, ⟨"RaftTown$Net", "lostBy", "(III)I"⟩, prog_4_method_23_code, 5, (some .int), 3, 1, [6005, 6003, 6004, 1011]),
  (11, ⟨"RaftTown", "proves", "(III)I"⟩, prog_1_method_33_code, 6, (some .int), 3, 1, [6011, 6009, 6010, 1001]),
  (2, ⟨"RaftTown$Net", "firstUnproved", "(IILRaftTown$Sheet;)I"⟩, prog_4_method_25_code, 7, (some .int), 3, 1, [6016, 6014, 6015, 1011]),
  (11, ⟨"RaftTown", "patch", "(II)I"⟩, prog_1_method_34_code, 4, (some .int), 2, 1, [6021, 6019, 6020, 1001]),
  (11, ⟨"RaftTown", "hasSail", "(I)Z"⟩, prog_1_method_46_code, 2, (some .boolean), 1, 1, [6025, 6024, 45, 1001]),
  (6, ⟨"RaftTown$Sea", "patchSize", "(IIZ)I"⟩, prog_8_method_7_code, 8, (some .int), 3, 1, [6029, 6027, 6028, 1003]),
  (6, ⟨"RaftTown$Sea", "aDayOn", "(J)J"⟩, prog_8_method_9_code, 6, (some .long), 1, 1, [6038, 6037, 46, 1003]),
  (19, ⟨"java/lang/Long", "bitCount", "(J)I"⟩, prog_16_method_50_code, 2, (some .int), 1, 0, [6041, 6040, 0, 1021]),
  (11, ⟨"RaftTown", "tow", "(II)I"⟩, prog_1_method_35_code, 6, (some .int), 2, 1, [6048, 6046, 6047, 1001]),
  (6, ⟨"RaftTown$Sea", "soonest", "(IIZ)I"⟩, prog_8_method_8_code, 9, (some .int), 3, 1, [6052, 6050, 6051, 1003]),
  (11, ⟨"RaftTown", "sheet", "(III)I"⟩, prog_1_method_36_code, 4, (some .int), 3, 1, [6056, 6054, 6055, 1001])]
def mm_mths_5 : List mm_Mt := [
  (7, ⟨"RaftTown$Sheet", "rule", "(II)I"⟩, prog_9_method_3_code, 4, (some .int), 2, 1, [6060, 6058, 6059, 1009]),
  (11, ⟨"RaftTown", "put", "(III)I"⟩, prog_1_method_37_code, 5, (some .int), 3, 1, [6064, 6062, 6063, 1001]),
  (7, ⟨"RaftTown$Sheet", "write", "(II)V"⟩, prog_9_method_4_code, 3, (none), 2, 1, [6068, 6066, 6067, 1009]),
  (11, ⟨"RaftTown", "copy", "(IIIII)I"⟩, prog_1_method_38_code, 8, (some .int), 5, 1, [6073, 6071, 6072, 1001]),
  (7, ⟨"RaftTown$Sheet", "hasRun", "(II)Z"⟩, prog_9_method_6_code, 3, (some .boolean), 2, 1, [6077, 6075, 6076, 1009]),
  (11, ⟨"RaftTown", "image", "()I"⟩, prog_1_method_39_code, 1, (some .int), 0, 1, [6082, 6080, 6081, 1001]),
  (10, ⟨"RaftTown$Town", "take", "(LRaftTown$Town;)V"⟩, prog_12_method_2_code, 3, (none), 1, 1, [6086, 6084, 6085, 1002]),
  (6, ⟨"RaftTown$Sea", "take", "(LRaftTown$Sea;)V"⟩, prog_8_method_2_code, 2, (none), 1, 1, [6090, 6088, 6089, 1003]),
  (4, ⟨"RaftTown$Raft", "take", "(LRaftTown$Raft;)V"⟩, prog_6_method_2_code, 2, (none), 1, 1, [6095, 6093, 6094, 1005]),
  (3, ⟨"RaftTown$Person", "take", "(LRaftTown$Person;)V"⟩, prog_5_method_2_code, 2, (none), 1, 1, [6100, 6098, 6099, 1006]),
  (5, ⟨"RaftTown$Rope", "take", "(LRaftTown$Rope;)V"⟩, prog_7_method_2_code, 2, (none), 1, 1, [6105, 6103, 6104, 1007]),
  (1, ⟨"RaftTown$Log", "take", "(LRaftTown$Log;)V"⟩, prog_3_method_2_code, 2, (none), 1, 1, [6110, 6108, 6109, 1004]),
  (11, ⟨"RaftTown", "restore", "()I"⟩, prog_1_method_40_code, 1, (some .int), 0, 1, [6116, 6114, 6115, 1001]),
  (11, ⟨"RaftTown", "count", "(I)I"⟩, prog_1_method_41_code, 2, (some .int), 1, 1, [6120, 6118, 6119, 1001]),
  (10, ⟨"RaftTown$Town", "countAfloat", "()I"⟩, prog_12_method_22_code, 3, (some .int), 0, 1, [6124, 6122, 6123, 1002]),
  (10, ⟨"RaftTown$Town", "countAlive", "()I"⟩, prog_12_method_23_code, 3, (some .int), 0, 1, [6128, 6126, 6127, 1002]),
  (10, ⟨"RaftTown$Town", "countRopes", "()I"⟩, prog_12_method_24_code, 3, (some .int), 0, 1, [6132, 6130, 6131, 1002]),
  (10, ⟨"RaftTown$Town", "countCasks", "()I"⟩, prog_12_method_25_code, 3, (some .int), 0, 1, [6136, 6134, 6135, 1002]),
  (12, ⟨"RaftTownModel", "<init>", "()V"⟩, prog_14_method_1_code, 1, (none), 0, 2, [6141, 6140, 0, 1013]),
  (12, ⟨"RaftTownModel", "stream", "(III)I"⟩, prog_14_method_12_code, 4, (some .int), 3, 1, [6227, 6225, 6226, 1013]),
  (12, ⟨"RaftTownModel", "in", "(III)Z"⟩, prog_14_method_3_code, 3, (some .boolean), 3, 0, [6230, 6229, 0, 1013]),
  (12, ⟨"RaftTownModel", "finds", "(I)I"⟩, prog_14_method_4_code, 2, (some .int), 1, 1, [6235, 6234, 47, 1013]),
  (12, ⟨"RaftTownModel", "raft", "(IIII)I"⟩, prog_14_method_13_code, 6, (some .int), 4, 1, [6239, 6237, 6238, 1013]),
  (12, ⟨"RaftTownModel", "makes", "(III)V"⟩, prog_14_method_10_code, 4, (none), 3, 1, [7004, 7003, 48, 1013]),
  (12, ⟨"RaftTownModel", "as", "(II)I"⟩, prog_14_method_14_code, 4, (some .int), 2, 1, [7008, 7006, 7007, 1013]),
  (12, ⟨"RaftTownModel", "isFloat", "(I)Z"⟩, prog_14_method_5_code, 2, (some .boolean), 1, 1, [7012, 7011, 49, 1013]),
  (12, ⟨"RaftTownModel", "own", "(II)I"⟩, prog_14_method_9_code, 3, (some .int), 2, 1, [7016, 7015, 50, 1013]),
  (12, ⟨"RaftTownModel", "raftIs", "(II)I"⟩, prog_14_method_17_code, 3, (some .int), 2, 1, [7021, 7019, 7020, 1013]),
  (12, ⟨"RaftTownModel", "weightOf", "(I)I"⟩, prog_14_method_16_code, 4, (some .int), 1, 1, [7025, 7024, 51, 1013]),
  (12, ⟨"RaftTownModel", "isOn", "(II)Z"⟩, prog_14_method_23_code, 3, (some .boolean), 2, 1, [7029, 7028, 52, 1013]),
  (12, ⟨"RaftTownModel", "isLost", "(I)Z"⟩, prog_14_method_22_code, 2, (some .boolean), 1, 1, [7033, 7032, 53, 1013]),
  (12, ⟨"RaftTownModel", "ofPerson", "(II)I"⟩, prog_14_method_21_code, 3, (some .int), 2, 1, [7037, 7036, 54, 1013]),
  (12, ⟨"RaftTownModel", "areaOf", "(I)I"⟩, prog_14_method_15_code, 3, (some .int), 1, 1, [7041, 7040, 55, 1013]),
  (12, ⟨"RaftTownModel", "allRopes", "()I"⟩, prog_14_method_32_code, 3, (some .int), 0, 1, [7045, 7044, 56, 1013]),
  (12, ⟨"RaftTownModel", "isLaid", "(I)Z"⟩, prog_14_method_31_code, 2, (some .boolean), 1, 1, [7049, 7048, 57, 1013]),
  (12, ⟨"RaftTownModel", "ofRope", "(II)I"⟩, prog_14_method_30_code, 3, (some .int), 2, 1, [7053, 7052, 58, 1013]),
  (12, ⟨"RaftTownModel", "partOf", "(II)I"⟩, prog_14_method_33_code, 8, (some .int), 2, 1, [7057, 7056, 59, 1013]),
  (12, ⟨"RaftTownModel", "leastOf", "(I)I"⟩, prog_14_method_34_code, 2, (some .int), 1, 0, [7060, 7059, 0, 1013]),
  (12, ⟨"RaftTownModel", "load", "(IIZ)I"⟩, prog_14_method_19_code, 5, (some .int), 3, 1, [7064, 7062, 7063, 1013]),
  (12, ⟨"RaftTownModel", "isSunk", "(I)Z"⟩, prog_14_method_11_code, 2, (some .boolean), 1, 1, [7068, 7067, 60, 1013])]
def mm_mths_6 : List mm_Mt := [
  (12, ⟨"RaftTownModel", "roomOf", "(I)I"⟩, prog_14_method_18_code, 2, (some .int), 1, 1, [7073, 7072, 61, 1013]),
  (12, ⟨"RaftTownModel", "trade", "(IIIZ)I"⟩, prog_14_method_20_code, 6, (some .int), 4, 1, [7077, 7075, 7076, 1013]),
  (12, ⟨"RaftTownModel", "person", "(IIII)I"⟩, prog_14_method_24_code, 7, (some .int), 4, 1, [7084, 7082, 7083, 1013]),
  (12, ⟨"RaftTownModel", "wed", "(II)I"⟩, prog_14_method_25_code, 3, (some .int), 2, 1, [7088, 7086, 7087, 1013]),
  (12, ⟨"RaftTownModel", "isPerson", "(I)Z"⟩, prog_14_method_6_code, 2, (some .boolean), 1, 1, [7092, 7091, 62, 1013]),
  (12, ⟨"RaftTownModel", "move", "(II)I"⟩, prog_14_method_26_code, 4, (some .int), 2, 1, [7097, 7095, 7096, 1013]),
  (12, ⟨"RaftTownModel", "personIs", "(II)I"⟩, prog_14_method_29_code, 5, (some .int), 2, 1, [7101, 7099, 7100, 1013]),
  (12, ⟨"RaftTownModel", "areKin", "(II)Z"⟩, prog_14_method_28_code, 3, (some .boolean), 2, 1, [7105, 7104, 63, 1013]),
  (12, ⟨"RaftTownModel", "isParent", "(II)Z"⟩, prog_14_method_27_code, 3, (some .boolean), 2, 1, [7109, 7108, 64, 1013]),
  (12, ⟨"RaftTownModel", "parts", "()I"⟩, prog_14_method_37_code, 1, (some .int), 0, 1, [7113, 7111, 7112, 1013]),
  (12, ⟨"RaftTownModel", "partMany", "()I"⟩, prog_14_method_36_code, 4, (some .int), 0, 1, [7117, 7116, 65, 1013]),
  (12, ⟨"RaftTownModel", "part", "(I)I"⟩, prog_14_method_38_code, 2, (some .int), 1, 1, [7121, 7119, 7120, 1013]),
  (12, ⟨"RaftTownModel", "tie", "(IIIII)I"⟩, prog_14_method_40_code, 9, (some .int), 5, 1, [7125, 7123, 7124, 1013]),
  (12, ⟨"RaftTownModel", "hasRoom", "(II)Z"⟩, prog_14_method_39_code, 5, (some .boolean), 2, 1, [7129, 7128, 66, 1013]),
  (12, ⟨"RaftTownModel", "tellsOn", "(I)V"⟩, prog_14_method_51_code, 3, (none), 1, 1, [7133, 7132, 67, 1013]),
  (12, ⟨"RaftTownModel", "happens", "(III)V"⟩, prog_14_method_50_code, 5, (none), 3, 1, [7137, 7136, 68, 1013]),
  (12, ⟨"RaftTownModel", "rope", "(II)I"⟩, prog_14_method_47_code, 3, (some .int), 2, 1, [7141, 7139, 7140, 1013]),
  (12, ⟨"RaftTownModel", "isRope", "(I)Z"⟩, prog_14_method_7_code, 2, (some .boolean), 1, 1, [7145, 7144, 69, 1013]),
  (12, ⟨"RaftTownModel", "strengthOf", "(I)I"⟩, prog_14_method_41_code, 3, (some .int), 1, 1, [7149, 7148, 70, 1013]),
  (12, ⟨"RaftTownModel", "weighs", "()V"⟩, prog_14_method_43_code, 2, (none), 0, 1, [7153, 7152, 71, 1013]),
  (12, ⟨"RaftTownModel", "hangOf", "(II)I"⟩, prog_14_method_44_code, 8, (some .int), 2, 1, [7157, 7156, 72, 1013]),
  (12, ⟨"RaftTownModel", "weightOfAll", "(I)I"⟩, prog_14_method_42_code, 4, (some .int), 1, 1, [7161, 7160, 73, 1013]),
  (12, ⟨"RaftTownModel", "bears", "(II)I"⟩, prog_14_method_48_code, 3, (some .int), 2, 1, [7165, 7163, 7164, 1013]),
  (12, ⟨"RaftTownModel", "isWaves", "(I)Z"⟩, prog_14_method_8_code, 1, (some .boolean), 1, 0, [7168, 7167, 0, 1013]),
  (12, ⟨"RaftTownModel", "loadOf", "(III)I"⟩, prog_14_method_45_code, 4, (some .int), 3, 1, [7172, 7171, 74, 1013]),
  (12, ⟨"RaftTownModel", "worst", "(II)I"⟩, prog_14_method_49_code, 6, (some .int), 2, 1, [7176, 7174, 7175, 1013]),
  (12, ⟨"RaftTownModel", "partsFirst", "(II)I"⟩, prog_14_method_46_code, 7, (some .int), 2, 1, [7180, 7179, 75, 1013]),
  (12, ⟨"RaftTownModel", "events", "(I)I"⟩, prog_14_method_52_code, 4, (some .int), 1, 1, [7184, 7182, 7183, 1013]),
  (12, ⟨"RaftTownModel", "event", "(II)I"⟩, prog_14_method_53_code, 3, (some .int), 2, 1, [7188, 7186, 7187, 1013]),
  (12, ⟨"RaftTownModel", "day", "(II)I"⟩, prog_14_method_65_code, 3, (some .int), 2, 1, [7192, 7190, 7191, 1013]),
  (12, ⟨"RaftTownModel", "passes", "(II)I"⟩, prog_14_method_64_code, 4, (some .int), 2, 1, [7196, 7195, 76, 1013]),
  (12, ⟨"RaftTownModel", "partsAll", "(I)I"⟩, prog_14_method_55_code, 5, (some .int), 1, 1, [7200, 7199, 77, 1013]),
  (12, ⟨"RaftTownModel", "rains", "(I)V"⟩, prog_14_method_56_code, 4, (none), 1, 1, [7204, 7203, 78, 1013]),
  (12, ⟨"RaftTownModel", "drinks", "(I)Z"⟩, prog_14_method_57_code, 2, (some .boolean), 1, 1, [7208, 7207, 79, 1013]),
  (12, ⟨"RaftTownModel", "allDrink", "()V"⟩, prog_14_method_58_code, 6, (none), 0, 1, [7212, 7211, 80, 1013]),
  (12, ⟨"RaftTownModel", "loses", "(II)V"⟩, prog_14_method_54_code, 3, (none), 2, 1, [7216, 7215, 81, 1013]),
  (12, ⟨"RaftTownModel", "ropesAge", "(I)V"⟩, prog_14_method_59_code, 3, (none), 1, 1, [7220, 7219, 82, 1013]),
  (12, ⟨"RaftTownModel", "rots", "()V"⟩, prog_14_method_61_code, 2, (none), 0, 1, [7224, 7223, 83, 1013]),
  (12, ⟨"RaftTownModel", "sinks", "(I)V"⟩, prog_14_method_60_code, 5, (none), 1, 1, [7228, 7227, 84, 1013]),
  (12, ⟨"RaftTownModel", "drifts", "()V"⟩, prog_14_method_63_code, 2, (none), 0, 1, [7232, 7231, 85, 1013])]
def mm_mths_7 : List mm_Mt := [
  (12, ⟨"RaftTownModel", "leads", "(II)I"⟩, prog_14_method_62_code, 5, (some .int), 2, 1, [7236, 7235, 86, 1013]),
  (12, ⟨"RaftTownModel", "days", "(II)I"⟩, prog_14_method_66_code, 8, (some .int), 2, 1, [8000, 7238, 7239, 1013]),
  (12, ⟨"RaftTownModel", "isSheet", "(I)Z"⟩, prog_14_method_107_code, 1, (some .boolean), 1, 0, [8003, 8002, 0, 1013]),
  (12, ⟨"RaftTownModel", "lasts", "(I)I"⟩, prog_14_method_69_code, 5, (some .int), 1, 1, [8007, 8005, 8006, 1013]),
  (12, ⟨"RaftTownModel", "headsOf", "(I)I"⟩, prog_14_method_67_code, 4, (some .int), 1, 1, [8011, 8010, 87, 1013]),
  (12, ⟨"RaftTownModel", "waterOf", "(I)I"⟩, prog_14_method_68_code, 4, (some .int), 1, 1, [8015, 8014, 88, 1013]),
  (12, ⟨"RaftTownModel", "feed", "(IJ)I"⟩, prog_14_method_70_code, 5, (some .int), 2, 1, [8019, 8017, 8018, 1013]),
  (12, ⟨"RaftTownModel", "text", "(I)I"⟩, prog_14_method_84_code, 4, (some .int), 1, 1, [8023, 8021, 8022, 1013]),
  (12, ⟨"RaftTownModel", "reads", "()Z"⟩, prog_14_method_83_code, 2, (some .boolean), 0, 1, [8027, 8026, 89, 1013]),
  (12, ⟨"RaftTownModel", "looks", "()V"⟩, prog_14_method_76_code, 2, (none), 0, 1, [8031, 8030, 90, 1013]),
  (12, ⟨"RaftTownModel", "byteAt", "(I)I"⟩, prog_14_method_71_code, 2, (some .int), 1, 1, [8035, 8034, 91, 1013]),
  (12, ⟨"RaftTownModel", "isLetter", "(I)Z"⟩, prog_14_method_72_code, 1, (some .boolean), 1, 0, [8038, 8037, 0, 1013]),
  (12, ⟨"RaftTownModel", "wordOf", "()I"⟩, prog_14_method_75_code, 4, (some .int), 0, 1, [8042, 8041, 92, 1013]),
  (12, ⟨"RaftTownModel", "isDigit", "(I)Z"⟩, prog_14_method_73_code, 1, (some .boolean), 1, 0, [8045, 8044, 0, 1013]),
  (12, ⟨"RaftTownModel", "isSign", "(I)Z"⟩, prog_14_method_74_code, 1, (some .boolean), 1, 0, [8048, 8047, 0, 1013]),
  (12, ⟨"RaftTownModel", "readsE", "(I)Z"⟩, prog_14_method_82_code, 5, (some .boolean), 1, 1, [8052, 8051, 93, 1013]),
  (12, ⟨"RaftTownModel", "waitsOf", "(I)I"⟩, prog_14_method_80_code, 4, (some .int), 1, 1, [8056, 8055, 94, 1013]),
  (12, ⟨"RaftTownModel", "lays", "(I)V"⟩, prog_14_method_78_code, 2, (none), 1, 1, [8060, 8059, 95, 1013]),
  (12, ⟨"RaftTownModel", "settles", "(I)V"⟩, prog_14_method_79_code, 2, (none), 1, 1, [8064, 8063, 96, 1013]),
  (12, ⟨"RaftTownModel", "rankOf", "(I)I"⟩, prog_14_method_77_code, 1, (some .int), 1, 0, [8067, 8066, 0, 1013]),
  (12, ⟨"RaftTownModel", "isTested", "()Z"⟩, prog_14_method_81_code, 2, (some .boolean), 0, 1, [8071, 8070, 97, 1013]),
  (12, ⟨"RaftTownModel", "force", "(II)I"⟩, prog_14_method_87_code, 5, (some .int), 2, 1, [8075, 8073, 8074, 1013]),
  (12, ⟨"RaftTownModel", "law", "(I)I"⟩, prog_14_method_89_code, 3, (some .int), 1, 1, [8079, 8077, 8078, 1013]),
  (12, ⟨"RaftTownModel", "lawOf", "(I)I"⟩, prog_14_method_88_code, 4, (some .int), 1, 1, [8083, 8082, 98, 1013]),
  (12, ⟨"RaftTownModel", "cut", "(I)I"⟩, prog_14_method_93_code, 4, (some .int), 1, 1, [8087, 8085, 8086, 1013]),
  (12, ⟨"RaftTownModel", "cutOf", "(IIII)I"⟩, prog_14_method_92_code, 5, (some .int), 4, 1, [8091, 8090, 99, 1013]),
  (12, ⟨"RaftTownModel", "namesOf", "(I)V"⟩, prog_14_method_90_code, 3, (none), 1, 1, [8095, 8094, 100, 1013]),
  (12, ⟨"RaftTownModel", "kinOn", "(II)I"⟩, prog_14_method_91_code, 6, (some .int), 2, 1, [8099, 8098, 101, 1013]),
  (12, ⟨"RaftTownModel", "worth", "(II)I"⟩, prog_14_method_86_code, 7, (some .int), 2, 1, [8103, 8102, 102, 1013]),
  (12, ⟨"RaftTownModel", "done", "(III)I"⟩, prog_14_method_85_code, 3, (some .int), 3, 0, [8106, 8105, 0, 1013]),
  (12, ⟨"RaftTownModel", "may", "(II)I"⟩, prog_14_method_94_code, 5, (some .int), 2, 1, [8111, 8109, 8110, 1013]),
  (12, ⟨"RaftTownModel", "must", "(II)I"⟩, prog_14_method_95_code, 4, (some .int), 2, 1, [8115, 8113, 8114, 1013]),
  (12, ⟨"RaftTownModel", "speaks", "(I)I"⟩, prog_14_method_96_code, 8, (some .int), 1, 1, [8119, 8117, 8118, 1013]),
  (12, ⟨"RaftTownModel", "lash", "(II)I"⟩, prog_14_method_98_code, 7, (some .int), 2, 1, [8123, 8121, 8122, 1013]),
  (12, ⟨"RaftTownModel", "ones", "(I)I"⟩, prog_14_method_35_code, 3, (some .int), 1, 0, [8126, 8125, 0, 1013]),
  (12, ⟨"RaftTownModel", "holds", "(II)Z"⟩, prog_14_method_97_code, 3, (some .boolean), 2, 1, [8130, 8129, 103, 1013]),
  (12, ⟨"RaftTownModel", "storm", "(IZ)I"⟩, prog_14_method_100_code, 8, (some .int), 2, 1, [8134, 8132, 8133, 1013]),
  (12, ⟨"RaftTownModel", "lostBy", "(II)I"⟩, prog_14_method_99_code, 6, (some .int), 2, 1, [8138, 8137, 104, 1013]),
  (12, ⟨"RaftTownModel", "proves", "(III)I"⟩, prog_14_method_101_code, 8, (some .int), 3, 1, [8142, 8140, 8141, 1013]),
  (12, ⟨"RaftTownModel", "patch", "(II)I"⟩, prog_14_method_105_code, 7, (some .int), 2, 1, [8146, 8144, 8145, 1013])]
def mm_mths_8 : List mm_Mt := [
  (12, ⟨"RaftTownModel", "hasSail", "(I)Z"⟩, prog_14_method_102_code, 3, (some .boolean), 1, 1, [8150, 8149, 105, 1013]),
  (12, ⟨"RaftTownModel", "areNext", "(II)Z"⟩, prog_14_method_103_code, 4, (some .boolean), 2, 0, [8153, 8152, 0, 1013]),
  (12, ⟨"RaftTownModel", "copies", "()V"⟩, prog_14_method_104_code, 2, (none), 0, 1, [8157, 8156, 106, 1013]),
  (12, ⟨"RaftTownModel", "tow", "(II)I"⟩, prog_14_method_106_code, 8, (some .int), 2, 1, [8161, 8159, 8160, 1013]),
  (12, ⟨"RaftTownModel", "sheet", "(III)I"⟩, prog_14_method_108_code, 5, (some .int), 3, 1, [8165, 8163, 8164, 1013]),
  (12, ⟨"RaftTownModel", "put", "(III)I"⟩, prog_14_method_109_code, 4, (some .int), 3, 1, [8169, 8167, 8168, 1013]),
  (12, ⟨"RaftTownModel", "copy", "(IIIII)I"⟩, prog_14_method_110_code, 7, (some .int), 5, 1, [8173, 8171, 8172, 1013]),
  (12, ⟨"RaftTownModel", "image", "()I"⟩, prog_14_method_111_code, 2, (some .int), 0, 1, [8177, 8175, 8176, 1013]),
  (12, ⟨"RaftTownModel", "restore", "()I"⟩, prog_14_method_112_code, 2, (some .int), 0, 1, [8181, 8179, 8180, 1013]),
  (12, ⟨"RaftTownModel", "count", "(I)I"⟩, prog_14_method_113_code, 4, (some .int), 1, 1, [8185, 8183, 8184, 1013])]
def mm_mths : List mm_Mt := mm_mths_0 ++ (mm_mths_1 ++ (mm_mths_2 ++ (mm_mths_3 ++ (mm_mths_4 ++ (mm_mths_5 ++ (mm_mths_6 ++ (mm_mths_7 ++ (mm_mths_8))))))))
/-- what a class's pool says, as far as it is used: entry, kind, two numbers, a value, the word's place -/
abbrev mm_Pe : Type := Nat × Nat × Nat × Nat × Int × Nat
def mm_pool (o : Nat) : List mm_Pe := match o with
  | 0 => [(3, 8, 0, 0, 0, 2135), (9, 0, 0, 0, 0, 2136), (15, 0, 0, 1, 0, 2137), (18, 2, 31, 0, 0, 3191), (24, 2, 70, 0, 0, 3192), (27, 1, 2, 4, 0, 2113), (33, 2, 71, 0, 0, 3196), (37, 2, 32, 0, 0, 3208), (43, 1, 5, 5, 0, 1200), (46, 1, 5, 0, 0, 1187), (49, 1, 5, 1, 0, 1192), (52, 2, 74, 0, 0, 3209), (56, 2, 34, 0, 0, 3232), (60, 2, 79, 0, 0, 3233), (64, 2, 53, 0, 0, 5177), (67, 2, 75, 0, 0, 5178), (70, 2, 78, 0, 0, 5179), (75, 2, 30, 0, 0, 5180), (79, 1, 3, 1, 0, 1149), (84, 2, 80, 0, 0, 3237), (87, 2, 81, 0, 0, 4001), (90, 1, 10, 9, 0, 2020), (93, 0, 0, 2, 0, 2138), (96, 2, 87, 0, 0, 4026), (101, 2, 88, 0, 0, 4032), (104, 1, 9, 1, 0, 1234), (107, 2, 89, 0, 0, 4036), (111, 2, 90, 0, 0, 4040), (114, 2, 91, 0, 0, 4044)]
  | 1 => [(3, 8, 0, 0, 0, 1065), (9, 0, 1, 0, 0, 1066), (15, 0, 1, 1, 0, 1067), (18, 0, 1, 2, 0, 1068), (21, 0, 1, 3, 0, 1069), (24, 0, 1, 6, 0, 1073), (27, 0, 1, 7, 0, 1074), (30, 9, 0, 0, 0, 6111), (36, 0, 1, 4, 0, 1070), (40, 0, 1, 5, 0, 1071), (43, 0, 1, 8, 0, 1075), (46, 2, 63, 0, 0, 3163), (50, 2, 62, 0, 0, 5147), (54, 3, 14, 0, 0, 4014)]
  | 2 => [(3, 8, 0, 0, 0, 2107), (9, 0, 2, 0, 0, 2108), (15, 0, 2, 1, 0, 2109), (18, 0, 2, 2, 0, 2110), (21, 0, 2, 3, 0, 2111), (24, 0, 2, 5, 0, 2116), (28, 2, 20, 0, 0, 3002), (34, 2, 28, 0, 0, 3003), (40, 2, 23, 0, 0, 3013), (44, 1, 4, 6, 0, 1121), (48, 2, 30, 0, 0, 3014), (52, 1, 3, 6, 0, 1162), (57, 1, 3, 0, 0, 1145), (60, 3, 14, 0, 0, 3018), (64, 0, 2, 4, 0, 2112), (67, 2, 31, 0, 0, 3019), (71, 1, 5, 0, 0, 1186), (76, 1, 5, 1, 0, 1191), (79, 2, 32, 0, 0, 3023), (81, 2, 33, 0, 0, 3030), (85, 14, 0, 0, 0, 3034), (91, 1, 5, 7, 0, 1206), (94, 2, 35, 0, 0, 3043), (97, 2, 34, 0, 0, 3080), (100, 3, 44, 0, 0, 3081), (104, 2, 73, 0, 0, 3204), (107, 2, 72, 0, 0, 3200), (110, 2, 71, 0, 0, 4086), (114, 2, 100, 0, 0, 4082), (117, 2, 183, 0, 0, 5217), (120, 2, 182, 0, 0, 5213), (123, 2, 180, 0, 0, 5205), (126, 2, 181, 0, 0, 5209), (129, 2, 184, 0, 0, 5221), (132, 2, 78, 0, 0, 5225), (137, 2, 185, 0, 0, 5226), (140, 2, 99, 0, 0, 6006), (143, 2, 188, 0, 0, 5238), (146, 2, 189, 0, 0, 6002), (149, 2, 124, 0, 0, 6017)]
  | 3 => [(1, 8, 0, 0, 0, 1143), (7, 0, 3, 6, 0, 1161), (13, 0, 3, 0, 0, 1144), (17, 0, 3, 1, 0, 1148), (20, 0, 3, 2, 0, 1151), (23, 0, 3, 3, 0, 1153), (26, 2, 48, 0, 0, 6101), (30, 0, 3, 4, 0, 1155), (33, 0, 3, 5, 0, 1158)]
  | 4 => [(3, 8, 0, 0, 0, 1102), (9, 0, 4, 0, 0, 1103), (15, 0, 4, 1, 0, 1106), (18, 0, 4, 2, 0, 1109), (21, 0, 4, 3, 0, 1112), (24, 2, 21, 0, 0, 6096), (28, 0, 4, 4, 0, 1114), (31, 0, 4, 5, 0, 1117), (34, 0, 4, 6, 0, 1120), (38, 3, 18, 0, 0, 2226), (42, 11, 0, 0, 0, 2227), (46, 11, 1, 0, 0, 3011), (49, 2, 29, 0, 0, 3007), (53, 2, 41, 0, 0, 3067)]
  | 5 => [(1, 8, 0, 0, 0, 1184), (7, 0, 5, 0, 0, 1185), (13, 0, 5, 2, 0, 1194), (16, 0, 5, 1, 0, 1190), (19, 0, 5, 3, 0, 1196), (22, 0, 5, 4, 0, 1198), (25, 2, 61, 0, 0, 6106), (29, 0, 5, 5, 0, 1199), (32, 0, 5, 6, 0, 1203), (35, 0, 5, 7, 0, 1205), (39, 13, 0, 0, 0, 3027)]
  | 6 => [(3, 8, 0, 0, 0, 1041), (9, 0, 6, 0, 0, 1042), (15, 0, 6, 1, 0, 1043), (18, 0, 6, 2, 0, 1044), (22, 9, 0, 0, 0, 6091), (28, 3, 13, 0, 0, 2191), (32, 3, 14, 0, 0, 4175), (36, 2, 120, 0, 0, 4172), (40, 2, 119, 0, 0, 4168), (44, 2, 118, 0, 0, 6030), (48, 11, 7, 0, 0, 6031), (51, 11, 8, 0, 0, 6033), (54, 2, 195, 0, 0, 6035), (58, 2, 196, 0, 0, 6039)]
  | 7 => [(3, 8, 0, 0, 0, 2057), (9, 0, 7, 2, 0, 2062), (15, 0, 7, 0, 0, 2058), (19, 0, 7, 1, 0, 2060), (22, 3, 14, 0, 0, 4191), (26, 6, 0, 0, 65535, 6069)]
  | 8 => [(3, 8, 0, 0, 0, 2076), (9, 0, 8, 0, 0, 2079), (15, 4, 9, 1226, 1008, 2077), (17, 3, 7, 0, 0, 2078), (18, 0, 8, 2, 0, 2081), (22, 0, 8, 1, 0, 2080), (26, 7, 0, 0, 255, 4214), (28, 0, 8, 3, 0, 2083), (31, 2, 132, 0, 0, 4224), (34, 2, 133, 0, 0, 4228), (37, 2, 153, 0, 0, 5085), (41, 0, 8, 4, 0, 2084), (44, 0, 8, 5, 0, 2085), (47, 2, 154, 0, 0, 5089), (51, 2, 155, 0, 0, 5093), (54, 2, 163, 0, 0, 5126), (58, 2, 156, 0, 0, 5097), (61, 2, 162, 0, 0, 5121), (64, 2, 157, 0, 0, 5101), (67, 2, 158, 0, 0, 5105), (70, 2, 159, 0, 0, 5109), (73, 2, 160, 0, 0, 5113), (76, 0, 8, 6, 0, 2086), (79, 2, 161, 0, 0, 5117), (82, 2, 134, 0, 0, 4232), (86, 2, 135, 0, 0, 4236), (89, 2, 136, 0, 0, 5000), (92, 2, 150, 0, 0, 5075), (95, 2, 151, 0, 0, 5078), (98, 2, 152, 0, 0, 5082), (101, 2, 137, 0, 0, 5004), (105, 2, 138, 0, 0, 5023), (109, 2, 139, 0, 0, 5027), (114, 2, 141, 0, 0, 5037), (118, 3, 14, 0, 0, 4239)]
  | 9 => [(3, 8, 0, 0, 0, 1230), (9, 0, 9, 1, 0, 1233), (15, 0, 9, 2, 0, 1235), (18, 0, 9, 0, 0, 1231), (22, 0, 9, 3, 0, 1236), (26, 9, 0, 0, 0, 5135), (32, 2, 161, 0, 0, 5125), (36, 3, 14, 0, 0, 4030), (40, 14, 0, 0, 0, 4031)]
  | 10 => [(3, 8, 0, 0, 0, 1035), (9, 4, 6, 1037, 1003, 1036), (11, 3, 2, 0, 0, 1038), (12, 0, 10, 0, 0, 2006), (18, 4, 4, 1098, 1005, 1054), (20, 0, 10, 1, 0, 2008), (24, 4, 3, 1139, 1006, 1056), (26, 0, 10, 3, 0, 2011), (30, 4, 5, 1180, 1007, 1058), (32, 0, 10, 5, 0, 2014), (36, 4, 1, 1061, 1004, 1060), (38, 3, 3, 0, 0, 1062), (39, 0, 10, 7, 0, 2016), (43, 4, 9, 1226, 1008, 1096), (45, 0, 10, 8, 0, 2018), (49, 3, 4, 0, 0, 1099), (50, 3, 5, 0, 0, 1140), (51, 3, 6, 0, 0, 1181), (52, 3, 7, 0, 0, 1227), (53, 2, 207, 0, 0, 6087), (57, 2, 208, 0, 0, 6092), (60, 0, 10, 2, 0, 2009), (64, 2, 209, 0, 0, 6097), (67, 0, 10, 4, 0, 2012), (70, 2, 210, 0, 0, 6102), (73, 0, 10, 6, 0, 2015), (76, 2, 211, 0, 0, 6107), (79, 2, 164, 0, 0, 6112), (82, 0, 10, 9, 0, 2019), (85, 0, 10, 10, 0, 2022), (88, 0, 10, 11, 0, 2024), (91, 3, 14, 0, 0, 2208), (95, 3, 85, 0, 0, 4019), (99, 2, 83, 0, 0, 4010), (103, 2, 84, 0, 0, 4015), (107, 2, 20, 0, 0, 2204), (111, 2, 21, 0, 0, 2209), (115, 2, 30, 0, 0, 3099), (119, 2, 48, 0, 0, 3100), (122, 2, 59, 0, 0, 3145), (126, 1, 4, 0, 0, 1105), (129, 1, 5, 7, 0, 1208), (133, 13, 0, 0, 0, 3153), (139, 2, 55, 0, 0, 3130), (142, 1, 3, 2, 0, 1152), (145, 1, 3, 3, 0, 1154), (148, 1, 3, 4, 0, 1157), (151, 2, 54, 0, 0, 3126), (154, 2, 76, 0, 0, 3217), (157, 2, 75, 0, 0, 3213), (160, 2, 78, 0, 0, 3226), (165, 2, 77, 0, 0, 3221), (168, 2, 53, 0, 0, 3225), (171, 3, 44, 0, 0, 4005), (174, 1, 4, 4, 0, 1116), (177, 1, 4, 6, 0, 1123), (180, 1, 3, 6, 0, 1164), (183, 1, 4, 5, 0, 1119), (186, 2, 27, 0, 0, 4102), (192, 2, 105, 0, 0, 4103), (196, 2, 107, 0, 0, 4115), (200, 2, 108, 0, 0, 4123), (203, 2, 109, 0, 0, 4127), (207, 2, 113, 0, 0, 4144), (211, 2, 114, 0, 0, 4148), (214, 2, 117, 0, 0, 4160), (217, 1, 2, 4, 0, 2115), (220, 2, 100, 0, 0, 4107), (223, 2, 31, 0, 0, 4108), (227, 1, 5, 0, 0, 1189), (228, 2, 34, 0, 0, 4109), (231, 2, 62, 0, 0, 4110), (234, 2, 106, 0, 0, 4111), (237, 2, 29, 0, 0, 4119), (241, 2, 39, 0, 0, 4120), (244, 14, 0, 0, 0, 4121), (247, 2, 40, 0, 0, 4122), (251, 1, 3, 0, 0, 1147), (254, 2, 110, 0, 0, 4131), (258, 2, 111, 0, 0, 4135), (261, 1, 3, 5, 0, 1160), (264, 2, 112, 0, 0, 4140), (267, 3, 36, 0, 0, 4139), (270, 1, 5, 5, 0, 1202), (273, 1, 5, 6, 0, 1204), (276, 1, 4, 2, 0, 1111), (279, 2, 115, 0, 0, 4152), (283, 2, 116, 0, 0, 4156), (286, 1, 4, 1, 0, 1108), (289, 2, 118, 0, 0, 4164)]
  | 11 => [(1, 8, 0, 0, 0, 1027), (7, 4, 10, 1031, 1002, 1030), (9, 2, 1, 0, 0, 1032), (10, 0, 11, 0, 0, 2146), (16, 0, 11, 1, 0, 2147), (19, 0, 11, 2, 0, 2148), (23, 4, 7, 2053, 1009, 2051), (25, 0, 11, 3, 0, 2149), (29, 3, 8, 0, 0, 2054), (30, 4, 8, 2072, 1010, 2071), (32, 3, 9, 0, 0, 2073), (33, 0, 11, 4, 0, 2150), (37, 4, 2, 2103, 1011, 2102), (39, 3, 10, 0, 0, 2104), (40, 0, 11, 5, 0, 2151), (44, 4, 0, 2131, 1012, 2130), (46, 3, 11, 0, 0, 2132), (47, 0, 11, 6, 0, 2152), (51, 0, 11, 7, 0, 2153), (55, 2, 13, 0, 0, 2175), (59, 2, 14, 0, 0, 2178), (63, 6, 0, 0, -100001, 2181), (64, 2, 15, 0, 0, 2182), (68, 1, 10, 0, 0, 2007), (72, 2, 16, 0, 0, 2187), (78, 2, 18, 0, 0, 2196), (81, 1, 10, 2, 0, 2010), (84, 6, 0, 0, -100005, 2199), (85, 2, 19, 0, 0, 2200), (89, 2, 23, 0, 0, 2217), (92, 2, 20, 0, 0, 2221), (96, 2, 24, 0, 0, 2222), (101, 6, 0, 0, -100004, 2229), (102, 1, 4, 0, 0, 1104), (105, 1, 4, 1, 0, 1107), (108, 1, 4, 2, 0, 1110), (111, 1, 4, 3, 0, 1113), (114, 1, 4, 4, 0, 1115), (117, 1, 4, 5, 0, 1118), (120, 2, 26, 0, 0, 2234), (124, 2, 33, 0, 0, 3037), (127, 2, 29, 0, 0, 3038), (131, 2, 34, 0, 0, 3039), (134, 2, 36, 0, 0, 3047), (137, 1, 4, 6, 0, 1122), (140, 6, 0, 0, -100006, 3058), (141, 2, 39, 0, 0, 3059), (144, 2, 40, 0, 0, 3063), (148, 6, 0, 0, -100003, 3075), (149, 2, 43, 0, 0, 3076), (153, 6, 0, 0, -100008, 3084), (154, 2, 41, 0, 0, 3085), (158, 6, 0, 0, -100002, 3086), (159, 2, 46, 0, 0, 3091), (162, 1, 10, 4, 0, 2013), (165, 2, 47, 0, 0, 3095), (168, 2, 50, 0, 0, 3108), (171, 2, 30, 0, 0, 3112), (175, 1, 3, 6, 0, 1163), (180, 1, 3, 4, 0, 1156), (183, 6, 0, 0, -100007, 3113), (184, 1, 3, 0, 0, 1146), (187, 1, 3, 1, 0, 1150), (190, 1, 3, 5, 0, 1159), (193, 2, 53, 0, 0, 3122), (196, 2, 57, 0, 0, 3138), (199, 2, 58, 0, 0, 3141), (202, 2, 60, 0, 0, 3149), (205, 2, 31, 0, 0, 3154), (209, 2, 61, 0, 0, 3155), (215, 1, 10, 7, 0, 2017), (219, 1, 10, 9, 0, 2021), (222, 2, 62, 0, 0, 3159), (228, 2, 64, 0, 0, 3167), (232, 2, 66, 0, 0, 3175), (235, 1, 5, 7, 0, 1207), (238, 1, 5, 0, 0, 1188), (241, 2, 67, 0, 0, 3179), (244, 2, 68, 0, 0, 3183), (248, 6, 0, 0, -100009, 4047), (249, 2, 92, 0, 0, 4048), (252, 1, 5, 1, 0, 1193), (255, 2, 32, 0, 0, 4056), (258, 1, 5, 5, 0, 1201), (261, 1, 2, 4, 0, 2114), (264, 2, 72, 0, 0, 4057), (268, 1, 5, 2, 0, 1195), (271, 1, 5, 3, 0, 1197), (274, 2, 95, 0, 0, 4062), (277, 2, 71, 0, 0, 4065), (280, 2, 99, 0, 0, 4078), (283, 2, 101, 0, 0, 4087), (286, 2, 103, 0, 0, 4095), (289, 2, 104, 0, 0, 4098), (293, 2, 122, 0, 0, 4180), (296, 2, 123, 0, 0, 4183), (300, 2, 124, 0, 0, 4187), (303, 2, 80, 0, 0, 4196), (306, 2, 126, 0, 0, 4197), (309, 2, 81, 0, 0, 4201), (312, 2, 128, 0, 0, 4206), (315, 2, 129, 0, 0, 4210), (319, 2, 85, 0, 0, 4219), (322, 2, 131, 0, 0, 4220), (325, 2, 84, 0, 0, 5130), (329, 1, 8, 2, 0, 2082), (333, 2, 164, 0, 0, 5131), (339, 1, 9, 0, 0, 1232), (342, 1, 1, 8, 0, 1076), (345, 2, 166, 0, 0, 5143), (348, 2, 168, 0, 0, 5152), (351, 2, 171, 0, 0, 5164), (355, 2, 82, 0, 0, 4006), (358, 2, 86, 0, 0, 4022), (362, 2, 76, 0, 0, 5172), (365, 2, 173, 0, 0, 5173), (369, 1, 1, 5, 0, 1072), (372, 2, 175, 0, 0, 5185), (375, 2, 177, 0, 0, 5193), (378, 2, 179, 0, 0, 5201), (381, 2, 187, 0, 0, 5234), (384, 2, 189, 0, 0, 6007), (387, 2, 78, 0, 0, 6012), (392, 1, 7, 1, 0, 2061), (395, 2, 191, 0, 0, 6013), (399, 2, 193, 0, 0, 6022), (402, 2, 194, 0, 0, 6026), (406, 2, 198, 0, 0, 6049), (409, 2, 200, 0, 0, 6057), (412, 2, 202, 0, 0, 6065), (416, 1, 7, 0, 0, 2059), (419, 2, 204, 0, 0, 6074), (422, 1, 7, 2, 0, 2063), (426, 9, 0, 0, 0, 6078), (432, 2, 206, 0, 0, 6083), (435, 2, 214, 0, 0, 6121), (438, 2, 215, 0, 0, 6125), (441, 2, 216, 0, 0, 6129), (444, 2, 217, 0, 0, 6133), (447, 1, 10, 10, 0, 2023), (450, 1, 10, 11, 0, 2025), (453, 6, 0, 0, -99999, 2186), (454, 2, 27, 0, 0, 2238), (457, 2, 69, 0, 0, 3187), (461, 2, 37, 0, 0, 3050)]
  | 12 => [(1, 8, 0, 0, 0, 6142), (7, 0, 12, 0, 0, 6143), (13, 0, 12, 1, 0, 6144), (16, 0, 12, 4, 0, 6147), (19, 0, 12, 5, 0, 6148), (23, 0, 12, 7, 0, 6150), (27, 0, 12, 8, 0, 6151), (30, 0, 12, 9, 0, 6152), (33, 0, 12, 10, 0, 6153), (36, 0, 12, 11, 0, 6154), (39, 0, 12, 18, 0, 6161), (42, 0, 12, 19, 0, 6162), (45, 0, 12, 20, 0, 6163), (49, 0, 12, 21, 0, 6164), (52, 0, 12, 22, 0, 6165), (55, 0, 12, 23, 0, 6166), (58, 0, 12, 24, 0, 6167), (61, 0, 12, 25, 0, 6168), (64, 0, 12, 3, 0, 6146), (68, 2, 220, 0, 0, 6228), (72, 2, 226, 0, 0, 7013), (76, 6, 0, 0, -100001, 6231), (77, 2, 221, 0, 0, 6232), (81, 6, 0, 0, -100005, 7000), (82, 2, 223, 0, 0, 7001), (86, 2, 225, 0, 0, 7009), (90, 6, 0, 0, -100004, 7017), (91, 2, 229, 0, 0, 7026), (95, 2, 232, 0, 0, 7038), (98, 2, 228, 0, 0, 7022), (101, 2, 233, 0, 0, 7042), (105, 2, 236, 0, 0, 7054), (108, 2, 237, 0, 0, 7058), (111, 2, 239, 0, 0, 7065), (114, 6, 0, 0, -100006, 7069), (115, 2, 240, 0, 0, 7070), (118, 6, 0, 0, -100003, 7078), (119, 6, 0, 0, -100008, 7079), (120, 6, 0, 0, -100002, 7080), (121, 2, 231, 0, 0, 7034), (124, 2, 230, 0, 0, 7030), (127, 2, 244, 0, 0, 7089), (130, 6, 0, 0, -100007, 7093), (131, 2, 248, 0, 0, 7106), (134, 2, 247, 0, 0, 7102), (137, 2, 235, 0, 0, 7050), (140, 2, 234, 0, 0, 7046), (143, 2, 250, 0, 0, 7114), (146, 2, 253, 0, 0, 7126), (149, 2, 254, 0, 0, 7130), (153, 2, 255, 0, 0, 7134), (156, 2, 261, 0, 0, 7158), (159, 2, 260, 0, 0, 7154), (162, 2, 264, 0, 0, 7169), (166, 2, 258, 0, 0, 7146), (169, 2, 257, 0, 0, 7142), (172, 2, 259, 0, 0, 7150), (175, 2, 263, 0, 0, 7166), (178, 2, 266, 0, 0, 7177), (181, 2, 273, 0, 0, 7205), (184, 2, 275, 0, 0, 7213), (188, 2, 278, 0, 0, 7225), (191, 2, 280, 0, 0, 7233), (194, 2, 271, 0, 0, 7197), (197, 2, 272, 0, 0, 7201), (200, 2, 274, 0, 0, 7209), (203, 2, 276, 0, 0, 7217), (206, 2, 277, 0, 0, 7221), (209, 2, 279, 0, 0, 7229), (212, 2, 270, 0, 0, 7193), (215, 2, 282, 0, 0, 8001), (218, 2, 284, 0, 0, 8008), (221, 2, 285, 0, 0, 8012), (224, 0, 12, 6, 0, 6149), (227, 0, 12, 13, 0, 6156), (230, 0, 12, 12, 0, 6155), (233, 2, 290, 0, 0, 8032), (236, 0, 12, 14, 0, 6157), (239, 2, 291, 0, 0, 8036), (242, 2, 292, 0, 0, 8039), (245, 2, 293, 0, 0, 8043), (248, 0, 12, 15, 0, 6158), (251, 2, 294, 0, 0, 8046), (254, 0, 12, 16, 0, 6159), (257, 0, 12, 17, 0, 6160), (260, 2, 299, 0, 0, 8065), (263, 2, 297, 0, 0, 8057), (266, 2, 289, 0, 0, 8028), (269, 2, 296, 0, 0, 8053), (272, 2, 298, 0, 0, 8061), (275, 2, 300, 0, 0, 8068), (279, 2, 295, 0, 0, 8049), (282, 2, 288, 0, 0, 8024), (285, 2, 309, 0, 0, 8104), (288, 2, 303, 0, 0, 8080), (291, 2, 306, 0, 0, 8092), (294, 2, 307, 0, 0, 8096), (297, 2, 308, 0, 0, 8100), (300, 2, 305, 0, 0, 8088), (304, 6, 0, 0, -100009, 8107), (305, 2, 314, 0, 0, 8124), (308, 2, 315, 0, 0, 8127), (311, 2, 317, 0, 0, 8135), (314, 2, 320, 0, 0, 8147), (317, 2, 321, 0, 0, 8151), (320, 2, 322, 0, 0, 8154), (323, 0, 12, 2, 0, 6145)]
  | 13 => [(7, 4, 11, 1023, 1001, 1022), (9, 2, 0, 0, 0, 1024), (10, 4, 12, 6138, 1013, 6137), (12, 2, 218, 0, 0, 6139), (13, 2, 12, 0, 0, 2171), (17, 2, 219, 0, 0, 6224), (18, 2, 17, 0, 0, 2192), (22, 2, 222, 0, 0, 6236), (23, 2, 22, 0, 0, 2213), (27, 2, 224, 0, 0, 7005), (28, 2, 25, 0, 0, 2230), (31, 2, 227, 0, 0, 7018), (32, 2, 38, 0, 0, 3054), (36, 2, 238, 0, 0, 7061), (37, 2, 42, 0, 0, 3071), (41, 2, 241, 0, 0, 7074), (42, 2, 45, 0, 0, 3087), (45, 2, 242, 0, 0, 7081), (46, 2, 49, 0, 0, 3104), (49, 2, 243, 0, 0, 7085), (50, 2, 51, 0, 0, 3114), (53, 2, 245, 0, 0, 7094), (54, 2, 52, 0, 0, 3118), (57, 2, 246, 0, 0, 7098), (58, 2, 56, 0, 0, 3134), (62, 2, 252, 0, 0, 7122), (63, 2, 65, 0, 0, 3171), (67, 2, 304, 0, 0, 8084), (68, 2, 93, 0, 0, 4052), (71, 2, 256, 0, 0, 7138), (72, 2, 94, 0, 0, 4058), (75, 2, 262, 0, 0, 7162), (76, 2, 96, 0, 0, 4066), (80, 2, 249, 0, 0, 7110), (81, 2, 97, 0, 0, 4070), (84, 2, 251, 0, 0, 7118), (85, 2, 98, 0, 0, 4074), (88, 2, 265, 0, 0, 7173), (89, 2, 102, 0, 0, 4091), (92, 2, 269, 0, 0, 7189), (93, 2, 121, 0, 0, 4176), (96, 2, 281, 0, 0, 7237), (97, 2, 125, 0, 0, 4192), (100, 2, 283, 0, 0, 8004), (101, 7, 0, 0, 4294967295, 8186), (103, 2, 127, 0, 0, 4202), (107, 2, 286, 0, 0, 8016), (108, 2, 130, 0, 0, 4215), (111, 2, 287, 0, 0, 8020), (112, 2, 165, 0, 0, 5139), (115, 2, 301, 0, 0, 8072), (116, 2, 167, 0, 0, 5148), (119, 2, 302, 0, 0, 8076), (120, 2, 169, 0, 0, 5156), (123, 2, 310, 0, 0, 8108), (124, 2, 170, 0, 0, 5160), (127, 2, 311, 0, 0, 8112), (128, 2, 172, 0, 0, 5168), (131, 2, 312, 0, 0, 8116), (132, 2, 174, 0, 0, 5181), (135, 2, 267, 0, 0, 7181), (136, 2, 176, 0, 0, 5189), (139, 2, 268, 0, 0, 7185), (140, 2, 178, 0, 0, 5197), (143, 2, 313, 0, 0, 8120), (144, 2, 186, 0, 0, 5230), (148, 2, 316, 0, 0, 8131), (149, 2, 190, 0, 0, 6008), (152, 2, 318, 0, 0, 8139), (153, 2, 192, 0, 0, 6018), (156, 2, 319, 0, 0, 8143), (157, 2, 197, 0, 0, 6045), (160, 2, 323, 0, 0, 8158), (161, 2, 199, 0, 0, 6053), (164, 2, 324, 0, 0, 8162), (165, 2, 201, 0, 0, 6061), (168, 2, 325, 0, 0, 8166), (169, 2, 203, 0, 0, 6070), (172, 2, 326, 0, 0, 8170), (173, 2, 205, 0, 0, 6079), (176, 2, 327, 0, 0, 8174), (177, 2, 212, 0, 0, 6113), (180, 2, 328, 0, 0, 8178), (181, 2, 213, 0, 0, 6117), (184, 2, 329, 0, 0, 8182)]
  | 14 => [(264, 6, 0, 0, 65536, 3053), (265, 6, 0, 0, 1431655765, 3229), (266, 6, 0, 0, 858993459, 3230), (267, 6, 0, 0, 252645135, 3231)]
  | 15 => [(38, 10, 2, 0, 0, 5035), (335, 2, 140, 0, 0, 5031), (492, 2, 142, 0, 0, 5041), (495, 2, 143, 0, 0, 5045), (498, 2, 146, 0, 0, 5056), (1053, 10, 3, 0, 0, 5051), (1059, 2, 145, 0, 0, 5053)]
  | 16 => [(9, 2, 144, 0, 0, 5048)]
  | 17 => []
  | 18 => [(44, 10, 4, 0, 0, 5069), (48, 2, 148, 0, 0, 5062), (59, 10, 5, 0, 0, 5071), (63, 10, 6, 0, 0, 5073), (67, 2, 147, 0, 0, 5059), (71, 2, 149, 0, 0, 5066), (414, 2, 144, 0, 0, 5065)]
  | 19 => [(314, 7, 0, 0, 6148914691236517205, 6042), (316, 7, 0, 0, 3689348814741910323, 6043), (318, 7, 0, 0, 1085102592571150095, 6044)]
  | _ => []
def mm_tab (t : Nat) : List Cond := match t with
  | 0 => k2_sels lw_privs
  | 1 => tables_1_1
  | 2 => tables_1_2
  | 3 => tables_1_3
  | 4 => tables_1_4
  | 5 => tables_1_5
  | 6 => tables_1_6
  | 7 => tables_1_7
  | 8 => tables_1_8
  | _ => []
def mm_sts : List (String × String × String) := [("RaftTown", "KIND_ABOVE", "[I"), ("RaftTown", "AREA", "[I"), ("java/lang/String", "COMPACT_STRINGS", "Z"), ("jdk/internal/util/Preconditions", "SIOOBE_FORMATTER", "Ljava/util/function/BiFunction;"), ("java/lang/StringUTF16", "$assertionsDisabled", "Z"), ("java/lang/StringUTF16", "HI_BYTE_SHIFT", "I"), ("java/lang/StringUTF16", "LO_BYTE_SHIFT", "I"), ("RaftTown", "BESIDE_X", "[I"), ("RaftTown", "BESIDE_Y", "[I")]
end
section
/-! ===== printed by wip/gen_pure.py: steps that touch no cell ===== -/
def mm_lget (lv : List (Nat × Value)) (i : Nat) : Option Value := (lv.find? (fun q => q.1 == i)).map (fun q => q.2)
def mm_l1 (lv : List (Nat × Value)) (i : Nat) (v : Value) : List (Nat × Value) := (i, v) :: lv.filter (fun q => !(q.1 == i) && !(q.1 + 1 == i && q.2.category == 2))
def mm_l2 (lv : List (Nat × Value)) (i : Nat) (v : Value) : List (Nat × Value) := (i, v) :: lv.filter (fun q => !(q.1 == i) && (!(q.1 == i + 1) && !(q.1 + 1 == i && q.2.category == 2)))
abbrev mm_F : Type := Nat × List (Nat × Value) × List Value
def mm_tgt (pc : Nat) (off : Int) : Option Nat := if 0 ≤ (pc : Int) + off then some ((pc : Int) + off).toNat else none
theorem mm_tgt_ok {pc tgt : Nat} {off : Int} (h : mm_tgt pc off = some tgt) : (pc : Int) + off = (tgt : Int) := by
  unfold mm_tgt at h
  split at h
  · next h0 => cases h; exact (Int.toNat_of_nonneg h0).symm
  · cases h
theorem mm_lget_has {φ : Nat → Nat} {ls : Array Slot} {nL : Nat} {lv : List (Nat × Value)} (h : lv_has ls nL (mm_sl φ lv)) {i : Nat} {v : Value} (hv : mm_lget lv i = some v) : ls[i]? = some (.val (mm_sh φ v)) := by
  unfold mm_lget at hv
  cases hf : lv.find? (fun q => q.1 == i) with
  | none => rw [hf] at hv; cases hv
  | some q =>
    rw [hf] at hv
    cases hv
    have h1 := List.mem_of_find?_eq_some hf
    have h2 := List.find?_some hf
    simp at h2
    have := h.2.2 (q.1, mm_sh φ q.2) (List.mem_map.mpr ⟨q, h1, rfl⟩)
    rw [← h2]
    exact this
theorem mm_lget_at {φ : Nat → Nat} {lv : List (Nat × Value)} {i : Nat} {v : Value} (hv : mm_lget lv i = some v) : ∃ k : Nat, (mm_sl φ lv)[k]? = some (i, mm_sh φ v) := by
  unfold mm_lget at hv
  cases hf : lv.find? (fun q => q.1 == i) with
  | none => rw [hf] at hv; cases hv
  | some q =>
    rw [hf] at hv
    cases hv
    have h1 := List.mem_of_find?_eq_some hf
    have h2 := List.find?_some hf
    simp at h2
    obtain ⟨k, hk⟩ := List.getElem?_of_mem (List.mem_map.mpr ⟨q, h1, rfl⟩ : (q.1, mm_sh φ q.2) ∈ mm_sl φ lv)
    exact ⟨k, by rw [← h2]; exact hk⟩
theorem mm_l1_sl (φ : Nat → Nat) (lv : List (Nat × Value)) (i : Nat) (v : Value) : (i, mm_sh φ v) :: (mm_sl φ lv).filter (fun q => !(q.1 == i) && !(q.1 + 1 == i && q.2.category == 2)) = mm_sl φ (mm_l1 lv i v) := by
  simp only [mm_sl, mm_l1, List.map_cons, List.filter_map]
  congr 2
  apply List.filter_congr
  intro q _
  simp [Function.comp, mm_sh_cat]
theorem mm_l2_sl (φ : Nat → Nat) (lv : List (Nat × Value)) (i : Nat) (v : Value) : (i, mm_sh φ v) :: (mm_sl φ lv).filter (fun q => !(q.1 == i) && (!(q.1 == i + 1) && !(q.1 + 1 == i && q.2.category == 2))) = mm_sl φ (mm_l2 lv i v) := by
  simp only [mm_sl, mm_l2, List.map_cons, List.filter_map]
  congr 2
  apply List.filter_congr
  intro q _
  simp [Function.comp, mm_sh_cat]
def mm_push (k len : Nat) (pc : Nat) (lv : List (Nat × Value)) (st : List Value) (v : Value) : Option mm_F := if len = k then some (pc + k, lv, v :: st) else none
theorem mm_push_inv {k len pc : Nat} {lv : List (Nat × Value)} {st : List Value} {v : Value} {f : mm_F} (h : mm_push k len pc lv st v = some f) : len = k ∧ f = (pc + k, lv, v :: st) := by
  unfold mm_push at h
  split at h
  · next e => cases h; exact ⟨e, rfl⟩
  · cases h
def mm_bii (g : Int32 → Int32 → Int32) (len pc : Nat) (lv : List (Nat × Value)) (st : List Value) : Option mm_F := match len, st with
  | 1, .int y :: .int x :: r => some (pc + 1, lv, .int (g x y) :: r)
  | _, _ => none
theorem mm_bii_inv {g : Int32 → Int32 → Int32} {len pc : Nat} {lv : List (Nat × Value)} {st : List Value} {f : mm_F} (h : mm_bii g len pc lv st = some f) : len = 1 ∧ ∃ x y r, st = .int y :: .int x :: r ∧ f = (pc + 1, lv, .int (g x y) :: r) := by
  unfold mm_bii at h
  split at h
  · cases h; exact ⟨rfl, _, _, _, rfl, rfl⟩
  · cases h
def mm_bll (g : Int64 → Int64 → Int64) (len pc : Nat) (lv : List (Nat × Value)) (st : List Value) : Option mm_F := match len, st with
  | 1, .long y :: .long x :: r => some (pc + 1, lv, .long (g x y) :: r)
  | _, _ => none
theorem mm_bll_inv {g : Int64 → Int64 → Int64} {len pc : Nat} {lv : List (Nat × Value)} {st : List Value} {f : mm_F} (h : mm_bll g len pc lv st = some f) : len = 1 ∧ ∃ x y r, st = .long y :: .long x :: r ∧ f = (pc + 1, lv, .long (g x y) :: r) := by
  unfold mm_bll at h
  split at h
  · cases h; exact ⟨rfl, _, _, _, rfl, rfl⟩
  · cases h
def mm_bli (g : Int64 → Int32 → Int64) (len pc : Nat) (lv : List (Nat × Value)) (st : List Value) : Option mm_F := match len, st with
  | 1, .int y :: .long x :: r => some (pc + 1, lv, .long (g x y) :: r)
  | _, _ => none
theorem mm_bli_inv {g : Int64 → Int32 → Int64} {len pc : Nat} {lv : List (Nat × Value)} {st : List Value} {f : mm_F} (h : mm_bli g len pc lv st = some f) : len = 1 ∧ ∃ x y r, st = .int y :: .long x :: r ∧ f = (pc + 1, lv, .long (g x y) :: r) := by
  unfold mm_bli at h
  split at h
  · cases h; exact ⟨rfl, _, _, _, rfl, rfl⟩
  · cases h
def mm_ui_i (g : Int32 → Int32) (len pc : Nat) (lv : List (Nat × Value)) (st : List Value) : Option mm_F := match len, st with
  | 1, .int x :: r => some (pc + 1, lv, .int (g x) :: r)
  | _, _ => none
theorem mm_ui_i_inv {g : Int32 → Int32} {len pc : Nat} {lv : List (Nat × Value)} {st : List Value} {f : mm_F} (h : mm_ui_i g len pc lv st = some f) : len = 1 ∧ ∃ x r, st = .int x :: r ∧ f = (pc + 1, lv, .int (g x) :: r) := by
  unfold mm_ui_i at h
  split at h
  · cases h; exact ⟨rfl, _, _, rfl, rfl⟩
  · cases h
def mm_ui_l (g : Int32 → Int64) (len pc : Nat) (lv : List (Nat × Value)) (st : List Value) : Option mm_F := match len, st with
  | 1, .int x :: r => some (pc + 1, lv, .long (g x) :: r)
  | _, _ => none
theorem mm_ui_l_inv {g : Int32 → Int64} {len pc : Nat} {lv : List (Nat × Value)} {st : List Value} {f : mm_F} (h : mm_ui_l g len pc lv st = some f) : len = 1 ∧ ∃ x r, st = .int x :: r ∧ f = (pc + 1, lv, .long (g x) :: r) := by
  unfold mm_ui_l at h
  split at h
  · cases h; exact ⟨rfl, _, _, rfl, rfl⟩
  · cases h
def mm_ul_i (g : Int64 → Int32) (len pc : Nat) (lv : List (Nat × Value)) (st : List Value) : Option mm_F := match len, st with
  | 1, .long x :: r => some (pc + 1, lv, .int (g x) :: r)
  | _, _ => none
theorem mm_ul_i_inv {g : Int64 → Int32} {len pc : Nat} {lv : List (Nat × Value)} {st : List Value} {f : mm_F} (h : mm_ul_i g len pc lv st = some f) : len = 1 ∧ ∃ x r, st = .long x :: r ∧ f = (pc + 1, lv, .int (g x) :: r) := by
  unfold mm_ul_i at h
  split at h
  · cases h; exact ⟨rfl, _, _, rfl, rfl⟩
  · cases h
def mm_bd (g : Int32 → Int32 → Int32) (len pc : Nat) (lv : List (Nat × Value)) (st : List Value) : Option mm_F := match len, st with
  | 1, .int y :: .int x :: r => if y = 0 then none else some (pc + 1, lv, .int (g x y) :: r)
  | _, _ => none
theorem mm_bd_inv {g : Int32 → Int32 → Int32} {len pc : Nat} {lv : List (Nat × Value)} {st : List Value} {f : mm_F} (h : mm_bd g len pc lv st = some f) : len = 1 ∧ ∃ x y r, st = .int y :: .int x :: r ∧ ¬ y = 0 ∧ f = (pc + 1, lv, .int (g x y) :: r) := by
  unfold mm_bd at h
  split at h
  · split at h
    · cases h
    · next e => cases h; exact ⟨rfl, _, _, _, rfl, e, rfl⟩
  · cases h
def mm_lcmp (len pc : Nat) (lv : List (Nat × Value)) (st : List Value) : Option mm_F := match len, st with
  | 1, .long y :: .long x :: r => some (pc + 1, lv, .int (lg_cmp x y) :: r)
  | _, _ => none
theorem mm_lcmp_inv {len pc : Nat} {lv : List (Nat × Value)} {st : List Value} {f : mm_F} (h : mm_lcmp len pc lv st = some f) : len = 1 ∧ ∃ x y r, st = .long y :: .long x :: r ∧ f = (pc + 1, lv, .int (lg_cmp x y) :: r) := by
  unfold mm_lcmp at h
  split at h
  · cases h; exact ⟨rfl, _, _, _, rfl, rfl⟩
  · cases h
def mm_ldi (k i len pc : Nat) (lv : List (Nat × Value)) (st : List Value) : Option mm_F := match mm_lget lv i with
  | some (.int x) => if len = k then some (pc + k, lv, .int x :: st) else none
  | _ => none
theorem mm_ldi_inv {k i len pc : Nat} {lv : List (Nat × Value)} {st : List Value} {f : mm_F} (h : mm_ldi k i len pc lv st = some f) : len = k ∧ ∃ x, mm_lget lv i = some (.int x) ∧ f = (pc + k, lv, .int x :: st) := by
  unfold mm_ldi at h
  split at h
  · next e =>
    split at h
    · next e2 => cases h; exact ⟨e2, _, e, rfl⟩
    · cases h
  · cases h
def mm_ldl (k i len pc : Nat) (lv : List (Nat × Value)) (st : List Value) : Option mm_F := match mm_lget lv i with
  | some (.long x) => if len = k then some (pc + k, lv, .long x :: st) else none
  | _ => none
theorem mm_ldl_inv {k i len pc : Nat} {lv : List (Nat × Value)} {st : List Value} {f : mm_F} (h : mm_ldl k i len pc lv st = some f) : len = k ∧ ∃ x, mm_lget lv i = some (.long x) ∧ f = (pc + k, lv, .long x :: st) := by
  unfold mm_ldl at h
  split at h
  · next e =>
    split at h
    · next e2 => cases h; exact ⟨e2, _, e, rfl⟩
    · cases h
  · cases h
def mm_lda (k i len pc : Nat) (lv : List (Nat × Value)) (st : List Value) : Option mm_F := match mm_lget lv i with
  | some (.ref x) => if len = k then some (pc + k, lv, .ref x :: st) else none
  | _ => none
theorem mm_lda_inv {k i len pc : Nat} {lv : List (Nat × Value)} {st : List Value} {f : mm_F} (h : mm_lda k i len pc lv st = some f) : len = k ∧ ∃ x, mm_lget lv i = some (.ref x) ∧ f = (pc + k, lv, .ref x :: st) := by
  unfold mm_lda at h
  split at h
  · next e =>
    split at h
    · next e2 => cases h; exact ⟨e2, _, e, rfl⟩
    · cases h
  · cases h
def mm_sti (k i nL len pc : Nat) (lv : List (Nat × Value)) (st : List Value) : Option mm_F := match st with
  | .int x :: r => if len = k ∧ i < nL then some (pc + k, mm_l1 lv i (.int x), r) else none
  | _ => none
theorem mm_sti_inv {k i nL len pc : Nat} {lv : List (Nat × Value)} {st : List Value} {f : mm_F} (h : mm_sti k i nL len pc lv st = some f) : len = k ∧ i < nL ∧ ∃ x r, st = .int x :: r ∧ f = (pc + k, mm_l1 lv i (.int x), r) := by
  unfold mm_sti at h
  split at h
  · split at h
    · next e2 => cases h; exact ⟨e2.1, e2.2, _, _, rfl, rfl⟩
    · cases h
  · cases h
def mm_stl (k i nL len pc : Nat) (lv : List (Nat × Value)) (st : List Value) : Option mm_F := match st with
  | .long x :: r => if len = k ∧ i + 1 < nL then some (pc + k, mm_l2 lv i (.long x), r) else none
  | _ => none
theorem mm_stl_inv {k i nL len pc : Nat} {lv : List (Nat × Value)} {st : List Value} {f : mm_F} (h : mm_stl k i nL len pc lv st = some f) : len = k ∧ i + 1 < nL ∧ ∃ x r, st = .long x :: r ∧ f = (pc + k, mm_l2 lv i (.long x), r) := by
  unfold mm_stl at h
  split at h
  · split at h
    · next e2 => cases h; exact ⟨e2.1, e2.2, _, _, rfl, rfl⟩
    · cases h
  · cases h
def mm_sta (k i nL len pc : Nat) (lv : List (Nat × Value)) (st : List Value) : Option mm_F := match st with
  | .ref x :: r => if len = k ∧ i < nL then some (pc + k, mm_l1 lv i (.ref x), r) else none
  | _ => none
theorem mm_sta_inv {k i nL len pc : Nat} {lv : List (Nat × Value)} {st : List Value} {f : mm_F} (h : mm_sta k i nL len pc lv st = some f) : len = k ∧ i < nL ∧ ∃ x r, st = .ref x :: r ∧ f = (pc + k, mm_l1 lv i (.ref x), r) := by
  unfold mm_sta at h
  split at h
  · split at h
    · next e2 => cases h; exact ⟨e2.1, e2.2, _, _, rfl, rfl⟩
    · cases h
  · cases h
def mm_inc (i nL : Nat) (n : Int) (len pc : Nat) (lv : List (Nat × Value)) (st : List Value) : Option mm_F := match mm_lget lv i with
  | some (.int x) => if len = 3 ∧ i < nL then some (pc + 3, mm_l1 lv i (.int (x + Int32.ofInt n)), st) else none
  | _ => none
theorem mm_inc_inv {i nL : Nat} {n : Int} {len pc : Nat} {lv : List (Nat × Value)} {st : List Value} {f : mm_F} (h : mm_inc i nL n len pc lv st = some f) : len = 3 ∧ i < nL ∧ ∃ x, mm_lget lv i = some (.int x) ∧ f = (pc + 3, mm_l1 lv i (.int (x + Int32.ofInt n)), st) := by
  unfold mm_inc at h
  split at h
  · next e =>
    split at h
    · next e2 => cases h; exact ⟨e2.1, e2.2, _, e, rfl⟩
    · cases h
  · cases h
def mm_if1 (P : Int32 → Bool) (off : Int) (len pc : Nat) (lv : List (Nat × Value)) (st : List Value) : Option mm_F := match mm_tgt pc off, st with
  | some tgt, .int x :: r => if len = 3 then some (if P x then tgt else pc + 3, lv, r) else none
  | _, _ => none
theorem mm_if1_inv {P : Int32 → Bool} {off : Int} {len pc : Nat} {lv : List (Nat × Value)} {st : List Value} {f : mm_F} (h : mm_if1 P off len pc lv st = some f) : len = 3 ∧ ∃ tgt x r, mm_tgt pc off = some tgt ∧ st = .int x :: r ∧ f = (if P x then tgt else pc + 3, lv, r) := by
  unfold mm_if1 at h
  split at h
  · next e =>
    split at h
    · next e2 => cases h; exact ⟨e2, _, _, _, e, rfl, rfl⟩
    · cases h
  · cases h
def mm_if2 (P : Int32 → Int32 → Bool) (off : Int) (len pc : Nat) (lv : List (Nat × Value)) (st : List Value) : Option mm_F := match mm_tgt pc off, st with
  | some tgt, .int y :: .int x :: r => if len = 3 then some (if P x y then tgt else pc + 3, lv, r) else none
  | _, _ => none
theorem mm_if2_inv {P : Int32 → Int32 → Bool} {off : Int} {len pc : Nat} {lv : List (Nat × Value)} {st : List Value} {f : mm_F} (h : mm_if2 P off len pc lv st = some f) : len = 3 ∧ ∃ tgt x y r, mm_tgt pc off = some tgt ∧ st = .int y :: .int x :: r ∧ f = (if P x y then tgt else pc + 3, lv, r) := by
  unfold mm_if2 at h
  split at h
  · next e =>
    split at h
    · next e2 => cases h; exact ⟨e2, _, _, _, _, e, rfl, rfl⟩
    · cases h
  · cases h
def mm_go (off : Int) (len pc : Nat) (lv : List (Nat × Value)) (st : List Value) : Option mm_F := match mm_tgt pc off with
  | some tgt => if len = 3 then some (tgt, lv, st) else none
  | none => none
theorem mm_go_inv {off : Int} {len pc : Nat} {lv : List (Nat × Value)} {st : List Value} {f : mm_F} (h : mm_go off len pc lv st = some f) : len = 3 ∧ ∃ tgt, mm_tgt pc off = some tgt ∧ f = (tgt, lv, st) := by
  unfold mm_go at h
  split at h
  · next e =>
    split at h
    · next e2 => cases h; exact ⟨e2, _, e, rfl⟩
    · cases h
  · cases h
def mm_sw (dflt lo hi : Int) (offs : Array Int) (pc : Nat) (lv : List (Nat × Value)) (st : List Value) : Option mm_F := match st with
  | .int x :: r => if x.toInt < lo ∨ hi < x.toInt then (mm_tgt pc dflt).map (fun t => (t, lv, r)) else match offs[(x.toInt - lo).toNat]? with
    | some off => (mm_tgt pc off).map (fun t => (t, lv, r))
    | none => none
  | _ => none
def mm_lsw (dflt : Int) (ps : Array (Int × Int)) (pc : Nat) (lv : List (Nat × Value)) (st : List Value) : Option mm_F := match st with
  | .int x :: r => if (ps.toList.zip (ps.toList.drop 1)).all (fun (a, next) => a.1 < next.1) = true then (mm_tgt pc (Op.lookupswitch.offset ps.toList dflt x.toInt)).map (fun t => (t, lv, r)) else none
  | _ => none
def mm_dup (len pc : Nat) (lv : List (Nat × Value)) (st : List Value) : Option mm_F := match st with
  | a :: r => if len = 1 ∧ a.category = 1 then some (pc + 1, lv, a :: a :: r) else none
  | _ => none
def mm_pop (len pc : Nat) (lv : List (Nat × Value)) (st : List Value) : Option mm_F := match st with
  | a :: r => if len = 1 ∧ a.category = 1 then some (pc + 1, lv, r) else none
  | _ => none
def mm_dup2 (len pc : Nat) (lv : List (Nat × Value)) (st : List Value) : Option mm_F := match st with
  | a :: b :: r => if len = 1 ∧ a.category = 1 ∧ b.category = 1 then some (pc + 1, lv, a :: b :: a :: b :: r) else none
  | _ => none
def mm_P1 : Jvm.ClassFile.Cond → Int32 → Bool := fun c x => match c with
  | .eq => decide (x = 0)
  | .ne => !decide (x = 0)
  | .lt => decide (x < 0)
  | .ge => decide (0 ≤ x)
  | .gt => decide (0 < x)
  | .le => decide (x ≤ 0)
def mm_P2 : Jvm.ClassFile.Cond → Int32 → Int32 → Bool := fun c x y => match c with
  | .eq => decide (x = y)
  | .ne => !decide (x = y)
  | .lt => decide (x < y)
  | .ge => decide (y ≤ x)
  | .gt => decide (y < x)
  | .le => decide (x ≤ y)
def mm_pure (nL : Nat) (ins : Instr) (len pc : Nat) (lv : List (Nat × Value)) (st : List Value) : Option mm_F := match ins with
  | .iconst n => mm_push 1 len pc lv st (.int (Int32.ofInt n))
  | .bipush n => mm_push 2 len pc lv st (.int (Int8.ofInt n).toInt32)
  | .sipush n => mm_push 3 len pc lv st (.int (Int16.ofInt n).toInt32)
  | .lconst n => mm_push 1 len pc lv st (.long (Int64.ofNat n))
  | .iload_n n => mm_ldi 1 n.val len pc lv st
  | .iload i => mm_ldi 2 i len pc lv st
  | .istore_n n => mm_sti 1 n.val nL len pc lv st
  | .istore i => mm_sti 2 i nL len pc lv st
  | .lload_n n => mm_ldl 1 n.val len pc lv st
  | .lload i => mm_ldl 2 i len pc lv st
  | .lstore_n n => mm_stl 1 n.val nL len pc lv st
  | .lstore i => mm_stl 2 i nL len pc lv st
  | .aload_n n => mm_lda 1 n.val len pc lv st
  | .aload i => mm_lda 2 i len pc lv st
  | .astore_n n => mm_sta 1 n.val nL len pc lv st
  | .astore i => mm_sta 2 i nL len pc lv st
  | .iinc i n => mm_inc i nL n len pc lv st
  | .iadd => mm_bii (fun x y => x + y) len pc lv st
  | .isub => mm_bii (fun x y => x - y) len pc lv st
  | .imul => mm_bii (fun x y => x * y) len pc lv st
  | .iand => mm_bii (fun x y => x &&& y) len pc lv st
  | .ior => mm_bii (fun x y => x ||| y) len pc lv st
  | .ixor => mm_bii (fun x y => x ^^^ y) len pc lv st
  | .ishl => mm_bii (fun x y => x <<< (y &&& 31)) len pc lv st
  | .ishr => mm_bii (fun x y => x >>> (y &&& 31)) len pc lv st
  | .iushr => mm_bii (fun x y => (x.toUInt32 >>> (y.toUInt32 &&& Int32.toUInt32 31)).toInt32) len pc lv st
  | .ladd => mm_bll (fun x y => x + y) len pc lv st
  | .lsub => mm_bll (fun x y => x - y) len pc lv st
  | .land => mm_bll (fun x y => x &&& y) len pc lv st
  | .lor => mm_bll (fun x y => x ||| y) len pc lv st
  | .lshl => mm_bli (fun x y => x <<< (y.toInt64 &&& 63)) len pc lv st
  | .lshr => mm_bli (fun x y => x >>> (y.toInt64 &&& 63)) len pc lv st
  | .lushr => mm_bli (fun x y => (x.toUInt64 >>> (y.toInt64.toUInt64 &&& Int64.toUInt64 63)).toInt64) len pc lv st
  | .idiv => mm_bd (fun x y => x / y) len pc lv st
  | .irem => mm_bd (fun x y => x - x / y * y) len pc lv st
  | .lcmp => mm_lcmp len pc lv st
  | .ineg => mm_ui_i (fun x => -x) len pc lv st
  | .i2l => mm_ui_l (fun x => x.toInt64) len pc lv st
  | .l2i => mm_ul_i (fun x => x.toInt32) len pc lv st
  | .i2b => mm_ui_i (fun x => x.toInt8.toInt32) len pc lv st
  | .i2s => mm_ui_i (fun x => x.toInt16.toInt32) len pc lv st
  | .i2c => mm_ui_i (fun x => (x.toUInt32 % 65536).toInt32) len pc lv st
  | .goto off => mm_go off len pc lv st
  | .ifCond c off => mm_if1 (mm_P1 c) off len pc lv st
  | .if_icmp c off => mm_if2 (mm_P2 c) off len pc lv st
  | .tableswitch dflt lo hi offs => mm_sw dflt lo hi offs pc lv st
  | .lookupswitch dflt ps => mm_lsw dflt ps pc lv st
  | .dup => mm_dup len pc lv st
  | .pop => mm_pop len pc lv st
  | .dup2 => mm_dup2 len pc lv st
  | _ => none
set_option maxHeartbeats 4000000 in
set_option maxRecDepth 100000 in
theorem mm_pure_ok {p : Program} {l : Launch} {e : Env} {R : Room} {s : State} {m : MethodId} {args : Array Value} {below : List Frame} {meth : Method} {c : Code} {H : Heap} {locs : List Loc} {cells slots : Nat} {Q : State → Prop} {cc : ByteArray} {pc : Nat} {ls : Array Slot} (φ : Nat → Nat) (hx : p.tables.exec = Jvm.exec) (hb : c.code = cc) {nL len : Nat} {ins : Instr} {lv : List (Nat × Value)} {st : List Value} {f : mm_F} (hd : decode cc pc = .ok (ins, len)) (h : mm_pure nL ins len pc lv st = some f) (hl : lv_has ls nL (mm_sl φ lv))
    (kk : ∀ ls' : Array Slot, lv_has ls' nL (mm_sl φ f.2.1) → W p l e R s m args below meth c H locs cells slots Q (F0 m f.1 ls' (f.2.2.map (mm_sh φ)))) : W p l e R s m args below meth c H locs cells slots Q (F0 m pc ls (st.map (mm_sh φ))) := by
  cases ins with
  | iconst n =>
    replace h : mm_push 1 len pc lv st (.int (Int32.ofInt n)) = some f := h
    obtain ⟨rfl, rfl⟩ := mm_push_inv h; exact lv_iconst hx hb hd rfl (kk _ hl)
  | bipush n =>
    replace h : mm_push 2 len pc lv st (.int (Int8.ofInt n).toInt32) = some f := h
    obtain ⟨rfl, rfl⟩ := mm_push_inv h; exact lv_bipush hx hb hd rfl (kk _ hl)
  | sipush n =>
    replace h : mm_push 3 len pc lv st (.int (Int16.ofInt n).toInt32) = some f := h
    obtain ⟨rfl, rfl⟩ := mm_push_inv h; exact lv_sipush hx hb hd rfl (kk _ hl)
  | lconst n =>
    replace h : mm_push 1 len pc lv st (.long (Int64.ofNat n)) = some f := h
    obtain ⟨rfl, rfl⟩ := mm_push_inv h; exact lv_lconst hx hb hd rfl (kk _ hl)
  | iload_n n =>
    replace h : mm_ldi 1 n.val len pc lv st = some f := h
    obtain ⟨rfl, x, h1, rfl⟩ := mm_ldi_inv h; exact lv_iload_n hx hb hd rfl (mm_lget_has hl h1) (kk _ hl)
  | iload i =>
    replace h : mm_ldi 2 i len pc lv st = some f := h
    obtain ⟨rfl, x, h1, rfl⟩ := mm_ldi_inv h; exact lv_iload hx hb hd (mm_lget_has hl h1) (kk _ hl)
  | istore_n n =>
    replace h : mm_sti 1 n.val nL len pc lv st = some f := h
    obtain ⟨rfl, hn, x, r, rfl, rfl⟩ := mm_sti_inv h; exact lv_istore_n hx hb hd rfl hl hn (mm_l1_sl φ lv n.val (.int x)) kk
  | istore i =>
    replace h : mm_sti 2 i nL len pc lv st = some f := h
    obtain ⟨rfl, hn, x, r, rfl, rfl⟩ := mm_sti_inv h; exact lv_istore hx hb hd hl hn (mm_l1_sl φ lv i (.int x)) kk
  | lload_n n =>
    replace h : mm_ldl 1 n.val len pc lv st = some f := h
    obtain ⟨rfl, x, h1, rfl⟩ := mm_ldl_inv h; exact lv_lload_n hx hb hd rfl (mm_lget_has hl h1) (kk _ hl)
  | lload i =>
    replace h : mm_ldl 2 i len pc lv st = some f := h
    obtain ⟨rfl, x, h1, rfl⟩ := mm_ldl_inv h; exact lv_lload hx hb hd (mm_lget_has hl h1) (kk _ hl)
  | lstore_n n =>
    replace h : mm_stl 1 n.val nL len pc lv st = some f := h
    obtain ⟨rfl, hn, x, r, rfl, rfl⟩ := mm_stl_inv h; exact lv_lstore_n hx hb hd rfl hl hn (mm_l2_sl φ lv n.val (.long x)) kk
  | lstore i =>
    replace h : mm_stl 2 i nL len pc lv st = some f := h
    obtain ⟨rfl, hn, x, r, rfl, rfl⟩ := mm_stl_inv h; exact lv_lstore hx hb hd hl hn (mm_l2_sl φ lv i (.long x)) kk
  | aload_n n =>
    replace h : mm_lda 1 n.val len pc lv st = some f := h
    obtain ⟨rfl, x, h1, rfl⟩ := mm_lda_inv h; exact lv_aload_n hx hb hd rfl (mm_lget_has hl h1) (kk _ hl)
  | aload i =>
    replace h : mm_lda 2 i len pc lv st = some f := h
    obtain ⟨rfl, x, h1, rfl⟩ := mm_lda_inv h; exact lv_aload hx hb hd (mm_lget_has hl h1) (kk _ hl)
  | astore_n n =>
    replace h : mm_sta 1 n.val nL len pc lv st = some f := h
    obtain ⟨rfl, hn, x, r, rfl, rfl⟩ := mm_sta_inv h; exact lv_astore_n hx hb hd rfl hl hn (mm_l1_sl φ lv n.val (.ref x)) kk
  | astore i =>
    replace h : mm_sta 2 i nL len pc lv st = some f := h
    obtain ⟨rfl, hn, x, r, rfl, rfl⟩ := mm_sta_inv h; exact lv_astore hx hb hd hl hn (mm_l1_sl φ lv i (.ref x)) kk
  | iinc i n =>
    replace h : mm_inc i nL n len pc lv st = some f := h
    obtain ⟨rfl, hn, x, h1, rfl⟩ := mm_inc_inv h; obtain ⟨k, hk⟩ := mm_lget_at (φ := φ) h1; exact lv_iinc hx hb hd hl hk rfl hn (mm_l1_sl φ lv i (.int (x + Int32.ofInt n))) kk
  | iadd =>
    replace h : mm_bii (fun x y => x + y) len pc lv st = some f := h
    obtain ⟨rfl, x, y, r, rfl, rfl⟩ := mm_bii_inv h; exact lv_iadd hx hb hd (kk _ hl)
  | isub =>
    replace h : mm_bii (fun x y => x - y) len pc lv st = some f := h
    obtain ⟨rfl, x, y, r, rfl, rfl⟩ := mm_bii_inv h; exact lv_isub hx hb hd (kk _ hl)
  | imul =>
    replace h : mm_bii (fun x y => x * y) len pc lv st = some f := h
    obtain ⟨rfl, x, y, r, rfl, rfl⟩ := mm_bii_inv h; exact lv_imul hx hb hd (kk _ hl)
  | iand =>
    replace h : mm_bii (fun x y => x &&& y) len pc lv st = some f := h
    obtain ⟨rfl, x, y, r, rfl, rfl⟩ := mm_bii_inv h; exact lv_iand hx hb hd (kk _ hl)
  | ior =>
    replace h : mm_bii (fun x y => x ||| y) len pc lv st = some f := h
    obtain ⟨rfl, x, y, r, rfl, rfl⟩ := mm_bii_inv h; exact lv_ior hx hb hd (kk _ hl)
  | ixor =>
    replace h : mm_bii (fun x y => x ^^^ y) len pc lv st = some f := h
    obtain ⟨rfl, x, y, r, rfl, rfl⟩ := mm_bii_inv h; exact lv_ixor hx hb hd (kk _ hl)
  | ishl =>
    replace h : mm_bii (fun x y => x <<< (y &&& 31)) len pc lv st = some f := h
    obtain ⟨rfl, x, y, r, rfl, rfl⟩ := mm_bii_inv h; exact lv_ishl hx hb hd (kk _ hl)
  | ishr =>
    replace h : mm_bii (fun x y => x >>> (y &&& 31)) len pc lv st = some f := h
    obtain ⟨rfl, x, y, r, rfl, rfl⟩ := mm_bii_inv h; exact lv_ishr hx hb hd (kk _ hl)
  | iushr =>
    replace h : mm_bii (fun x y => (x.toUInt32 >>> (y.toUInt32 &&& Int32.toUInt32 31)).toInt32) len pc lv st = some f := h
    obtain ⟨rfl, x, y, r, rfl, rfl⟩ := mm_bii_inv h; exact lv_iushr hx hb hd rfl (kk _ hl)
  | ladd =>
    replace h : mm_bll (fun x y => x + y) len pc lv st = some f := h
    obtain ⟨rfl, x, y, r, rfl, rfl⟩ := mm_bll_inv h; exact lv_ladd hx hb hd (kk _ hl)
  | lsub =>
    replace h : mm_bll (fun x y => x - y) len pc lv st = some f := h
    obtain ⟨rfl, x, y, r, rfl, rfl⟩ := mm_bll_inv h; exact lv_lsub hx hb hd (kk _ hl)
  | land =>
    replace h : mm_bll (fun x y => x &&& y) len pc lv st = some f := h
    obtain ⟨rfl, x, y, r, rfl, rfl⟩ := mm_bll_inv h; exact lv_land hx hb hd (kk _ hl)
  | lor =>
    replace h : mm_bll (fun x y => x ||| y) len pc lv st = some f := h
    obtain ⟨rfl, x, y, r, rfl, rfl⟩ := mm_bll_inv h; exact lv_lor hx hb hd (kk _ hl)
  | lshl =>
    replace h : mm_bli (fun x y => x <<< (y.toInt64 &&& 63)) len pc lv st = some f := h
    obtain ⟨rfl, x, y, r, rfl, rfl⟩ := mm_bli_inv h; exact lv_lshl hx hb hd rfl (kk _ hl)
  | lshr =>
    replace h : mm_bli (fun x y => x >>> (y.toInt64 &&& 63)) len pc lv st = some f := h
    obtain ⟨rfl, x, y, r, rfl, rfl⟩ := mm_bli_inv h; exact lv_lshr hx hb hd rfl (kk _ hl)
  | lushr =>
    replace h : mm_bli (fun x y => (x.toUInt64 >>> (y.toInt64.toUInt64 &&& Int64.toUInt64 63)).toInt64) len pc lv st = some f := h
    obtain ⟨rfl, x, y, r, rfl, rfl⟩ := mm_bli_inv h; exact lv_lushr hx hb hd rfl (kk _ hl)
  | idiv =>
    replace h : mm_bd (fun x y => x / y) len pc lv st = some f := h
    obtain ⟨rfl, x, y, r, rfl, h0, rfl⟩ := mm_bd_inv h; exact lv_idiv hx hb hd h0 (kk _ hl)
  | irem =>
    replace h : mm_bd (fun x y => x - x / y * y) len pc lv st = some f := h
    obtain ⟨rfl, x, y, r, rfl, h0, rfl⟩ := mm_bd_inv h; exact lv_irem hx hb hd h0 (kk _ hl)
  | lcmp =>
    replace h : mm_lcmp len pc lv st = some f := h
    obtain ⟨rfl, x, y, r, rfl, rfl⟩ := mm_lcmp_inv h; exact W.lcmp hx hb hd (kk _ hl)
  | ineg =>
    replace h : mm_ui_i (fun x => -x) len pc lv st = some f := h
    obtain ⟨rfl, x, r, rfl, rfl⟩ := mm_ui_i_inv h; exact lv_ineg hx hb hd (kk _ hl)
  | i2l =>
    replace h : mm_ui_l (fun x => x.toInt64) len pc lv st = some f := h
    obtain ⟨rfl, x, r, rfl, rfl⟩ := mm_ui_l_inv h; exact lv_i2l hx hb hd rfl (kk _ hl)
  | l2i =>
    replace h : mm_ul_i (fun x => x.toInt32) len pc lv st = some f := h
    obtain ⟨rfl, x, r, rfl, rfl⟩ := mm_ul_i_inv h; exact lv_l2i hx hb hd rfl (kk _ hl)
  | i2b =>
    replace h : mm_ui_i (fun x => x.toInt8.toInt32) len pc lv st = some f := h
    obtain ⟨rfl, x, r, rfl, rfl⟩ := mm_ui_i_inv h; exact lv_i2b hx hb hd rfl (kk _ hl)
  | i2s =>
    replace h : mm_ui_i (fun x => x.toInt16.toInt32) len pc lv st = some f := h
    obtain ⟨rfl, x, r, rfl, rfl⟩ := mm_ui_i_inv h; exact lv_i2s hx hb hd rfl (kk _ hl)
  | i2c =>
    replace h : mm_ui_i (fun x => (x.toUInt32 % 65536).toInt32) len pc lv st = some f := h
    obtain ⟨rfl, x, r, rfl, rfl⟩ := mm_ui_i_inv h; exact lv_i2c hx hb hd rfl (kk _ hl)
  | goto off =>
    replace h : mm_go off len pc lv st = some f := h
    obtain ⟨rfl, tgt, ht, rfl⟩ := mm_go_inv h; exact lv_goto hx hb hd (mm_tgt_ok ht) (kk _ hl)
  | ifCond cd off =>
    replace h : mm_if1 (mm_P1 cd) off len pc lv st = some f := h
    obtain ⟨rfl, tgt, x, r, ht, rfl, rfl⟩ := mm_if1_inv h
    have ht := mm_tgt_ok ht
    cases cd with
    | eq => exact lv_if_eq hx hb hd ht (fun q => by simpa [mm_P1, q] using kk _ hl) (fun q => by simpa [mm_P1, q] using kk _ hl)
    | ne => exact lv_if_ne hx hb hd ht (fun q => by simpa [mm_P1, q] using kk _ hl) (fun q => by simpa [mm_P1, q] using kk _ hl)
    | lt => exact lv_if_lt hx hb hd ht (fun q => by simpa [mm_P1, q] using kk _ hl) (fun q => by simpa [mm_P1, q] using kk _ hl)
    | ge => exact lv_if_ge hx hb hd ht (fun q => by simpa [mm_P1, q] using kk _ hl) (fun q => by simpa [mm_P1, q] using kk _ hl)
    | gt => exact lv_if_gt hx hb hd ht (fun q => by simpa [mm_P1, q] using kk _ hl) (fun q => by simpa [mm_P1, q] using kk _ hl)
    | le => exact lv_if_le hx hb hd ht (fun q => by simpa [mm_P1, q] using kk _ hl) (fun q => by simpa [mm_P1, q] using kk _ hl)
  | if_icmp cd off =>
    replace h : mm_if2 (mm_P2 cd) off len pc lv st = some f := h
    obtain ⟨rfl, tgt, x, y, r, ht, rfl, rfl⟩ := mm_if2_inv h
    have ht := mm_tgt_ok ht
    cases cd with
    | eq => exact lv_icmp_eq hx hb hd ht (fun q => by simpa [mm_P2, q] using kk _ hl) (fun q => by simpa [mm_P2, q] using kk _ hl)
    | ne => exact lv_icmp_ne hx hb hd ht (fun q => by simpa [mm_P2, q] using kk _ hl) (fun q => by simpa [mm_P2, q] using kk _ hl)
    | lt => exact lv_icmp_lt hx hb hd ht (fun q => by simpa [mm_P2, q] using kk _ hl) (fun q => by simpa [mm_P2, q] using kk _ hl)
    | ge => exact lv_icmp_ge hx hb hd ht (fun q => by simpa [mm_P2, q] using kk _ hl) (fun q => by simpa [mm_P2, q] using kk _ hl)
    | gt => exact lv_icmp_gt hx hb hd ht (fun q => by simpa [mm_P2, q] using kk _ hl) (fun q => by simpa [mm_P2, q] using kk _ hl)
    | le => exact lv_icmp_le hx hb hd ht (fun q => by simpa [mm_P2, q] using kk _ hl) (fun q => by simpa [mm_P2, q] using kk _ hl)
  | tableswitch dflt lo hi offs =>
    replace h : mm_sw dflt lo hi offs pc lv st = some f := h
    unfold mm_sw at h
    split at h
    · split at h
      · next e1 =>
        obtain ⟨t, h1, rfl⟩ := Option.map_eq_some_iff.mp h
        exact lv_tableOut hx hb hd e1 (mm_tgt_ok h1) (kk _ hl)
      · next e1 =>
        split at h
        · next off e2 =>
          obtain ⟨t, h1, rfl⟩ := Option.map_eq_some_iff.mp h
          exact lv_tableIn hx hb hd (fun q => e1 (Or.inl q)) (fun q => e1 (Or.inr q)) e2 (mm_tgt_ok h1) (kk _ hl)
        · cases h
    · cases h
  | lookupswitch dflt ps =>
    replace h : mm_lsw dflt ps pc lv st = some f := h
    unfold mm_lsw at h
    split at h
    · split at h
      · next e1 =>
        obtain ⟨t, h1, rfl⟩ := Option.map_eq_some_iff.mp h
        exact lv_lookup hx hb hd e1 rfl (mm_tgt_ok h1) (kk _ hl)
      · cases h
    · cases h
  | dup =>
    replace h : mm_dup len pc lv st = some f := h
    unfold mm_dup at h
    split at h
    · split at h
      · next e1 =>
        obtain ⟨rfl, e2⟩ := e1
        cases h
        exact lv_dup hx hb hd (by rw [mm_sh_cat]; exact e2) (kk _ hl)
      · cases h
    · cases h
  | pop =>
    replace h : mm_pop len pc lv st = some f := h
    unfold mm_pop at h
    split at h
    · split at h
      · next e1 =>
        obtain ⟨rfl, e2⟩ := e1
        cases h
        exact lv_pop hx hb hd (by rw [mm_sh_cat]; exact e2) (kk _ hl)
      · cases h
    · cases h
  | dup2 =>
    replace h : mm_dup2 len pc lv st = some f := h
    unfold mm_dup2 at h
    split at h
    · split at h
      · next e1 =>
        obtain ⟨rfl, e2, e3⟩ := e1
        cases h
        exact lv_dup2_11 hx hb hd (by rw [mm_sh_cat]; exact e2) (by rw [mm_sh_cat]; exact e3) (kk _ hl)
      · cases h
    · cases h
  | _ => cases h
end
section
/-! ===== what pools and methods say, checked against the tables' words ===== -/
def mm_gw : List Cond := lw_tbl.filter goodWord
def mm_wd (pl : Nat) (w : Cond) : Bool := decide ((mm_tab (pl / 1000))[pl % 1000]? = some w)
def mm_wg (pl : Nat) (w : Cond) : Bool := mm_wd pl w && goodWord w
theorem mm_tab_in {t : Nat} {w : Cond} (h : w ∈ mm_tab t) : w ∈ lw_tbl := by
  unfold mm_tab at h
  unfold lw_tbl tables_1
  simp only [List.mem_append]
  split at h <;> first | (simp [h]; done) | exact absurd h List.not_mem_nil
theorem mm_wd_in {pl : Nat} {w : Cond} (h : mm_wd pl w = true) : w ∈ lw_tbl := mm_tab_in (List.mem_of_getElem? (of_decide_eq_true h))
theorem mm_wg_in {pl : Nat} {w : Cond} (h : mm_wg pl w = true) : w ∈ mm_gw := by
  unfold mm_wg at h
  simp only [Bool.and_eq_true] at h
  exact List.mem_filter.mpr ⟨mm_wd_in h.1, h.2⟩
def mm_pchk (o : Nat) (e : mm_Pe) : Bool := match mm_cns[o]? with
  | none => false
  | some own => match e.2.1 with
    | 0 => match vwCl[e.2.2.1]? with
      | some r => decide (e.2.2.2.1 < r.2.2) && mm_wg e.2.2.2.2.2 (.fieldLink own e.1 (r.2.1 e.2.2.2.1).1 (r.2.1 e.2.2.2.1).2.1 (r.2.1 e.2.2.2.1).2.2.1)
      | none => false
    | 1 => match vwCl[e.2.2.1]? with
      | some r => decide (e.2.2.2.1 < r.2.2) && mm_wd e.2.2.2.2.2 (.fieldLinkNest own e.1 (r.2.1 e.2.2.2.1).1 (r.2.1 e.2.2.2.1).2.1 (r.2.1 e.2.2.2.1).2.2.1 "RaftTown")
      | none => false
    | 2 => match mm_mths[e.2.2.1]? with
      | some t => mm_wg e.2.2.2.2.2 (.methodLink own e.1 t.2.1)
      | none => false
    | 3 => match mm_mths[e.2.2.1]? with
      | some t => mm_wd e.2.2.2.2.2 (.methodLinkNest own e.1 t.2.1 "RaftTown")
      | none => false
    | 4 => match vwCl[e.2.2.1]? with
      | some r => mm_wg e.2.2.2.2.2 (.classLink own e.1 r.1) && mm_wg e.2.2.2.1 (.instantiable r.1 r.2.2) && mm_wg e.2.2.2.2.1.toNat (.initialized r.1)
      | none => false
    | 6 => mm_wg e.2.2.2.2.2 (.constant own e.1 (Int32.ofInt e.2.2.2.2.1))
    | 7 => mm_wg e.2.2.2.2.2 (.constantLong own e.1 (Int64.ofInt e.2.2.2.2.1))
    | 8 => mm_wg e.2.2.2.2.2 (.methodLink own e.1 Lib.objectInit)
    | 9 => mm_wg e.2.2.2.2.2 (.methodLink own e.1 arraycopyName)
    | 13 => mm_wg e.2.2.2.2.2 (.methodLink own e.1 Lib.Math.max.name)
    | 14 => mm_wg e.2.2.2.2.2 (.methodLink own e.1 Lib.Math.min.name)
    | 10 => match mm_sts[e.2.2.1]? with
      | some z => mm_wg e.2.2.2.2.2 (.fieldLink own e.1 z.1 z.2.1 z.2.2)
      | none => false
    | 11 => match mm_sts[e.2.2.1]? with
      | some z => mm_wd e.2.2.2.2.2 (.fieldLinkNest own e.1 z.1 z.2.1 z.2.2 "RaftTown")
      | none => false
    | _ => false
def mm_mchk (t : mm_Mt) : Bool := plainName t.2.1.cls && decide (mm_cns[t.1]? = some t.2.1.cls)
  && mm_wg (t.2.2.2.2.2.2.2.getD 3 0) (.initialized t.2.1.cls) && decide (t.2.1.cls ≠ "java/lang/invoke/MethodHandle") && decide (t.2.1.cls ≠ "java/lang/invoke/VarHandle") && decide ((parseMethodDescriptor t.2.1.desc).map (fun d => d.parameters.length) = some t.2.2.2.2.2.1) && decide (t.2.2.2.1 ≤ 45)
  && match t.2.2.2.2.2.2.1 with
    | 0 => mm_wg (t.2.2.2.2.2.2.2.getD 1 0) (.static t.2.1)
    | 1 => mm_wg (t.2.2.2.2.2.2.2.getD 1 0) (.instanceMethod t.2.1) && mm_wg (t.2.2.2.2.2.2.2.getD 2 0) (.selects t.2.1.cls t.2.1 t.2.1)
    | _ => mm_wg (t.2.2.2.2.2.2.2.getD 1 0) (.instanceMethod t.2.1) && decide (t.2.1.name = "<init>")
end
section
/-! ===== printed by wip/gen_names.py: pools, methods, their words ===== -/
set_option maxRecDepth 100000 in
theorem mm_pool_0 : (mm_pool 0).all (mm_pchk 0) = true := by decide +kernel
set_option maxRecDepth 100000 in
theorem mm_pool_1 : (mm_pool 1).all (mm_pchk 1) = true := by decide +kernel
set_option maxRecDepth 100000 in
theorem mm_pool_2 : (mm_pool 2).all (mm_pchk 2) = true := by decide +kernel
set_option maxRecDepth 100000 in
theorem mm_pool_3 : (mm_pool 3).all (mm_pchk 3) = true := by decide +kernel
set_option maxRecDepth 100000 in
theorem mm_pool_4 : (mm_pool 4).all (mm_pchk 4) = true := by decide +kernel
set_option maxRecDepth 100000 in
theorem mm_pool_5 : (mm_pool 5).all (mm_pchk 5) = true := by decide +kernel
set_option maxRecDepth 100000 in
theorem mm_pool_6 : (mm_pool 6).all (mm_pchk 6) = true := by decide +kernel
set_option maxRecDepth 100000 in
theorem mm_pool_7 : (mm_pool 7).all (mm_pchk 7) = true := by decide +kernel
set_option maxRecDepth 100000 in
theorem mm_pool_8 : (mm_pool 8).all (mm_pchk 8) = true := by decide +kernel
set_option maxRecDepth 100000 in
theorem mm_pool_9 : (mm_pool 9).all (mm_pchk 9) = true := by decide +kernel
set_option maxRecDepth 100000 in
theorem mm_pool_10 : (mm_pool 10).all (mm_pchk 10) = true := by decide +kernel
set_option maxRecDepth 100000 in
theorem mm_pool_11 : (mm_pool 11).all (mm_pchk 11) = true := by decide +kernel
set_option maxRecDepth 100000 in
theorem mm_pool_12 : (mm_pool 12).all (mm_pchk 12) = true := by decide +kernel
set_option maxRecDepth 100000 in
theorem mm_pool_13 : (mm_pool 13).all (mm_pchk 13) = true := by decide +kernel
set_option maxRecDepth 100000 in
theorem mm_pool_14 : (mm_pool 14).all (mm_pchk 14) = true := by decide +kernel
set_option maxRecDepth 100000 in
theorem mm_pool_15 : (mm_pool 15).all (mm_pchk 15) = true := by decide +kernel
set_option maxRecDepth 100000 in
theorem mm_pool_16 : (mm_pool 16).all (mm_pchk 16) = true := by decide +kernel
set_option maxRecDepth 100000 in
theorem mm_pool_17 : (mm_pool 17).all (mm_pchk 17) = true := by decide +kernel
set_option maxRecDepth 100000 in
theorem mm_pool_18 : (mm_pool 18).all (mm_pchk 18) = true := by decide +kernel
set_option maxRecDepth 100000 in
theorem mm_pool_19 : (mm_pool 19).all (mm_pchk 19) = true := by decide +kernel
theorem mm_pool_ok : ∀ o e, e ∈ mm_pool o → mm_pchk o e = true := by
  intro o e h
  match o, h with
  | 0, h => exact List.all_eq_true.mp mm_pool_0 e h
  | 1, h => exact List.all_eq_true.mp mm_pool_1 e h
  | 2, h => exact List.all_eq_true.mp mm_pool_2 e h
  | 3, h => exact List.all_eq_true.mp mm_pool_3 e h
  | 4, h => exact List.all_eq_true.mp mm_pool_4 e h
  | 5, h => exact List.all_eq_true.mp mm_pool_5 e h
  | 6, h => exact List.all_eq_true.mp mm_pool_6 e h
  | 7, h => exact List.all_eq_true.mp mm_pool_7 e h
  | 8, h => exact List.all_eq_true.mp mm_pool_8 e h
  | 9, h => exact List.all_eq_true.mp mm_pool_9 e h
  | 10, h => exact List.all_eq_true.mp mm_pool_10 e h
  | 11, h => exact List.all_eq_true.mp mm_pool_11 e h
  | 12, h => exact List.all_eq_true.mp mm_pool_12 e h
  | 13, h => exact List.all_eq_true.mp mm_pool_13 e h
  | 14, h => exact List.all_eq_true.mp mm_pool_14 e h
  | 15, h => exact List.all_eq_true.mp mm_pool_15 e h
  | 16, h => exact List.all_eq_true.mp mm_pool_16 e h
  | 17, h => exact List.all_eq_true.mp mm_pool_17 e h
  | 18, h => exact List.all_eq_true.mp mm_pool_18 e h
  | 19, h => exact List.all_eq_true.mp mm_pool_19 e h
  | o + 20, h => exact absurd h List.not_mem_nil
/-- the word of a method's code is there -/
def mm_cwd (t : mm_Mt) : Prop := (mm_tab (t.2.2.2.2.2.2.2.getD 0 0 / 1000))[t.2.2.2.2.2.2.2.getD 0 0 % 1000]? = some (.code t.2.1 t.2.2.1 t.2.2.2.1 t.2.2.2.2.1)
set_option maxRecDepth 100000 in
theorem mm_mths_0_ok : mm_mths_0.all mm_mchk = true := by decide +kernel
theorem mm_cw_0 : mm_cwd (11, ⟨"RaftTown", "<init>", "()V"⟩, prog_1_method_1_code, 2, (none), 0, 2, [1026, 1025, 0, 1001]) := rfl
theorem mm_cw_1 : mm_cwd (10, ⟨"RaftTown$Town", "<init>", "()V"⟩, prog_12_method_1_code, 2, (none), 0, 2, [1034, 1033, 0, 1002]) := rfl
theorem mm_cw_2 : mm_cwd (6, ⟨"RaftTown$Sea", "<init>", "()V"⟩, prog_8_method_1_code, 1, (none), 0, 2, [1040, 1039, 0, 1003]) := rfl
theorem mm_cw_3 : mm_cwd (1, ⟨"RaftTown$Log", "<init>", "()V"⟩, prog_3_method_1_code, 1, (none), 0, 2, [1064, 1063, 0, 1004]) := rfl
theorem mm_cw_4 : mm_cwd (4, ⟨"RaftTown$Raft", "<init>", "()V"⟩, prog_6_method_1_code, 1, (none), 0, 2, [1101, 1100, 0, 1005]) := rfl
theorem mm_cw_5 : mm_cwd (3, ⟨"RaftTown$Person", "<init>", "()V"⟩, prog_5_method_1_code, 1, (none), 0, 2, [1142, 1141, 0, 1006]) := rfl
theorem mm_cw_6 : mm_cwd (5, ⟨"RaftTown$Rope", "<init>", "()V"⟩, prog_7_method_1_code, 1, (none), 0, 2, [1183, 1182, 0, 1007]) := rfl
theorem mm_cw_7 : mm_cwd (9, ⟨"RaftTown$Text", "<init>", "()V"⟩, prog_11_method_1_code, 1, (none), 0, 2, [1229, 1228, 0, 1008]) := rfl
theorem mm_cw_8 : mm_cwd (7, ⟨"RaftTown$Sheet", "<init>", "()V"⟩, prog_9_method_1_code, 1, (none), 0, 2, [2056, 2055, 0, 1009]) := rfl
theorem mm_cw_9 : mm_cwd (8, ⟨"RaftTown$Tape", "<init>", "()V"⟩, prog_10_method_1_code, 1, (none), 0, 2, [2075, 2074, 0, 1010]) := rfl
theorem mm_cw_10 : mm_cwd (2, ⟨"RaftTown$Net", "<init>", "()V"⟩, prog_4_method_1_code, 1, (none), 0, 2, [2106, 2105, 0, 1011]) := rfl
theorem mm_cw_11 : mm_cwd (0, ⟨"RaftTown$Judge", "<init>", "()V"⟩, prog_2_method_1_code, 1, (none), 0, 2, [2134, 2133, 0, 1012]) := rfl
theorem mm_cw_12 : mm_cwd (11, ⟨"RaftTown", "stream", "(III)I"⟩, prog_1_method_2_code, 4, (some .int), 3, 1, [2174, 2172, 2173, 1001]) := rfl
theorem mm_cw_13 : mm_cwd (11, ⟨"RaftTown", "isCell", "(I)Z"⟩, prog_1_method_49_code, 1, (some .boolean), 1, 0, [2177, 2176, 0, 1001]) := rfl
theorem mm_cw_14 : mm_cwd (11, ⟨"RaftTown", "within", "(III)Z"⟩, prog_1_method_48_code, 3, (some .boolean), 3, 0, [2180, 2179, 0, 1001]) := rfl
theorem mm_cw_15 : mm_cwd (11, ⟨"RaftTown", "noted", "(I)I"⟩, prog_1_method_42_code, 2, (some .int), 1, 1, [2185, 2184, 0, 1001]) := rfl
theorem mm_cw_16 : mm_cwd (6, ⟨"RaftTown$Sea", "lead", "(III)V"⟩, prog_8_method_3_code, 4, (none), 3, 1, [2190, 2188, 2189, 1003]) := rfl
theorem mm_cw_17 : mm_cwd (11, ⟨"RaftTown", "raft", "(IIII)I"⟩, prog_1_method_3_code, 5, (some .int), 4, 1, [2195, 2193, 2194, 1001]) := rfl
theorem mm_cw_18 : mm_cwd (11, ⟨"RaftTown", "isKind", "(I)Z"⟩, prog_1_method_50_code, 1, (some .boolean), 1, 0, [2198, 2197, 0, 1001]) := rfl
theorem mm_cw_19 : mm_cwd (10, ⟨"RaftTown$Town", "addRaft", "(IIII)I"⟩, prog_12_method_11_code, 6, (some .int), 4, 1, [2203, 2201, 2202, 1002]) := rfl
theorem mm_cw_20 : mm_cwd (10, ⟨"RaftTown$Town", "raftAt", "(I)LRaftTown$Raft;"⟩, prog_12_method_6_code, 2, (some (.object "RaftTown$Raft")), 1, 1, [2207, 2205, 2206, 1002]) := rfl
theorem mm_cw_21 : mm_cwd (4, ⟨"RaftTown$Raft", "launch", "(IIII)V"⟩, prog_6_method_3_code, 5, (none), 4, 1, [2212, 2210, 2211, 1005]) := rfl
theorem mm_cw_22 : mm_cwd (11, ⟨"RaftTown", "as", "(II)I"⟩, prog_1_method_4_code, 3, (some .int), 2, 1, [2216, 2214, 2215, 1001]) := rfl
theorem mm_cw_23 : mm_cwd (10, ⟨"RaftTown$Town", "hasRaft", "(I)Z"⟩, prog_12_method_3_code, 2, (some .boolean), 1, 1, [2220, 2218, 2219, 1002]) := rfl
theorem mm_cw_24 : mm_cwd (4, ⟨"RaftTown$Raft", "isOf", "(I)Z"⟩, prog_6_method_4_code, 4, (some .boolean), 1, 1, [2225, 2223, 2224, 1005]) := rfl
theorem mm_cw_25 : mm_cwd (11, ⟨"RaftTown", "raftIs", "(II)I"⟩, prog_1_method_5_code, 4, (some .int), 2, 1, [2233, 2231, 2232, 1001]) := rfl
theorem mm_cw_26 : mm_cwd (11, ⟨"RaftTown", "surveyed", "()LRaftTown$Net;"⟩, prog_1_method_43_code, 1, (some (.object "RaftTown$Net")), 0, 1, [2237, 2236, 1, 1001]) := rfl
theorem mm_cw_27 : mm_cwd (2, ⟨"RaftTown$Net", "survey", "(LRaftTown$Town;)V"⟩, prog_4_method_2_code, 4, (none), 1, 1, [3001, 2239, 3000, 1011]) := rfl
theorem mm_cw_28 : mm_cwd (4, ⟨"RaftTown$Raft", "ownWeight", "()I"⟩, prog_6_method_6_code, 1, (some .int), 0, 1, [3006, 3004, 3005, 1005]) := rfl
theorem mm_cw_29 : mm_cwd (4, ⟨"RaftTown$Raft", "area", "()I"⟩, prog_6_method_5_code, 1, (some .int), 0, 1, [3010, 3008, 3009, 1005]) := rfl
theorem mm_cw_30 : mm_cwd (10, ⟨"RaftTown$Town", "personAt", "(I)LRaftTown$Person;"⟩, prog_12_method_7_code, 2, (some (.object "RaftTown$Person")), 1, 1, [3017, 3015, 3016, 1002]) := rfl
theorem mm_cw_31 : mm_cwd (10, ⟨"RaftTown$Town", "ropeAt", "(I)LRaftTown$Rope;"⟩, prog_12_method_8_code, 2, (some (.object "RaftTown$Rope")), 1, 1, [3022, 3020, 3021, 1002]) := rfl
theorem mm_cw_32 : mm_cwd (5, ⟨"RaftTown$Rope", "strength", "()I"⟩, prog_7_method_4_code, 1, (some .int), 0, 1, [3026, 3024, 3025, 1007]) := rfl
theorem mm_cw_33 : mm_cwd (2, ⟨"RaftTown$Net", "weightAt", "(I)I"⟩, prog_4_method_3_code, 2, (some .int), 1, 1, [3033, 3031, 3032, 1011]) := rfl
theorem mm_cw_34 : mm_cwd (2, ⟨"RaftTown$Net", "partOf", "(I)I"⟩, prog_4_method_6_code, 2, (some .int), 1, 1, [3042, 3040, 3041, 1011]) := rfl
theorem mm_cw_35 : mm_cwd (2, ⟨"RaftTown$Net", "reach", "(II)I"⟩, prog_4_method_5_code, 7, (some .int), 2, 1, [3046, 3045, 2, 1011]) := rfl
theorem mm_cw_36 : mm_cwd (11, ⟨"RaftTown", "leastOf", "(I)I"⟩, prog_1_method_57_code, 1, (some .int), 1, 0, [3049, 3048, 0, 1001]) := rfl
theorem mm_cw_37 : mm_cwd (14, ⟨"java/lang/Integer", "numberOfTrailingZeros", "(I)I"⟩, prog_15_method_48_code, 2, (some .int), 1, 0, [3052, 3051, 0, 1015]) := rfl
theorem mm_cw_38 : mm_cwd (11, ⟨"RaftTown", "load", "(IIZ)I"⟩, prog_1_method_6_code, 5, (some .int), 3, 1, [3057, 3055, 3056, 1001]) := rfl
theorem mm_cw_39 : mm_cwd (4, ⟨"RaftTown$Raft", "room", "()I"⟩, prog_6_method_7_code, 1, (some .int), 0, 1, [3062, 3060, 3061, 1005]) := rfl
theorem mm_cws_0 : ∀ t ∈ mm_mths_0, mm_cwd t := List.forall_mem_cons.mpr ⟨mm_cw_0, List.forall_mem_cons.mpr ⟨mm_cw_1, List.forall_mem_cons.mpr ⟨mm_cw_2, List.forall_mem_cons.mpr ⟨mm_cw_3, List.forall_mem_cons.mpr ⟨mm_cw_4, List.forall_mem_cons.mpr ⟨mm_cw_5, List.forall_mem_cons.mpr ⟨mm_cw_6, List.forall_mem_cons.mpr ⟨mm_cw_7, List.forall_mem_cons.mpr ⟨mm_cw_8, List.forall_mem_cons.mpr ⟨mm_cw_9, List.forall_mem_cons.mpr ⟨mm_cw_10, List.forall_mem_cons.mpr ⟨mm_cw_11, List.forall_mem_cons.mpr ⟨mm_cw_12, List.forall_mem_cons.mpr ⟨mm_cw_13, List.forall_mem_cons.mpr ⟨mm_cw_14, List.forall_mem_cons.mpr ⟨mm_cw_15, List.forall_mem_cons.mpr ⟨mm_cw_16, List.forall_mem_cons.mpr ⟨mm_cw_17, List.forall_mem_cons.mpr ⟨mm_cw_18, List.forall_mem_cons.mpr ⟨mm_cw_19, List.forall_mem_cons.mpr ⟨mm_cw_20, List.forall_mem_cons.mpr ⟨mm_cw_21, List.forall_mem_cons.mpr ⟨mm_cw_22, List.forall_mem_cons.mpr ⟨mm_cw_23, List.forall_mem_cons.mpr ⟨mm_cw_24, List.forall_mem_cons.mpr ⟨mm_cw_25, List.forall_mem_cons.mpr ⟨mm_cw_26, List.forall_mem_cons.mpr ⟨mm_cw_27, List.forall_mem_cons.mpr ⟨mm_cw_28, List.forall_mem_cons.mpr ⟨mm_cw_29, List.forall_mem_cons.mpr ⟨mm_cw_30, List.forall_mem_cons.mpr ⟨mm_cw_31, List.forall_mem_cons.mpr ⟨mm_cw_32, List.forall_mem_cons.mpr ⟨mm_cw_33, List.forall_mem_cons.mpr ⟨mm_cw_34, List.forall_mem_cons.mpr ⟨mm_cw_35, List.forall_mem_cons.mpr ⟨mm_cw_36, List.forall_mem_cons.mpr ⟨mm_cw_37, List.forall_mem_cons.mpr ⟨mm_cw_38, List.forall_mem_cons.mpr ⟨mm_cw_39, fun _ h => absurd h List.not_mem_nil⟩⟩⟩⟩⟩⟩⟩⟩⟩⟩⟩⟩⟩⟩⟩⟩⟩⟩⟩⟩⟩⟩⟩⟩⟩⟩⟩⟩⟩⟩⟩⟩⟩⟩⟩⟩⟩⟩⟩⟩
set_option maxRecDepth 100000 in
theorem mm_mths_1_ok : mm_mths_1.all mm_mchk = true := by decide +kernel
theorem mm_cw_40 : mm_cwd (4, ⟨"RaftTown$Raft", "stow", "(IZ)I"⟩, prog_6_method_9_code, 3, (some .int), 2, 1, [3066, 3064, 3065, 1005]) := rfl
theorem mm_cw_41 : mm_cwd (4, ⟨"RaftTown$Raft", "casks", "(Z)I"⟩, prog_6_method_8_code, 2, (some .int), 1, 1, [3070, 3068, 3069, 1005]) := rfl
theorem mm_cw_42 : mm_cwd (11, ⟨"RaftTown", "trade", "(IIIZ)I"⟩, prog_1_method_7_code, 7, (some .int), 4, 1, [3074, 3072, 3073, 1001]) := rfl
theorem mm_cw_43 : mm_cwd (2, ⟨"RaftTown$Net", "inOnePart", "(II)Z"⟩, prog_4_method_7_code, 3, (some .boolean), 2, 1, [3079, 3077, 3078, 1011]) := rfl
theorem mm_cw_44 : mm_cwd (11, ⟨"RaftTown", "has", "(II)Z"⟩, prog_1_method_56_code, 2, (some .boolean), 2, 0, [3083, 3082, 0, 1001]) := rfl
theorem mm_cw_45 : mm_cwd (11, ⟨"RaftTown", "person", "(IIII)I"⟩, prog_1_method_8_code, 5, (some .int), 4, 1, [3090, 3088, 3089, 1001]) := rfl
theorem mm_cw_46 : mm_cwd (11, ⟨"RaftTown", "areParents", "(II)Z"⟩, prog_1_method_47_code, 3, (some .boolean), 2, 1, [3094, 3093, 3, 1001]) := rfl
theorem mm_cw_47 : mm_cwd (10, ⟨"RaftTown$Town", "addPerson", "(IIII)I"⟩, prog_12_method_12_code, 6, (some .int), 4, 1, [3098, 3096, 3097, 1002]) := rfl
theorem mm_cw_48 : mm_cwd (3, ⟨"RaftTown$Person", "arrive", "(IIII)V"⟩, prog_5_method_3_code, 5, (none), 4, 1, [3103, 3101, 3102, 1006]) := rfl
theorem mm_cw_49 : mm_cwd (11, ⟨"RaftTown", "wed", "(II)I"⟩, prog_1_method_9_code, 5, (some .int), 2, 1, [3107, 3105, 3106, 1001]) := rfl
theorem mm_cw_50 : mm_cwd (10, ⟨"RaftTown$Town", "hasPerson", "(I)Z"⟩, prog_12_method_4_code, 2, (some .boolean), 1, 1, [3111, 3109, 3110, 1002]) := rfl
theorem mm_cw_51 : mm_cwd (11, ⟨"RaftTown", "move", "(II)I"⟩, prog_1_method_10_code, 5, (some .int), 2, 1, [3117, 3115, 3116, 1001]) := rfl
theorem mm_cw_52 : mm_cwd (11, ⟨"RaftTown", "personIs", "(II)I"⟩, prog_1_method_11_code, 4, (some .int), 2, 1, [3121, 3119, 3120, 1001]) := rfl
theorem mm_cw_53 : mm_cwd (10, ⟨"RaftTown$Town", "kinOf", "(I)I"⟩, prog_12_method_16_code, 4, (some .int), 1, 1, [3125, 3123, 3124, 1002]) := rfl
theorem mm_cw_54 : mm_cwd (10, ⟨"RaftTown$Town", "areKin", "(II)Z"⟩, prog_12_method_15_code, 5, (some .boolean), 2, 1, [3129, 3128, 4, 1002]) := rfl
theorem mm_cw_55 : mm_cwd (3, ⟨"RaftTown$Person", "hasParent", "(I)Z"⟩, prog_5_method_4_code, 2, (some .boolean), 1, 1, [3133, 3131, 3132, 1006]) := rfl
theorem mm_cw_56 : mm_cwd (11, ⟨"RaftTown", "tie", "(IIIII)I"⟩, prog_1_method_12_code, 10, (some .int), 5, 1, [3137, 3135, 3136, 1001]) := rfl
theorem mm_cw_57 : mm_cwd (11, ⟨"RaftTown", "isSide", "(I)Z"⟩, prog_1_method_51_code, 1, (some .boolean), 1, 0, [3140, 3139, 0, 1001]) := rfl
theorem mm_cw_58 : mm_cwd (10, ⟨"RaftTown$Town", "hasRoomAt", "(II)Z"⟩, prog_12_method_13_code, 5, (some .boolean), 2, 1, [3144, 3142, 3143, 1002]) := rfl
theorem mm_cw_59 : mm_cwd (5, ⟨"RaftTown$Rope", "isAtSide", "(II)Z"⟩, prog_7_method_6_code, 3, (some .boolean), 2, 1, [3148, 3146, 3147, 1007]) := rfl
theorem mm_cw_60 : mm_cwd (10, ⟨"RaftTown$Town", "freeRope", "()I"⟩, prog_12_method_14_code, 2, (some .int), 0, 1, [3152, 3150, 3151, 1002]) := rfl
theorem mm_cw_61 : mm_cwd (5, ⟨"RaftTown$Rope", "lay", "(IIIII)V"⟩, prog_7_method_3_code, 6, (none), 5, 1, [3158, 3156, 3157, 1007]) := rfl
theorem mm_cw_62 : mm_cwd (1, ⟨"RaftTown$Log", "add", "(IIII)V"⟩, prog_3_method_5_code, 6, (none), 4, 1, [3162, 3160, 3161, 1004]) := rfl
theorem mm_cw_63 : mm_cwd (1, ⟨"RaftTown$Log", "placeOf", "(I)I"⟩, prog_3_method_3_code, 3, (some .int), 1, 1, [3166, 3165, 5, 1004]) := rfl
theorem mm_cw_64 : mm_cwd (1, ⟨"RaftTown$Log", "tellOn", "(I)V"⟩, prog_3_method_7_code, 3, (none), 1, 1, [3170, 3168, 3169, 1004]) := rfl
theorem mm_cw_65 : mm_cwd (11, ⟨"RaftTown", "cut", "(I)I"⟩, prog_1_method_13_code, 4, (some .int), 1, 1, [3174, 3172, 3173, 1001]) := rfl
theorem mm_cw_66 : mm_cwd (10, ⟨"RaftTown$Town", "hasRope", "(I)Z"⟩, prog_12_method_5_code, 2, (some .boolean), 1, 1, [3178, 3176, 3177, 1002]) := rfl
theorem mm_cw_67 : mm_cwd (1, ⟨"RaftTown$Log", "lawOf", "(I)I"⟩, prog_3_method_9_code, 4, (some .int), 1, 1, [3182, 3180, 3181, 1004]) := rfl
theorem mm_cw_68 : mm_cwd (11, ⟨"RaftTown", "ropeRuling", "(III)I"⟩, prog_1_method_45_code, 4, (some .int), 3, 1, [3186, 3185, 6, 1001]) := rfl
theorem mm_cw_69 : mm_cwd (0, ⟨"RaftTown$Judge", "nameRope", "(LRaftTown$Town;LRaftTown$Net;II)V"⟩, prog_2_method_3_code, 6, (none), 4, 1, [3190, 3188, 3189, 1012]) := rfl
theorem mm_cw_70 : mm_cwd (0, ⟨"RaftTown$Judge", "nameNothing", "()V"⟩, prog_2_method_2_code, 2, (none), 0, 1, [3195, 3194, 7, 1012]) := rfl
theorem mm_cw_71 : mm_cwd (2, ⟨"RaftTown$Net", "loadOf", "(III)I"⟩, prog_4_method_11_code, 4, (some .int), 3, 1, [3199, 3197, 3198, 1011]) := rfl
theorem mm_cw_72 : mm_cwd (2, ⟨"RaftTown$Net", "hang", "(II)I"⟩, prog_4_method_10_code, 7, (some .int), 2, 1, [3203, 3201, 3202, 1011]) := rfl
theorem mm_cw_73 : mm_cwd (2, ⟨"RaftTown$Net", "weigh", "(I)I"⟩, prog_4_method_9_code, 4, (some .int), 1, 1, [3207, 3206, 8, 1011]) := rfl
theorem mm_cw_74 : mm_cwd (10, ⟨"RaftTown$Town", "kinBetween", "(II)I"⟩, prog_12_method_19_code, 6, (some .int), 2, 1, [3212, 3210, 3211, 1002]) := rfl
theorem mm_cw_75 : mm_cwd (10, ⟨"RaftTown$Town", "personsOf", "(I)I"⟩, prog_12_method_17_code, 4, (some .int), 1, 1, [3216, 3214, 3215, 1002]) := rfl
theorem mm_cw_76 : mm_cwd (3, ⟨"RaftTown$Person", "isAmong", "(I)Z"⟩, prog_5_method_6_code, 2, (some .boolean), 1, 1, [3220, 3218, 3219, 1006]) := rfl
theorem mm_cw_77 : mm_cwd (3, ⟨"RaftTown$Person", "isOn", "(I)Z"⟩, prog_5_method_5_code, 2, (some .boolean), 1, 1, [3224, 3222, 3223, 1006]) := rfl
theorem mm_cw_78 : mm_cwd (14, ⟨"java/lang/Integer", "bitCount", "(I)I"⟩, prog_15_method_49_code, 1, (some .int), 1, 0, [3228, 3227, 0, 1015]) := rfl
theorem mm_cw_79 : mm_cwd (0, ⟨"RaftTown$Judge", "namePart", "(LRaftTown$Town;I)V"⟩, prog_2_method_6_code, 3, (none), 2, 1, [3236, 3235, 9, 1012]) := rfl
theorem mm_cws_1 : ∀ t ∈ mm_mths_1, mm_cwd t := List.forall_mem_cons.mpr ⟨mm_cw_40, List.forall_mem_cons.mpr ⟨mm_cw_41, List.forall_mem_cons.mpr ⟨mm_cw_42, List.forall_mem_cons.mpr ⟨mm_cw_43, List.forall_mem_cons.mpr ⟨mm_cw_44, List.forall_mem_cons.mpr ⟨mm_cw_45, List.forall_mem_cons.mpr ⟨mm_cw_46, List.forall_mem_cons.mpr ⟨mm_cw_47, List.forall_mem_cons.mpr ⟨mm_cw_48, List.forall_mem_cons.mpr ⟨mm_cw_49, List.forall_mem_cons.mpr ⟨mm_cw_50, List.forall_mem_cons.mpr ⟨mm_cw_51, List.forall_mem_cons.mpr ⟨mm_cw_52, List.forall_mem_cons.mpr ⟨mm_cw_53, List.forall_mem_cons.mpr ⟨mm_cw_54, List.forall_mem_cons.mpr ⟨mm_cw_55, List.forall_mem_cons.mpr ⟨mm_cw_56, List.forall_mem_cons.mpr ⟨mm_cw_57, List.forall_mem_cons.mpr ⟨mm_cw_58, List.forall_mem_cons.mpr ⟨mm_cw_59, List.forall_mem_cons.mpr ⟨mm_cw_60, List.forall_mem_cons.mpr ⟨mm_cw_61, List.forall_mem_cons.mpr ⟨mm_cw_62, List.forall_mem_cons.mpr ⟨mm_cw_63, List.forall_mem_cons.mpr ⟨mm_cw_64, List.forall_mem_cons.mpr ⟨mm_cw_65, List.forall_mem_cons.mpr ⟨mm_cw_66, List.forall_mem_cons.mpr ⟨mm_cw_67, List.forall_mem_cons.mpr ⟨mm_cw_68, List.forall_mem_cons.mpr ⟨mm_cw_69, List.forall_mem_cons.mpr ⟨mm_cw_70, List.forall_mem_cons.mpr ⟨mm_cw_71, List.forall_mem_cons.mpr ⟨mm_cw_72, List.forall_mem_cons.mpr ⟨mm_cw_73, List.forall_mem_cons.mpr ⟨mm_cw_74, List.forall_mem_cons.mpr ⟨mm_cw_75, List.forall_mem_cons.mpr ⟨mm_cw_76, List.forall_mem_cons.mpr ⟨mm_cw_77, List.forall_mem_cons.mpr ⟨mm_cw_78, List.forall_mem_cons.mpr ⟨mm_cw_79, fun _ h => absurd h List.not_mem_nil⟩⟩⟩⟩⟩⟩⟩⟩⟩⟩⟩⟩⟩⟩⟩⟩⟩⟩⟩⟩⟩⟩⟩⟩⟩⟩⟩⟩⟩⟩⟩⟩⟩⟩⟩⟩⟩⟩⟩⟩
set_option maxRecDepth 100000 in
theorem mm_mths_2_ok : mm_mths_2.all mm_mchk = true := by decide +kernel
theorem mm_cw_80 : mm_cwd (10, ⟨"RaftTown$Town", "headsOf", "(I)I"⟩, prog_12_method_18_code, 2, (some .int), 1, 1, [4000, 3238, 3239, 1002]) := rfl
theorem mm_cw_81 : mm_cwd (10, ⟨"RaftTown$Town", "waterOf", "(I)I"⟩, prog_12_method_20_code, 4, (some .int), 1, 1, [4004, 4002, 4003, 1002]) := rfl
theorem mm_cw_82 : mm_cwd (10, ⟨"RaftTown$Town", "textOfLaw", "(I)LRaftTown$Text;"⟩, prog_12_method_10_code, 2, (some (.object "RaftTown$Text")), 1, 1, [4009, 4007, 4008, 1002]) := rfl
theorem mm_cw_83 : mm_cwd (1, ⟨"RaftTown$Log", "textOf", "(I)I"⟩, prog_3_method_10_code, 2, (some .int), 1, 1, [4013, 4011, 4012, 1004]) := rfl
theorem mm_cw_84 : mm_cwd (10, ⟨"RaftTown$Town", "textAt", "(I)LRaftTown$Text;"⟩, prog_12_method_9_code, 2, (some (.object "RaftTown$Text")), 1, 1, [4018, 4016, 4017, 1002]) := rfl
theorem mm_cw_85 : mm_cwd (11, ⟨"RaftTown", "isText", "(I)Z"⟩, prog_1_method_52_code, 1, (some .boolean), 1, 0, [4021, 4020, 0, 1001]) := rfl
theorem mm_cw_86 : mm_cwd (0, ⟨"RaftTown$Judge", "comesTo", "(LRaftTown$Text;I)I"⟩, prog_2_method_7_code, 8, (some .int), 2, 1, [4025, 4023, 4024, 1012]) := rfl
theorem mm_cw_87 : mm_cwd (9, ⟨"RaftTown$Text", "endOf", "(I)I"⟩, prog_11_method_8_code, 2, (some .int), 1, 1, [4029, 4027, 4028, 1008]) := rfl
theorem mm_cw_88 : mm_cwd (9, ⟨"RaftTown$Text", "startOf", "(I)I"⟩, prog_11_method_7_code, 2, (some .int), 1, 1, [4035, 4033, 4034, 1008]) := rfl
theorem mm_cw_89 : mm_cwd (0, ⟨"RaftTown$Judge", "push", "(I)V"⟩, prog_2_method_8_code, 2, (none), 1, 1, [4039, 4038, 10, 1012]) := rfl
theorem mm_cw_90 : mm_cwd (0, ⟨"RaftTown$Judge", "pop", "()I"⟩, prog_2_method_9_code, 1, (some .int), 0, 1, [4043, 4042, 11, 1012]) := rfl
theorem mm_cw_91 : mm_cwd (0, ⟨"RaftTown$Judge", "joined", "(III)I"⟩, prog_2_method_10_code, 3, (some .int), 3, 0, [4046, 4045, 0, 1012]) := rfl
theorem mm_cw_92 : mm_cwd (2, ⟨"RaftTown$Net", "countParts", "()I"⟩, prog_4_method_8_code, 4, (some .int), 0, 1, [4051, 4049, 4050, 1011]) := rfl
theorem mm_cw_93 : mm_cwd (11, ⟨"RaftTown", "rope", "(II)I"⟩, prog_1_method_14_code, 4, (some .int), 2, 1, [4055, 4053, 4054, 1001]) := rfl
theorem mm_cw_94 : mm_cwd (11, ⟨"RaftTown", "bears", "(II)I"⟩, prog_1_method_15_code, 3, (some .int), 2, 1, [4061, 4059, 4060, 1001]) := rfl
theorem mm_cw_95 : mm_cwd (11, ⟨"RaftTown", "areWaves", "(I)Z"⟩, prog_1_method_54_code, 1, (some .boolean), 1, 0, [4064, 4063, 0, 1001]) := rfl
theorem mm_cw_96 : mm_cwd (11, ⟨"RaftTown", "parts", "()I"⟩, prog_1_method_16_code, 1, (some .int), 0, 1, [4069, 4067, 4068, 1001]) := rfl
theorem mm_cw_97 : mm_cwd (11, ⟨"RaftTown", "part", "(I)I"⟩, prog_1_method_17_code, 2, (some .int), 1, 1, [4073, 4071, 4072, 1001]) := rfl
theorem mm_cw_98 : mm_cwd (11, ⟨"RaftTown", "worst", "(II)I"⟩, prog_1_method_18_code, 4, (some .int), 2, 1, [4077, 4075, 4076, 1001]) := rfl
theorem mm_cw_99 : mm_cwd (2, ⟨"RaftTown$Net", "countParting", "(III)I"⟩, prog_4_method_13_code, 8, (some .int), 3, 1, [4081, 4079, 4080, 1011]) := rfl
theorem mm_cw_100 : mm_cwd (2, ⟨"RaftTown$Net", "worstOf", "(II)I"⟩, prog_4_method_12_code, 7, (some .int), 2, 1, [4085, 4083, 4084, 1011]) := rfl
theorem mm_cw_101 : mm_cwd (2, ⟨"RaftTown$Net", "partingAt", "(II)I"⟩, prog_4_method_14_code, 6, (some .int), 2, 1, [4090, 4088, 4089, 1011]) := rfl
theorem mm_cw_102 : mm_cwd (11, ⟨"RaftTown", "day", "(II)I"⟩, prog_1_method_19_code, 3, (some .int), 2, 1, [4094, 4092, 4093, 1001]) := rfl
theorem mm_cw_103 : mm_cwd (11, ⟨"RaftTown", "isRain", "(I)Z"⟩, prog_1_method_55_code, 1, (some .boolean), 1, 0, [4097, 4096, 0, 1001]) := rfl
theorem mm_cw_104 : mm_cwd (10, ⟨"RaftTown$Town", "passDay", "(IILRaftTown$Net;)I"⟩, prog_12_method_26_code, 5, (some .int), 3, 1, [4101, 4099, 4100, 1002]) := rfl
theorem mm_cw_105 : mm_cwd (10, ⟨"RaftTown$Town", "partUnder", "(ILRaftTown$Net;)I"⟩, prog_12_method_27_code, 6, (some .int), 2, 1, [4106, 4105, 12, 1002]) := rfl
theorem mm_cw_106 : mm_cwd (2, ⟨"RaftTown$Net", "drop", "(I)V"⟩, prog_4_method_4_code, 2, (none), 1, 1, [4114, 4112, 4113, 1011]) := rfl
theorem mm_cw_107 : mm_cwd (10, ⟨"RaftTown$Town", "catchRain", "(I)V"⟩, prog_12_method_28_code, 4, (none), 1, 1, [4118, 4117, 13, 1002]) := rfl
theorem mm_cw_108 : mm_cwd (10, ⟨"RaftTown$Town", "waterGardens", "()V"⟩, prog_12_method_29_code, 3, (none), 0, 1, [4126, 4125, 14, 1002]) := rfl
theorem mm_cw_109 : mm_cwd (10, ⟨"RaftTown$Town", "drinkAll", "(LRaftTown$Net;)V"⟩, prog_12_method_30_code, 4, (none), 1, 1, [4130, 4129, 15, 1002]) := rfl
theorem mm_cw_110 : mm_cwd (10, ⟨"RaftTown$Town", "drink", "(II)V"⟩, prog_12_method_31_code, 5, (none), 2, 1, [4134, 4133, 16, 1002]) := rfl
theorem mm_cw_111 : mm_cwd (10, ⟨"RaftTown$Town", "fullestOf", "(I)LRaftTown$Raft;"⟩, prog_12_method_32_code, 4, (some (.object "RaftTown$Raft")), 1, 1, [4138, 4137, 17, 1002]) := rfl
theorem mm_cw_112 : mm_cwd (10, ⟨"RaftTown$Town", "lose", "(II)V"⟩, prog_12_method_33_code, 3, (none), 2, 1, [4143, 4142, 18, 1002]) := rfl
theorem mm_cw_113 : mm_cwd (10, ⟨"RaftTown$Town", "ageRopes", "(Z)V"⟩, prog_12_method_34_code, 3, (none), 1, 1, [4147, 4146, 19, 1002]) := rfl
theorem mm_cw_114 : mm_cwd (10, ⟨"RaftTown$Town", "rot", "(LRaftTown$Net;)V"⟩, prog_12_method_35_code, 5, (none), 1, 1, [4151, 4150, 20, 1002]) := rfl
theorem mm_cw_115 : mm_cwd (10, ⟨"RaftTown$Town", "sink", "(ILRaftTown$Net;)V"⟩, prog_12_method_36_code, 7, (none), 2, 1, [4155, 4154, 21, 1002]) := rfl
theorem mm_cw_116 : mm_cwd (5, ⟨"RaftTown$Rope", "isAt", "(I)Z"⟩, prog_7_method_5_code, 2, (some .boolean), 1, 1, [4159, 4157, 4158, 1007]) := rfl
theorem mm_cw_117 : mm_cwd (10, ⟨"RaftTown$Town", "drift", "()V"⟩, prog_12_method_37_code, 3, (none), 0, 1, [4163, 4162, 22, 1002]) := rfl
theorem mm_cw_118 : mm_cwd (6, ⟨"RaftTown$Sea", "drifted", "(I)I"⟩, prog_8_method_6_code, 2, (some .int), 1, 1, [4167, 4165, 4166, 1003]) := rfl
theorem mm_cw_119 : mm_cwd (6, ⟨"RaftTown$Sea", "ledBy", "(II)I"⟩, prog_8_method_5_code, 3, (some .int), 2, 1, [4171, 4170, 23, 1003]) := rfl
theorem mm_cws_2 : ∀ t ∈ mm_mths_2, mm_cwd t := List.forall_mem_cons.mpr ⟨mm_cw_80, List.forall_mem_cons.mpr ⟨mm_cw_81, List.forall_mem_cons.mpr ⟨mm_cw_82, List.forall_mem_cons.mpr ⟨mm_cw_83, List.forall_mem_cons.mpr ⟨mm_cw_84, List.forall_mem_cons.mpr ⟨mm_cw_85, List.forall_mem_cons.mpr ⟨mm_cw_86, List.forall_mem_cons.mpr ⟨mm_cw_87, List.forall_mem_cons.mpr ⟨mm_cw_88, List.forall_mem_cons.mpr ⟨mm_cw_89, List.forall_mem_cons.mpr ⟨mm_cw_90, List.forall_mem_cons.mpr ⟨mm_cw_91, List.forall_mem_cons.mpr ⟨mm_cw_92, List.forall_mem_cons.mpr ⟨mm_cw_93, List.forall_mem_cons.mpr ⟨mm_cw_94, List.forall_mem_cons.mpr ⟨mm_cw_95, List.forall_mem_cons.mpr ⟨mm_cw_96, List.forall_mem_cons.mpr ⟨mm_cw_97, List.forall_mem_cons.mpr ⟨mm_cw_98, List.forall_mem_cons.mpr ⟨mm_cw_99, List.forall_mem_cons.mpr ⟨mm_cw_100, List.forall_mem_cons.mpr ⟨mm_cw_101, List.forall_mem_cons.mpr ⟨mm_cw_102, List.forall_mem_cons.mpr ⟨mm_cw_103, List.forall_mem_cons.mpr ⟨mm_cw_104, List.forall_mem_cons.mpr ⟨mm_cw_105, List.forall_mem_cons.mpr ⟨mm_cw_106, List.forall_mem_cons.mpr ⟨mm_cw_107, List.forall_mem_cons.mpr ⟨mm_cw_108, List.forall_mem_cons.mpr ⟨mm_cw_109, List.forall_mem_cons.mpr ⟨mm_cw_110, List.forall_mem_cons.mpr ⟨mm_cw_111, List.forall_mem_cons.mpr ⟨mm_cw_112, List.forall_mem_cons.mpr ⟨mm_cw_113, List.forall_mem_cons.mpr ⟨mm_cw_114, List.forall_mem_cons.mpr ⟨mm_cw_115, List.forall_mem_cons.mpr ⟨mm_cw_116, List.forall_mem_cons.mpr ⟨mm_cw_117, List.forall_mem_cons.mpr ⟨mm_cw_118, List.forall_mem_cons.mpr ⟨mm_cw_119, fun _ h => absurd h List.not_mem_nil⟩⟩⟩⟩⟩⟩⟩⟩⟩⟩⟩⟩⟩⟩⟩⟩⟩⟩⟩⟩⟩⟩⟩⟩⟩⟩⟩⟩⟩⟩⟩⟩⟩⟩⟩⟩⟩⟩⟩⟩
set_option maxRecDepth 100000 in
theorem mm_mths_3_ok : mm_mths_3.all mm_mchk = true := by decide +kernel
theorem mm_cw_120 : mm_cwd (6, ⟨"RaftTown$Sea", "stepped", "(III)I"⟩, prog_8_method_4_code, 6, (some .int), 3, 0, [4174, 4173, 0, 1003]) := rfl
theorem mm_cw_121 : mm_cwd (11, ⟨"RaftTown", "days", "(II)I"⟩, prog_1_method_20_code, 10, (some .int), 2, 1, [4179, 4177, 4178, 1001]) := rfl
theorem mm_cw_122 : mm_cwd (11, ⟨"RaftTown", "isSheet", "(I)Z"⟩, prog_1_method_53_code, 1, (some .boolean), 1, 0, [4182, 4181, 0, 1001]) := rfl
theorem mm_cw_123 : mm_cwd (7, ⟨"RaftTown$Sheet", "isMissing", "()Z"⟩, prog_9_method_2_code, 1, (some .boolean), 0, 1, [4186, 4184, 4185, 1009]) := rfl
theorem mm_cw_124 : mm_cwd (7, ⟨"RaftTown$Sheet", "numberOr", "(II)I"⟩, prog_9_method_5_code, 3, (some .int), 2, 1, [4190, 4188, 4189, 1009]) := rfl
theorem mm_cw_125 : mm_cwd (11, ⟨"RaftTown", "lasts", "(I)I"⟩, prog_1_method_21_code, 4, (some .int), 1, 1, [4195, 4193, 4194, 1001]) := rfl
theorem mm_cw_126 : mm_cwd (10, ⟨"RaftTown$Town", "countKind", "(II)I"⟩, prog_12_method_21_code, 5, (some .int), 2, 1, [4200, 4198, 4199, 1002]) := rfl
theorem mm_cw_127 : mm_cwd (11, ⟨"RaftTown", "feed", "(IJ)I"⟩, prog_1_method_22_code, 4, (some .int), 2, 1, [4205, 4203, 4204, 1001]) := rfl
theorem mm_cw_128 : mm_cwd (8, ⟨"RaftTown$Tape", "hasRoom", "(I)Z"⟩, prog_10_method_2_code, 2, (some .boolean), 1, 1, [4209, 4207, 4208, 1010]) := rfl
theorem mm_cw_129 : mm_cwd (8, ⟨"RaftTown$Tape", "append", "(IJ)I"⟩, prog_10_method_3_code, 5, (some .int), 2, 1, [4213, 4211, 4212, 1010]) := rfl
theorem mm_cw_130 : mm_cwd (11, ⟨"RaftTown", "text", "(I)I"⟩, prog_1_method_23_code, 3, (some .int), 1, 1, [4218, 4216, 4217, 1001]) := rfl
theorem mm_cw_131 : mm_cwd (8, ⟨"RaftTown$Tape", "read", "()I"⟩, prog_10_method_4_code, 2, (some .int), 0, 1, [4223, 4221, 4222, 1010]) := rfl
theorem mm_cw_132 : mm_cwd (9, ⟨"RaftTown$Text", "clear", "()V"⟩, prog_11_method_3_code, 1, (none), 0, 1, [4227, 4225, 4226, 1008]) := rfl
theorem mm_cw_133 : mm_cwd (8, ⟨"RaftTown$Tape", "next", "()V"⟩, prog_10_method_13_code, 2, (none), 0, 1, [4231, 4230, 24, 1010]) := rfl
theorem mm_cw_134 : mm_cwd (8, ⟨"RaftTown$Tape", "byteAt", "(I)I"⟩, prog_10_method_14_code, 2, (some .int), 1, 1, [4235, 4234, 25, 1010]) := rfl
theorem mm_cw_135 : mm_cwd (8, ⟨"RaftTown$Tape", "isLetter", "(I)Z"⟩, prog_10_method_18_code, 1, (some .boolean), 1, 0, [4238, 4237, 0, 1010]) := rfl
theorem mm_cw_136 : mm_cwd (8, ⟨"RaftTown$Tape", "nextWord", "()V"⟩, prog_10_method_15_code, 2, (none), 0, 1, [5003, 5002, 26, 1010]) := rfl
theorem mm_cw_137 : mm_cwd (8, ⟨"RaftTown$Tape", "word", "(I)Ljava/lang/String;"⟩, prog_10_method_21_code, 1, (some (.object "java/lang/String")), 1, 0, [5006, 5005, 0, 1010]) := rfl
theorem mm_cw_138 : mm_cwd (8, ⟨"RaftTown$Tape", "standsHere", "(Ljava/lang/String;)Z"⟩, prog_10_method_16_code, 3, (some .boolean), 1, 1, [5026, 5025, 27, 1010]) := rfl
theorem mm_cw_139 : mm_cwd (15, ⟨"java/lang/String", "length", "()I"⟩, prog_18_method_54_code, 1, (some .int), 0, 1, [5030, 5028, 5029, 1016]) := rfl
theorem mm_cw_140 : mm_cwd (15, ⟨"java/lang/String", "coder", "()B"⟩, prog_18_method_152_code, 1, (some .byte), 0, 1, [5034, 5032, 5033, 1016]) := rfl
theorem mm_cw_141 : mm_cwd (15, ⟨"java/lang/String", "charAt", "(I)C"⟩, prog_18_method_56_code, 2, (some .char), 1, 1, [5040, 5038, 5039, 1016]) := rfl
theorem mm_cw_142 : mm_cwd (15, ⟨"java/lang/String", "isLatin1", "()Z"⟩, prog_18_method_154_code, 1, (some .boolean), 0, 1, [5044, 5042, 5043, 1016]) := rfl
theorem mm_cw_143 : mm_cwd (16, ⟨"java/lang/StringLatin1", "charAt", "([BI)C"⟩, prog_19_method_2_code, 2, (some .char), 2, 0, [5047, 5046, 0, 1017]) := rfl
theorem mm_cw_144 : mm_cwd (15, ⟨"java/lang/String", "checkIndex", "(II)V"⟩, prog_18_method_155_code, 2, (none), 2, 0, [5050, 5049, 0, 1016]) := rfl
theorem mm_cw_145 : mm_cwd (17, ⟨"jdk/internal/util/Preconditions", "checkIndex", "(IILjava/util/function/BiFunction;)I"⟩, prog_22_method_11_code, 3, (some .int), 3, 0, [5055, 5054, 0, 1018]) := rfl
theorem mm_cw_146 : mm_cwd (18, ⟨"java/lang/StringUTF16", "charAt", "([BI)C"⟩, prog_20_method_83_code, 2, (some .char), 2, 0, [5058, 5057, 0, 1019]) := rfl
theorem mm_cw_147 : mm_cwd (18, ⟨"java/lang/StringUTF16", "checkIndex", "(I[B)V"⟩, prog_20_method_91_code, 2, (none), 2, 0, [5061, 5060, 0, 1019]) := rfl
theorem mm_cw_148 : mm_cwd (18, ⟨"java/lang/StringUTF16", "length", "([B)I"⟩, prog_20_method_6_code, 1, (some .int), 1, 0, [5064, 5063, 0, 1019]) := rfl
theorem mm_cw_149 : mm_cwd (18, ⟨"java/lang/StringUTF16", "getChar", "([BI)C"⟩, prog_20_method_5_code, 2, (some .char), 2, 0, [5068, 5067, 0, 1019]) := rfl
theorem mm_cw_150 : mm_cwd (8, ⟨"RaftTown$Tape", "isDigit", "(I)Z"⟩, prog_10_method_19_code, 1, (some .boolean), 1, 0, [5077, 5076, 0, 1010]) := rfl
theorem mm_cw_151 : mm_cwd (8, ⟨"RaftTown$Tape", "nextNumber", "()V"⟩, prog_10_method_17_code, 1, (none), 0, 1, [5081, 5080, 28, 1010]) := rfl
theorem mm_cw_152 : mm_cwd (8, ⟨"RaftTown$Tape", "signOf", "(I)I"⟩, prog_10_method_20_code, 1, (some .int), 1, 0, [5084, 5083, 0, 1010]) := rfl
theorem mm_cw_153 : mm_cwd (8, ⟨"RaftTown$Tape", "readClause", "(II)Z"⟩, prog_10_method_5_code, 4, (some .boolean), 2, 1, [5088, 5087, 29, 1010]) := rfl
theorem mm_cw_154 : mm_cwd (8, ⟨"RaftTown$Tape", "pass", "(I)Z"⟩, prog_10_method_6_code, 2, (some .boolean), 1, 1, [5092, 5091, 30, 1010]) := rfl
theorem mm_cw_155 : mm_cwd (8, ⟨"RaftTown$Tape", "readOr", "(I)Z"⟩, prog_10_method_7_code, 4, (some .boolean), 1, 1, [5096, 5095, 31, 1010]) := rfl
theorem mm_cw_156 : mm_cwd (8, ⟨"RaftTown$Tape", "readAnd", "(I)Z"⟩, prog_10_method_8_code, 4, (some .boolean), 1, 1, [5100, 5099, 32, 1010]) := rfl
theorem mm_cw_157 : mm_cwd (8, ⟨"RaftTown$Tape", "readNot", "(I)Z"⟩, prog_10_method_9_code, 3, (some .boolean), 1, 1, [5104, 5103, 33, 1010]) := rfl
theorem mm_cw_158 : mm_cwd (8, ⟨"RaftTown$Tape", "readComparison", "(I)Z"⟩, prog_10_method_10_code, 4, (some .boolean), 1, 1, [5108, 5107, 34, 1010]) := rfl
theorem mm_cw_159 : mm_cwd (8, ⟨"RaftTown$Tape", "readSum", "(I)Z"⟩, prog_10_method_11_code, 5, (some .boolean), 1, 1, [5112, 5111, 35, 1010]) := rfl
theorem mm_cws_3 : ∀ t ∈ mm_mths_3, mm_cwd t := List.forall_mem_cons.mpr ⟨mm_cw_120, List.forall_mem_cons.mpr ⟨mm_cw_121, List.forall_mem_cons.mpr ⟨mm_cw_122, List.forall_mem_cons.mpr ⟨mm_cw_123, List.forall_mem_cons.mpr ⟨mm_cw_124, List.forall_mem_cons.mpr ⟨mm_cw_125, List.forall_mem_cons.mpr ⟨mm_cw_126, List.forall_mem_cons.mpr ⟨mm_cw_127, List.forall_mem_cons.mpr ⟨mm_cw_128, List.forall_mem_cons.mpr ⟨mm_cw_129, List.forall_mem_cons.mpr ⟨mm_cw_130, List.forall_mem_cons.mpr ⟨mm_cw_131, List.forall_mem_cons.mpr ⟨mm_cw_132, List.forall_mem_cons.mpr ⟨mm_cw_133, List.forall_mem_cons.mpr ⟨mm_cw_134, List.forall_mem_cons.mpr ⟨mm_cw_135, List.forall_mem_cons.mpr ⟨mm_cw_136, List.forall_mem_cons.mpr ⟨mm_cw_137, List.forall_mem_cons.mpr ⟨mm_cw_138, List.forall_mem_cons.mpr ⟨mm_cw_139, List.forall_mem_cons.mpr ⟨mm_cw_140, List.forall_mem_cons.mpr ⟨mm_cw_141, List.forall_mem_cons.mpr ⟨mm_cw_142, List.forall_mem_cons.mpr ⟨mm_cw_143, List.forall_mem_cons.mpr ⟨mm_cw_144, List.forall_mem_cons.mpr ⟨mm_cw_145, List.forall_mem_cons.mpr ⟨mm_cw_146, List.forall_mem_cons.mpr ⟨mm_cw_147, List.forall_mem_cons.mpr ⟨mm_cw_148, List.forall_mem_cons.mpr ⟨mm_cw_149, List.forall_mem_cons.mpr ⟨mm_cw_150, List.forall_mem_cons.mpr ⟨mm_cw_151, List.forall_mem_cons.mpr ⟨mm_cw_152, List.forall_mem_cons.mpr ⟨mm_cw_153, List.forall_mem_cons.mpr ⟨mm_cw_154, List.forall_mem_cons.mpr ⟨mm_cw_155, List.forall_mem_cons.mpr ⟨mm_cw_156, List.forall_mem_cons.mpr ⟨mm_cw_157, List.forall_mem_cons.mpr ⟨mm_cw_158, List.forall_mem_cons.mpr ⟨mm_cw_159, fun _ h => absurd h List.not_mem_nil⟩⟩⟩⟩⟩⟩⟩⟩⟩⟩⟩⟩⟩⟩⟩⟩⟩⟩⟩⟩⟩⟩⟩⟩⟩⟩⟩⟩⟩⟩⟩⟩⟩⟩⟩⟩⟩⟩⟩⟩
set_option maxRecDepth 100000 in
theorem mm_mths_4_ok : mm_mths_4.all mm_mchk = true := by decide +kernel
theorem mm_cw_160 : mm_cwd (8, ⟨"RaftTown$Tape", "readOne", "(I)Z"⟩, prog_10_method_12_code, 2, (some .boolean), 1, 1, [5116, 5115, 36, 1010]) := rfl
theorem mm_cw_161 : mm_cwd (9, ⟨"RaftTown$Text", "addNumber", "(I)V"⟩, prog_11_method_4_code, 2, (none), 1, 1, [5120, 5118, 5119, 1008]) := rfl
theorem mm_cw_162 : mm_cwd (9, ⟨"RaftTown$Text", "addToken", "(I)V"⟩, prog_11_method_5_code, 2, (none), 1, 1, [5124, 5122, 5123, 1008]) := rfl
theorem mm_cw_163 : mm_cwd (9, ⟨"RaftTown$Text", "endClause", "(I)V"⟩, prog_11_method_6_code, 2, (none), 1, 1, [5129, 5127, 5128, 1008]) := rfl
theorem mm_cw_164 : mm_cwd (9, ⟨"RaftTown$Text", "take", "(LRaftTown$Text;)V"⟩, prog_11_method_2_code, 2, (none), 1, 1, [5134, 5132, 5133, 1008]) := rfl
theorem mm_cw_165 : mm_cwd (11, ⟨"RaftTown", "force", "(II)I"⟩, prog_1_method_24_code, 3, (some .int), 2, 1, [5142, 5140, 5141, 1001]) := rfl
theorem mm_cw_166 : mm_cwd (1, ⟨"RaftTown$Log", "addLaw", "(III)I"⟩, prog_3_method_6_code, 5, (some .int), 3, 1, [5146, 5144, 5145, 1004]) := rfl
theorem mm_cw_167 : mm_cwd (11, ⟨"RaftTown", "law", "(I)I"⟩, prog_1_method_25_code, 3, (some .int), 1, 1, [5151, 5149, 5150, 1001]) := rfl
theorem mm_cw_168 : mm_cwd (11, ⟨"RaftTown", "lawAt", "(I)I"⟩, prog_1_method_44_code, 3, (some .int), 1, 1, [5155, 5154, 37, 1001]) := rfl
theorem mm_cw_169 : mm_cwd (11, ⟨"RaftTown", "may", "(II)I"⟩, prog_1_method_26_code, 5, (some .int), 2, 1, [5159, 5157, 5158, 1001]) := rfl
theorem mm_cw_170 : mm_cwd (11, ⟨"RaftTown", "must", "(II)I"⟩, prog_1_method_27_code, 4, (some .int), 2, 1, [5163, 5161, 5162, 1001]) := rfl
theorem mm_cw_171 : mm_cwd (0, ⟨"RaftTown$Judge", "nameRafts", "(LRaftTown$Town;III)V"⟩, prog_2_method_4_code, 5, (none), 4, 1, [5167, 5165, 5166, 1012]) := rfl
theorem mm_cw_172 : mm_cwd (11, ⟨"RaftTown", "speaks", "(I)I"⟩, prog_1_method_28_code, 8, (some .int), 1, 1, [5171, 5169, 5170, 1001]) := rfl
theorem mm_cw_173 : mm_cwd (0, ⟨"RaftTown$Judge", "namePerson", "(LRaftTown$Town;II)V"⟩, prog_2_method_5_code, 4, (none), 3, 1, [5176, 5174, 5175, 1012]) := rfl
theorem mm_cw_174 : mm_cwd (11, ⟨"RaftTown", "events", "(I)I"⟩, prog_1_method_29_code, 2, (some .int), 1, 1, [5184, 5182, 5183, 1001]) := rfl
theorem mm_cw_175 : mm_cwd (1, ⟨"RaftTown$Log", "countKnown", "(I)I"⟩, prog_3_method_8_code, 4, (some .int), 1, 1, [5188, 5186, 5187, 1004]) := rfl
theorem mm_cw_176 : mm_cwd (11, ⟨"RaftTown", "event", "(II)I"⟩, prog_1_method_30_code, 3, (some .int), 2, 1, [5192, 5190, 5191, 1001]) := rfl
theorem mm_cw_177 : mm_cwd (1, ⟨"RaftTown$Log", "detail", "(II)I"⟩, prog_3_method_4_code, 4, (some .int), 2, 1, [5196, 5194, 5195, 1004]) := rfl
theorem mm_cw_178 : mm_cwd (11, ⟨"RaftTown", "lash", "(II)I"⟩, prog_1_method_31_code, 4, (some .int), 2, 1, [5200, 5198, 5199, 1001]) := rfl
theorem mm_cw_179 : mm_cwd (2, ⟨"RaftTown$Net", "fewestLashings", "(II)I"⟩, prog_4_method_21_code, 11, (some .int), 2, 1, [5204, 5202, 5203, 1011]) := rfl
theorem mm_cw_180 : mm_cwd (2, ⟨"RaftTown$Net", "ropesOf", "(I)I"⟩, prog_4_method_20_code, 4, (some .int), 1, 1, [5208, 5207, 38, 1011]) := rfl
theorem mm_cw_181 : mm_cwd (2, ⟨"RaftTown$Net", "doomed", "(I)I"⟩, prog_4_method_18_code, 5, (some .int), 1, 1, [5212, 5211, 39, 1011]) := rfl
theorem mm_cw_182 : mm_cwd (2, ⟨"RaftTown$Net", "doomedOf", "(II)I"⟩, prog_4_method_19_code, 6, (some .int), 2, 1, [5216, 5215, 40, 1011]) := rfl
theorem mm_cw_183 : mm_cwd (2, ⟨"RaftTown$Net", "isBridge", "(II)Z"⟩, prog_4_method_16_code, 4, (some .boolean), 2, 1, [5220, 5219, 41, 1011]) := rfl
theorem mm_cw_184 : mm_cwd (2, ⟨"RaftTown$Net", "bridgesOf", "(I)I"⟩, prog_4_method_17_code, 4, (some .int), 1, 1, [5224, 5223, 42, 1011]) := rfl
theorem mm_cw_185 : mm_cwd (2, ⟨"RaftTown$Net", "holds", "(II)Z"⟩, prog_4_method_15_code, 4, (some .boolean), 2, 1, [5229, 5228, 43, 1011]) := rfl
theorem mm_cw_186 : mm_cwd (11, ⟨"RaftTown", "storm", "(IZ)I"⟩, prog_1_method_32_code, 4, (some .int), 2, 1, [5233, 5231, 5232, 1001]) := rfl
theorem mm_cw_187 : mm_cwd (2, ⟨"RaftTown$Net", "bestCuts", "(I)I"⟩, prog_4_method_24_code, 5, (some .int), 1, 1, [5237, 5235, 5236, 1011]) := rfl
theorem mm_cw_188 : mm_cwd (2, ⟨"RaftTown$Net", "mostKept", "(II)I"⟩, prog_4_method_22_code, 6, (some .int), 2, 1, [6001, 6000, 44, 1011]) := rfl
theorem mm_cw_189 : mm_cwd (2, ⟨"RaftTown$Net", "lostBy", "(III)I"⟩, prog_4_method_23_code, 5, (some .int), 3, 1, [6005, 6003, 6004, 1011]) := rfl
theorem mm_cw_190 : mm_cwd (11, ⟨"RaftTown", "proves", "(III)I"⟩, prog_1_method_33_code, 6, (some .int), 3, 1, [6011, 6009, 6010, 1001]) := rfl
theorem mm_cw_191 : mm_cwd (2, ⟨"RaftTown$Net", "firstUnproved", "(IILRaftTown$Sheet;)I"⟩, prog_4_method_25_code, 7, (some .int), 3, 1, [6016, 6014, 6015, 1011]) := rfl
theorem mm_cw_192 : mm_cwd (11, ⟨"RaftTown", "patch", "(II)I"⟩, prog_1_method_34_code, 4, (some .int), 2, 1, [6021, 6019, 6020, 1001]) := rfl
theorem mm_cw_193 : mm_cwd (11, ⟨"RaftTown", "hasSail", "(I)Z"⟩, prog_1_method_46_code, 2, (some .boolean), 1, 1, [6025, 6024, 45, 1001]) := rfl
theorem mm_cw_194 : mm_cwd (6, ⟨"RaftTown$Sea", "patchSize", "(IIZ)I"⟩, prog_8_method_7_code, 8, (some .int), 3, 1, [6029, 6027, 6028, 1003]) := rfl
theorem mm_cw_195 : mm_cwd (6, ⟨"RaftTown$Sea", "aDayOn", "(J)J"⟩, prog_8_method_9_code, 6, (some .long), 1, 1, [6038, 6037, 46, 1003]) := rfl
theorem mm_cw_196 : mm_cwd (19, ⟨"java/lang/Long", "bitCount", "(J)I"⟩, prog_16_method_50_code, 2, (some .int), 1, 0, [6041, 6040, 0, 1021]) := rfl
theorem mm_cw_197 : mm_cwd (11, ⟨"RaftTown", "tow", "(II)I"⟩, prog_1_method_35_code, 6, (some .int), 2, 1, [6048, 6046, 6047, 1001]) := rfl
theorem mm_cw_198 : mm_cwd (6, ⟨"RaftTown$Sea", "soonest", "(IIZ)I"⟩, prog_8_method_8_code, 9, (some .int), 3, 1, [6052, 6050, 6051, 1003]) := rfl
theorem mm_cw_199 : mm_cwd (11, ⟨"RaftTown", "sheet", "(III)I"⟩, prog_1_method_36_code, 4, (some .int), 3, 1, [6056, 6054, 6055, 1001]) := rfl
theorem mm_cws_4 : ∀ t ∈ mm_mths_4, mm_cwd t := List.forall_mem_cons.mpr ⟨mm_cw_160, List.forall_mem_cons.mpr ⟨mm_cw_161, List.forall_mem_cons.mpr ⟨mm_cw_162, List.forall_mem_cons.mpr ⟨mm_cw_163, List.forall_mem_cons.mpr ⟨mm_cw_164, List.forall_mem_cons.mpr ⟨mm_cw_165, List.forall_mem_cons.mpr ⟨mm_cw_166, List.forall_mem_cons.mpr ⟨mm_cw_167, List.forall_mem_cons.mpr ⟨mm_cw_168, List.forall_mem_cons.mpr ⟨mm_cw_169, List.forall_mem_cons.mpr ⟨mm_cw_170, List.forall_mem_cons.mpr ⟨mm_cw_171, List.forall_mem_cons.mpr ⟨mm_cw_172, List.forall_mem_cons.mpr ⟨mm_cw_173, List.forall_mem_cons.mpr ⟨mm_cw_174, List.forall_mem_cons.mpr ⟨mm_cw_175, List.forall_mem_cons.mpr ⟨mm_cw_176, List.forall_mem_cons.mpr ⟨mm_cw_177, List.forall_mem_cons.mpr ⟨mm_cw_178, List.forall_mem_cons.mpr ⟨mm_cw_179, List.forall_mem_cons.mpr ⟨mm_cw_180, List.forall_mem_cons.mpr ⟨mm_cw_181, List.forall_mem_cons.mpr ⟨mm_cw_182, List.forall_mem_cons.mpr ⟨mm_cw_183, List.forall_mem_cons.mpr ⟨mm_cw_184, List.forall_mem_cons.mpr ⟨mm_cw_185, List.forall_mem_cons.mpr ⟨mm_cw_186, List.forall_mem_cons.mpr ⟨mm_cw_187, List.forall_mem_cons.mpr ⟨mm_cw_188, List.forall_mem_cons.mpr ⟨mm_cw_189, List.forall_mem_cons.mpr ⟨mm_cw_190, List.forall_mem_cons.mpr ⟨mm_cw_191, List.forall_mem_cons.mpr ⟨mm_cw_192, List.forall_mem_cons.mpr ⟨mm_cw_193, List.forall_mem_cons.mpr ⟨mm_cw_194, List.forall_mem_cons.mpr ⟨mm_cw_195, List.forall_mem_cons.mpr ⟨mm_cw_196, List.forall_mem_cons.mpr ⟨mm_cw_197, List.forall_mem_cons.mpr ⟨mm_cw_198, List.forall_mem_cons.mpr ⟨mm_cw_199, fun _ h => absurd h List.not_mem_nil⟩⟩⟩⟩⟩⟩⟩⟩⟩⟩⟩⟩⟩⟩⟩⟩⟩⟩⟩⟩⟩⟩⟩⟩⟩⟩⟩⟩⟩⟩⟩⟩⟩⟩⟩⟩⟩⟩⟩⟩
set_option maxRecDepth 100000 in
theorem mm_mths_5_ok : mm_mths_5.all mm_mchk = true := by decide +kernel
theorem mm_cw_200 : mm_cwd (7, ⟨"RaftTown$Sheet", "rule", "(II)I"⟩, prog_9_method_3_code, 4, (some .int), 2, 1, [6060, 6058, 6059, 1009]) := rfl
theorem mm_cw_201 : mm_cwd (11, ⟨"RaftTown", "put", "(III)I"⟩, prog_1_method_37_code, 5, (some .int), 3, 1, [6064, 6062, 6063, 1001]) := rfl
theorem mm_cw_202 : mm_cwd (7, ⟨"RaftTown$Sheet", "write", "(II)V"⟩, prog_9_method_4_code, 3, (none), 2, 1, [6068, 6066, 6067, 1009]) := rfl
theorem mm_cw_203 : mm_cwd (11, ⟨"RaftTown", "copy", "(IIIII)I"⟩, prog_1_method_38_code, 8, (some .int), 5, 1, [6073, 6071, 6072, 1001]) := rfl
theorem mm_cw_204 : mm_cwd (7, ⟨"RaftTown$Sheet", "hasRun", "(II)Z"⟩, prog_9_method_6_code, 3, (some .boolean), 2, 1, [6077, 6075, 6076, 1009]) := rfl
theorem mm_cw_205 : mm_cwd (11, ⟨"RaftTown", "image", "()I"⟩, prog_1_method_39_code, 1, (some .int), 0, 1, [6082, 6080, 6081, 1001]) := rfl
theorem mm_cw_206 : mm_cwd (10, ⟨"RaftTown$Town", "take", "(LRaftTown$Town;)V"⟩, prog_12_method_2_code, 3, (none), 1, 1, [6086, 6084, 6085, 1002]) := rfl
theorem mm_cw_207 : mm_cwd (6, ⟨"RaftTown$Sea", "take", "(LRaftTown$Sea;)V"⟩, prog_8_method_2_code, 2, (none), 1, 1, [6090, 6088, 6089, 1003]) := rfl
theorem mm_cw_208 : mm_cwd (4, ⟨"RaftTown$Raft", "take", "(LRaftTown$Raft;)V"⟩, prog_6_method_2_code, 2, (none), 1, 1, [6095, 6093, 6094, 1005]) := rfl
theorem mm_cw_209 : mm_cwd (3, ⟨"RaftTown$Person", "take", "(LRaftTown$Person;)V"⟩, prog_5_method_2_code, 2, (none), 1, 1, [6100, 6098, 6099, 1006]) := rfl
theorem mm_cw_210 : mm_cwd (5, ⟨"RaftTown$Rope", "take", "(LRaftTown$Rope;)V"⟩, prog_7_method_2_code, 2, (none), 1, 1, [6105, 6103, 6104, 1007]) := rfl
theorem mm_cw_211 : mm_cwd (1, ⟨"RaftTown$Log", "take", "(LRaftTown$Log;)V"⟩, prog_3_method_2_code, 2, (none), 1, 1, [6110, 6108, 6109, 1004]) := rfl
theorem mm_cw_212 : mm_cwd (11, ⟨"RaftTown", "restore", "()I"⟩, prog_1_method_40_code, 1, (some .int), 0, 1, [6116, 6114, 6115, 1001]) := rfl
theorem mm_cw_213 : mm_cwd (11, ⟨"RaftTown", "count", "(I)I"⟩, prog_1_method_41_code, 2, (some .int), 1, 1, [6120, 6118, 6119, 1001]) := rfl
theorem mm_cw_214 : mm_cwd (10, ⟨"RaftTown$Town", "countAfloat", "()I"⟩, prog_12_method_22_code, 3, (some .int), 0, 1, [6124, 6122, 6123, 1002]) := rfl
theorem mm_cw_215 : mm_cwd (10, ⟨"RaftTown$Town", "countAlive", "()I"⟩, prog_12_method_23_code, 3, (some .int), 0, 1, [6128, 6126, 6127, 1002]) := rfl
theorem mm_cw_216 : mm_cwd (10, ⟨"RaftTown$Town", "countRopes", "()I"⟩, prog_12_method_24_code, 3, (some .int), 0, 1, [6132, 6130, 6131, 1002]) := rfl
theorem mm_cw_217 : mm_cwd (10, ⟨"RaftTown$Town", "countCasks", "()I"⟩, prog_12_method_25_code, 3, (some .int), 0, 1, [6136, 6134, 6135, 1002]) := rfl
theorem mm_cw_218 : mm_cwd (12, ⟨"RaftTownModel", "<init>", "()V"⟩, prog_14_method_1_code, 1, (none), 0, 2, [6141, 6140, 0, 1013]) := rfl
theorem mm_cw_219 : mm_cwd (12, ⟨"RaftTownModel", "stream", "(III)I"⟩, prog_14_method_12_code, 4, (some .int), 3, 1, [6227, 6225, 6226, 1013]) := rfl
theorem mm_cw_220 : mm_cwd (12, ⟨"RaftTownModel", "in", "(III)Z"⟩, prog_14_method_3_code, 3, (some .boolean), 3, 0, [6230, 6229, 0, 1013]) := rfl
theorem mm_cw_221 : mm_cwd (12, ⟨"RaftTownModel", "finds", "(I)I"⟩, prog_14_method_4_code, 2, (some .int), 1, 1, [6235, 6234, 47, 1013]) := rfl
theorem mm_cw_222 : mm_cwd (12, ⟨"RaftTownModel", "raft", "(IIII)I"⟩, prog_14_method_13_code, 6, (some .int), 4, 1, [6239, 6237, 6238, 1013]) := rfl
theorem mm_cw_223 : mm_cwd (12, ⟨"RaftTownModel", "makes", "(III)V"⟩, prog_14_method_10_code, 4, (none), 3, 1, [7004, 7003, 48, 1013]) := rfl
theorem mm_cw_224 : mm_cwd (12, ⟨"RaftTownModel", "as", "(II)I"⟩, prog_14_method_14_code, 4, (some .int), 2, 1, [7008, 7006, 7007, 1013]) := rfl
theorem mm_cw_225 : mm_cwd (12, ⟨"RaftTownModel", "isFloat", "(I)Z"⟩, prog_14_method_5_code, 2, (some .boolean), 1, 1, [7012, 7011, 49, 1013]) := rfl
theorem mm_cw_226 : mm_cwd (12, ⟨"RaftTownModel", "own", "(II)I"⟩, prog_14_method_9_code, 3, (some .int), 2, 1, [7016, 7015, 50, 1013]) := rfl
theorem mm_cw_227 : mm_cwd (12, ⟨"RaftTownModel", "raftIs", "(II)I"⟩, prog_14_method_17_code, 3, (some .int), 2, 1, [7021, 7019, 7020, 1013]) := rfl
theorem mm_cw_228 : mm_cwd (12, ⟨"RaftTownModel", "weightOf", "(I)I"⟩, prog_14_method_16_code, 4, (some .int), 1, 1, [7025, 7024, 51, 1013]) := rfl
theorem mm_cw_229 : mm_cwd (12, ⟨"RaftTownModel", "isOn", "(II)Z"⟩, prog_14_method_23_code, 3, (some .boolean), 2, 1, [7029, 7028, 52, 1013]) := rfl
theorem mm_cw_230 : mm_cwd (12, ⟨"RaftTownModel", "isLost", "(I)Z"⟩, prog_14_method_22_code, 2, (some .boolean), 1, 1, [7033, 7032, 53, 1013]) := rfl
theorem mm_cw_231 : mm_cwd (12, ⟨"RaftTownModel", "ofPerson", "(II)I"⟩, prog_14_method_21_code, 3, (some .int), 2, 1, [7037, 7036, 54, 1013]) := rfl
theorem mm_cw_232 : mm_cwd (12, ⟨"RaftTownModel", "areaOf", "(I)I"⟩, prog_14_method_15_code, 3, (some .int), 1, 1, [7041, 7040, 55, 1013]) := rfl
theorem mm_cw_233 : mm_cwd (12, ⟨"RaftTownModel", "allRopes", "()I"⟩, prog_14_method_32_code, 3, (some .int), 0, 1, [7045, 7044, 56, 1013]) := rfl
theorem mm_cw_234 : mm_cwd (12, ⟨"RaftTownModel", "isLaid", "(I)Z"⟩, prog_14_method_31_code, 2, (some .boolean), 1, 1, [7049, 7048, 57, 1013]) := rfl
theorem mm_cw_235 : mm_cwd (12, ⟨"RaftTownModel", "ofRope", "(II)I"⟩, prog_14_method_30_code, 3, (some .int), 2, 1, [7053, 7052, 58, 1013]) := rfl
theorem mm_cw_236 : mm_cwd (12, ⟨"RaftTownModel", "partOf", "(II)I"⟩, prog_14_method_33_code, 8, (some .int), 2, 1, [7057, 7056, 59, 1013]) := rfl
theorem mm_cw_237 : mm_cwd (12, ⟨"RaftTownModel", "leastOf", "(I)I"⟩, prog_14_method_34_code, 2, (some .int), 1, 0, [7060, 7059, 0, 1013]) := rfl
theorem mm_cw_238 : mm_cwd (12, ⟨"RaftTownModel", "load", "(IIZ)I"⟩, prog_14_method_19_code, 5, (some .int), 3, 1, [7064, 7062, 7063, 1013]) := rfl
theorem mm_cw_239 : mm_cwd (12, ⟨"RaftTownModel", "isSunk", "(I)Z"⟩, prog_14_method_11_code, 2, (some .boolean), 1, 1, [7068, 7067, 60, 1013]) := rfl
theorem mm_cws_5 : ∀ t ∈ mm_mths_5, mm_cwd t := List.forall_mem_cons.mpr ⟨mm_cw_200, List.forall_mem_cons.mpr ⟨mm_cw_201, List.forall_mem_cons.mpr ⟨mm_cw_202, List.forall_mem_cons.mpr ⟨mm_cw_203, List.forall_mem_cons.mpr ⟨mm_cw_204, List.forall_mem_cons.mpr ⟨mm_cw_205, List.forall_mem_cons.mpr ⟨mm_cw_206, List.forall_mem_cons.mpr ⟨mm_cw_207, List.forall_mem_cons.mpr ⟨mm_cw_208, List.forall_mem_cons.mpr ⟨mm_cw_209, List.forall_mem_cons.mpr ⟨mm_cw_210, List.forall_mem_cons.mpr ⟨mm_cw_211, List.forall_mem_cons.mpr ⟨mm_cw_212, List.forall_mem_cons.mpr ⟨mm_cw_213, List.forall_mem_cons.mpr ⟨mm_cw_214, List.forall_mem_cons.mpr ⟨mm_cw_215, List.forall_mem_cons.mpr ⟨mm_cw_216, List.forall_mem_cons.mpr ⟨mm_cw_217, List.forall_mem_cons.mpr ⟨mm_cw_218, List.forall_mem_cons.mpr ⟨mm_cw_219, List.forall_mem_cons.mpr ⟨mm_cw_220, List.forall_mem_cons.mpr ⟨mm_cw_221, List.forall_mem_cons.mpr ⟨mm_cw_222, List.forall_mem_cons.mpr ⟨mm_cw_223, List.forall_mem_cons.mpr ⟨mm_cw_224, List.forall_mem_cons.mpr ⟨mm_cw_225, List.forall_mem_cons.mpr ⟨mm_cw_226, List.forall_mem_cons.mpr ⟨mm_cw_227, List.forall_mem_cons.mpr ⟨mm_cw_228, List.forall_mem_cons.mpr ⟨mm_cw_229, List.forall_mem_cons.mpr ⟨mm_cw_230, List.forall_mem_cons.mpr ⟨mm_cw_231, List.forall_mem_cons.mpr ⟨mm_cw_232, List.forall_mem_cons.mpr ⟨mm_cw_233, List.forall_mem_cons.mpr ⟨mm_cw_234, List.forall_mem_cons.mpr ⟨mm_cw_235, List.forall_mem_cons.mpr ⟨mm_cw_236, List.forall_mem_cons.mpr ⟨mm_cw_237, List.forall_mem_cons.mpr ⟨mm_cw_238, List.forall_mem_cons.mpr ⟨mm_cw_239, fun _ h => absurd h List.not_mem_nil⟩⟩⟩⟩⟩⟩⟩⟩⟩⟩⟩⟩⟩⟩⟩⟩⟩⟩⟩⟩⟩⟩⟩⟩⟩⟩⟩⟩⟩⟩⟩⟩⟩⟩⟩⟩⟩⟩⟩⟩
set_option maxRecDepth 100000 in
theorem mm_mths_6_ok : mm_mths_6.all mm_mchk = true := by decide +kernel
theorem mm_cw_240 : mm_cwd (12, ⟨"RaftTownModel", "roomOf", "(I)I"⟩, prog_14_method_18_code, 2, (some .int), 1, 1, [7073, 7072, 61, 1013]) := rfl
theorem mm_cw_241 : mm_cwd (12, ⟨"RaftTownModel", "trade", "(IIIZ)I"⟩, prog_14_method_20_code, 6, (some .int), 4, 1, [7077, 7075, 7076, 1013]) := rfl
theorem mm_cw_242 : mm_cwd (12, ⟨"RaftTownModel", "person", "(IIII)I"⟩, prog_14_method_24_code, 7, (some .int), 4, 1, [7084, 7082, 7083, 1013]) := rfl
theorem mm_cw_243 : mm_cwd (12, ⟨"RaftTownModel", "wed", "(II)I"⟩, prog_14_method_25_code, 3, (some .int), 2, 1, [7088, 7086, 7087, 1013]) := rfl
theorem mm_cw_244 : mm_cwd (12, ⟨"RaftTownModel", "isPerson", "(I)Z"⟩, prog_14_method_6_code, 2, (some .boolean), 1, 1, [7092, 7091, 62, 1013]) := rfl
theorem mm_cw_245 : mm_cwd (12, ⟨"RaftTownModel", "move", "(II)I"⟩, prog_14_method_26_code, 4, (some .int), 2, 1, [7097, 7095, 7096, 1013]) := rfl
theorem mm_cw_246 : mm_cwd (12, ⟨"RaftTownModel", "personIs", "(II)I"⟩, prog_14_method_29_code, 5, (some .int), 2, 1, [7101, 7099, 7100, 1013]) := rfl
theorem mm_cw_247 : mm_cwd (12, ⟨"RaftTownModel", "areKin", "(II)Z"⟩, prog_14_method_28_code, 3, (some .boolean), 2, 1, [7105, 7104, 63, 1013]) := rfl
theorem mm_cw_248 : mm_cwd (12, ⟨"RaftTownModel", "isParent", "(II)Z"⟩, prog_14_method_27_code, 3, (some .boolean), 2, 1, [7109, 7108, 64, 1013]) := rfl
theorem mm_cw_249 : mm_cwd (12, ⟨"RaftTownModel", "parts", "()I"⟩, prog_14_method_37_code, 1, (some .int), 0, 1, [7113, 7111, 7112, 1013]) := rfl
theorem mm_cw_250 : mm_cwd (12, ⟨"RaftTownModel", "partMany", "()I"⟩, prog_14_method_36_code, 4, (some .int), 0, 1, [7117, 7116, 65, 1013]) := rfl
theorem mm_cw_251 : mm_cwd (12, ⟨"RaftTownModel", "part", "(I)I"⟩, prog_14_method_38_code, 2, (some .int), 1, 1, [7121, 7119, 7120, 1013]) := rfl
theorem mm_cw_252 : mm_cwd (12, ⟨"RaftTownModel", "tie", "(IIIII)I"⟩, prog_14_method_40_code, 9, (some .int), 5, 1, [7125, 7123, 7124, 1013]) := rfl
theorem mm_cw_253 : mm_cwd (12, ⟨"RaftTownModel", "hasRoom", "(II)Z"⟩, prog_14_method_39_code, 5, (some .boolean), 2, 1, [7129, 7128, 66, 1013]) := rfl
theorem mm_cw_254 : mm_cwd (12, ⟨"RaftTownModel", "tellsOn", "(I)V"⟩, prog_14_method_51_code, 3, (none), 1, 1, [7133, 7132, 67, 1013]) := rfl
theorem mm_cw_255 : mm_cwd (12, ⟨"RaftTownModel", "happens", "(III)V"⟩, prog_14_method_50_code, 5, (none), 3, 1, [7137, 7136, 68, 1013]) := rfl
theorem mm_cw_256 : mm_cwd (12, ⟨"RaftTownModel", "rope", "(II)I"⟩, prog_14_method_47_code, 3, (some .int), 2, 1, [7141, 7139, 7140, 1013]) := rfl
theorem mm_cw_257 : mm_cwd (12, ⟨"RaftTownModel", "isRope", "(I)Z"⟩, prog_14_method_7_code, 2, (some .boolean), 1, 1, [7145, 7144, 69, 1013]) := rfl
theorem mm_cw_258 : mm_cwd (12, ⟨"RaftTownModel", "strengthOf", "(I)I"⟩, prog_14_method_41_code, 3, (some .int), 1, 1, [7149, 7148, 70, 1013]) := rfl
theorem mm_cw_259 : mm_cwd (12, ⟨"RaftTownModel", "weighs", "()V"⟩, prog_14_method_43_code, 2, (none), 0, 1, [7153, 7152, 71, 1013]) := rfl
theorem mm_cw_260 : mm_cwd (12, ⟨"RaftTownModel", "hangOf", "(II)I"⟩, prog_14_method_44_code, 8, (some .int), 2, 1, [7157, 7156, 72, 1013]) := rfl
theorem mm_cw_261 : mm_cwd (12, ⟨"RaftTownModel", "weightOfAll", "(I)I"⟩, prog_14_method_42_code, 4, (some .int), 1, 1, [7161, 7160, 73, 1013]) := rfl
theorem mm_cw_262 : mm_cwd (12, ⟨"RaftTownModel", "bears", "(II)I"⟩, prog_14_method_48_code, 3, (some .int), 2, 1, [7165, 7163, 7164, 1013]) := rfl
theorem mm_cw_263 : mm_cwd (12, ⟨"RaftTownModel", "isWaves", "(I)Z"⟩, prog_14_method_8_code, 1, (some .boolean), 1, 0, [7168, 7167, 0, 1013]) := rfl
theorem mm_cw_264 : mm_cwd (12, ⟨"RaftTownModel", "loadOf", "(III)I"⟩, prog_14_method_45_code, 4, (some .int), 3, 1, [7172, 7171, 74, 1013]) := rfl
theorem mm_cw_265 : mm_cwd (12, ⟨"RaftTownModel", "worst", "(II)I"⟩, prog_14_method_49_code, 6, (some .int), 2, 1, [7176, 7174, 7175, 1013]) := rfl
theorem mm_cw_266 : mm_cwd (12, ⟨"RaftTownModel", "partsFirst", "(II)I"⟩, prog_14_method_46_code, 7, (some .int), 2, 1, [7180, 7179, 75, 1013]) := rfl
theorem mm_cw_267 : mm_cwd (12, ⟨"RaftTownModel", "events", "(I)I"⟩, prog_14_method_52_code, 4, (some .int), 1, 1, [7184, 7182, 7183, 1013]) := rfl
theorem mm_cw_268 : mm_cwd (12, ⟨"RaftTownModel", "event", "(II)I"⟩, prog_14_method_53_code, 3, (some .int), 2, 1, [7188, 7186, 7187, 1013]) := rfl
theorem mm_cw_269 : mm_cwd (12, ⟨"RaftTownModel", "day", "(II)I"⟩, prog_14_method_65_code, 3, (some .int), 2, 1, [7192, 7190, 7191, 1013]) := rfl
theorem mm_cw_270 : mm_cwd (12, ⟨"RaftTownModel", "passes", "(II)I"⟩, prog_14_method_64_code, 4, (some .int), 2, 1, [7196, 7195, 76, 1013]) := rfl
theorem mm_cw_271 : mm_cwd (12, ⟨"RaftTownModel", "partsAll", "(I)I"⟩, prog_14_method_55_code, 5, (some .int), 1, 1, [7200, 7199, 77, 1013]) := rfl
theorem mm_cw_272 : mm_cwd (12, ⟨"RaftTownModel", "rains", "(I)V"⟩, prog_14_method_56_code, 4, (none), 1, 1, [7204, 7203, 78, 1013]) := rfl
theorem mm_cw_273 : mm_cwd (12, ⟨"RaftTownModel", "drinks", "(I)Z"⟩, prog_14_method_57_code, 2, (some .boolean), 1, 1, [7208, 7207, 79, 1013]) := rfl
theorem mm_cw_274 : mm_cwd (12, ⟨"RaftTownModel", "allDrink", "()V"⟩, prog_14_method_58_code, 6, (none), 0, 1, [7212, 7211, 80, 1013]) := rfl
theorem mm_cw_275 : mm_cwd (12, ⟨"RaftTownModel", "loses", "(II)V"⟩, prog_14_method_54_code, 3, (none), 2, 1, [7216, 7215, 81, 1013]) := rfl
theorem mm_cw_276 : mm_cwd (12, ⟨"RaftTownModel", "ropesAge", "(I)V"⟩, prog_14_method_59_code, 3, (none), 1, 1, [7220, 7219, 82, 1013]) := rfl
theorem mm_cw_277 : mm_cwd (12, ⟨"RaftTownModel", "rots", "()V"⟩, prog_14_method_61_code, 2, (none), 0, 1, [7224, 7223, 83, 1013]) := rfl
theorem mm_cw_278 : mm_cwd (12, ⟨"RaftTownModel", "sinks", "(I)V"⟩, prog_14_method_60_code, 5, (none), 1, 1, [7228, 7227, 84, 1013]) := rfl
theorem mm_cw_279 : mm_cwd (12, ⟨"RaftTownModel", "drifts", "()V"⟩, prog_14_method_63_code, 2, (none), 0, 1, [7232, 7231, 85, 1013]) := rfl
theorem mm_cws_6 : ∀ t ∈ mm_mths_6, mm_cwd t := List.forall_mem_cons.mpr ⟨mm_cw_240, List.forall_mem_cons.mpr ⟨mm_cw_241, List.forall_mem_cons.mpr ⟨mm_cw_242, List.forall_mem_cons.mpr ⟨mm_cw_243, List.forall_mem_cons.mpr ⟨mm_cw_244, List.forall_mem_cons.mpr ⟨mm_cw_245, List.forall_mem_cons.mpr ⟨mm_cw_246, List.forall_mem_cons.mpr ⟨mm_cw_247, List.forall_mem_cons.mpr ⟨mm_cw_248, List.forall_mem_cons.mpr ⟨mm_cw_249, List.forall_mem_cons.mpr ⟨mm_cw_250, List.forall_mem_cons.mpr ⟨mm_cw_251, List.forall_mem_cons.mpr ⟨mm_cw_252, List.forall_mem_cons.mpr ⟨mm_cw_253, List.forall_mem_cons.mpr ⟨mm_cw_254, List.forall_mem_cons.mpr ⟨mm_cw_255, List.forall_mem_cons.mpr ⟨mm_cw_256, List.forall_mem_cons.mpr ⟨mm_cw_257, List.forall_mem_cons.mpr ⟨mm_cw_258, List.forall_mem_cons.mpr ⟨mm_cw_259, List.forall_mem_cons.mpr ⟨mm_cw_260, List.forall_mem_cons.mpr ⟨mm_cw_261, List.forall_mem_cons.mpr ⟨mm_cw_262, List.forall_mem_cons.mpr ⟨mm_cw_263, List.forall_mem_cons.mpr ⟨mm_cw_264, List.forall_mem_cons.mpr ⟨mm_cw_265, List.forall_mem_cons.mpr ⟨mm_cw_266, List.forall_mem_cons.mpr ⟨mm_cw_267, List.forall_mem_cons.mpr ⟨mm_cw_268, List.forall_mem_cons.mpr ⟨mm_cw_269, List.forall_mem_cons.mpr ⟨mm_cw_270, List.forall_mem_cons.mpr ⟨mm_cw_271, List.forall_mem_cons.mpr ⟨mm_cw_272, List.forall_mem_cons.mpr ⟨mm_cw_273, List.forall_mem_cons.mpr ⟨mm_cw_274, List.forall_mem_cons.mpr ⟨mm_cw_275, List.forall_mem_cons.mpr ⟨mm_cw_276, List.forall_mem_cons.mpr ⟨mm_cw_277, List.forall_mem_cons.mpr ⟨mm_cw_278, List.forall_mem_cons.mpr ⟨mm_cw_279, fun _ h => absurd h List.not_mem_nil⟩⟩⟩⟩⟩⟩⟩⟩⟩⟩⟩⟩⟩⟩⟩⟩⟩⟩⟩⟩⟩⟩⟩⟩⟩⟩⟩⟩⟩⟩⟩⟩⟩⟩⟩⟩⟩⟩⟩⟩
set_option maxRecDepth 100000 in
theorem mm_mths_7_ok : mm_mths_7.all mm_mchk = true := by decide +kernel
theorem mm_cw_280 : mm_cwd (12, ⟨"RaftTownModel", "leads", "(II)I"⟩, prog_14_method_62_code, 5, (some .int), 2, 1, [7236, 7235, 86, 1013]) := rfl
theorem mm_cw_281 : mm_cwd (12, ⟨"RaftTownModel", "days", "(II)I"⟩, prog_14_method_66_code, 8, (some .int), 2, 1, [8000, 7238, 7239, 1013]) := rfl
theorem mm_cw_282 : mm_cwd (12, ⟨"RaftTownModel", "isSheet", "(I)Z"⟩, prog_14_method_107_code, 1, (some .boolean), 1, 0, [8003, 8002, 0, 1013]) := rfl
theorem mm_cw_283 : mm_cwd (12, ⟨"RaftTownModel", "lasts", "(I)I"⟩, prog_14_method_69_code, 5, (some .int), 1, 1, [8007, 8005, 8006, 1013]) := rfl
theorem mm_cw_284 : mm_cwd (12, ⟨"RaftTownModel", "headsOf", "(I)I"⟩, prog_14_method_67_code, 4, (some .int), 1, 1, [8011, 8010, 87, 1013]) := rfl
theorem mm_cw_285 : mm_cwd (12, ⟨"RaftTownModel", "waterOf", "(I)I"⟩, prog_14_method_68_code, 4, (some .int), 1, 1, [8015, 8014, 88, 1013]) := rfl
theorem mm_cw_286 : mm_cwd (12, ⟨"RaftTownModel", "feed", "(IJ)I"⟩, prog_14_method_70_code, 5, (some .int), 2, 1, [8019, 8017, 8018, 1013]) := rfl
theorem mm_cw_287 : mm_cwd (12, ⟨"RaftTownModel", "text", "(I)I"⟩, prog_14_method_84_code, 4, (some .int), 1, 1, [8023, 8021, 8022, 1013]) := rfl
theorem mm_cw_288 : mm_cwd (12, ⟨"RaftTownModel", "reads", "()Z"⟩, prog_14_method_83_code, 2, (some .boolean), 0, 1, [8027, 8026, 89, 1013]) := rfl
theorem mm_cw_289 : mm_cwd (12, ⟨"RaftTownModel", "looks", "()V"⟩, prog_14_method_76_code, 2, (none), 0, 1, [8031, 8030, 90, 1013]) := rfl
theorem mm_cw_290 : mm_cwd (12, ⟨"RaftTownModel", "byteAt", "(I)I"⟩, prog_14_method_71_code, 2, (some .int), 1, 1, [8035, 8034, 91, 1013]) := rfl
theorem mm_cw_291 : mm_cwd (12, ⟨"RaftTownModel", "isLetter", "(I)Z"⟩, prog_14_method_72_code, 1, (some .boolean), 1, 0, [8038, 8037, 0, 1013]) := rfl
theorem mm_cw_292 : mm_cwd (12, ⟨"RaftTownModel", "wordOf", "()I"⟩, prog_14_method_75_code, 4, (some .int), 0, 1, [8042, 8041, 92, 1013]) := rfl
theorem mm_cw_293 : mm_cwd (12, ⟨"RaftTownModel", "isDigit", "(I)Z"⟩, prog_14_method_73_code, 1, (some .boolean), 1, 0, [8045, 8044, 0, 1013]) := rfl
theorem mm_cw_294 : mm_cwd (12, ⟨"RaftTownModel", "isSign", "(I)Z"⟩, prog_14_method_74_code, 1, (some .boolean), 1, 0, [8048, 8047, 0, 1013]) := rfl
theorem mm_cw_295 : mm_cwd (12, ⟨"RaftTownModel", "readsE", "(I)Z"⟩, prog_14_method_82_code, 5, (some .boolean), 1, 1, [8052, 8051, 93, 1013]) := rfl
theorem mm_cw_296 : mm_cwd (12, ⟨"RaftTownModel", "waitsOf", "(I)I"⟩, prog_14_method_80_code, 4, (some .int), 1, 1, [8056, 8055, 94, 1013]) := rfl
theorem mm_cw_297 : mm_cwd (12, ⟨"RaftTownModel", "lays", "(I)V"⟩, prog_14_method_78_code, 2, (none), 1, 1, [8060, 8059, 95, 1013]) := rfl
theorem mm_cw_298 : mm_cwd (12, ⟨"RaftTownModel", "settles", "(I)V"⟩, prog_14_method_79_code, 2, (none), 1, 1, [8064, 8063, 96, 1013]) := rfl
theorem mm_cw_299 : mm_cwd (12, ⟨"RaftTownModel", "rankOf", "(I)I"⟩, prog_14_method_77_code, 1, (some .int), 1, 0, [8067, 8066, 0, 1013]) := rfl
theorem mm_cw_300 : mm_cwd (12, ⟨"RaftTownModel", "isTested", "()Z"⟩, prog_14_method_81_code, 2, (some .boolean), 0, 1, [8071, 8070, 97, 1013]) := rfl
theorem mm_cw_301 : mm_cwd (12, ⟨"RaftTownModel", "force", "(II)I"⟩, prog_14_method_87_code, 5, (some .int), 2, 1, [8075, 8073, 8074, 1013]) := rfl
theorem mm_cw_302 : mm_cwd (12, ⟨"RaftTownModel", "law", "(I)I"⟩, prog_14_method_89_code, 3, (some .int), 1, 1, [8079, 8077, 8078, 1013]) := rfl
theorem mm_cw_303 : mm_cwd (12, ⟨"RaftTownModel", "lawOf", "(I)I"⟩, prog_14_method_88_code, 4, (some .int), 1, 1, [8083, 8082, 98, 1013]) := rfl
theorem mm_cw_304 : mm_cwd (12, ⟨"RaftTownModel", "cut", "(I)I"⟩, prog_14_method_93_code, 4, (some .int), 1, 1, [8087, 8085, 8086, 1013]) := rfl
theorem mm_cw_305 : mm_cwd (12, ⟨"RaftTownModel", "cutOf", "(IIII)I"⟩, prog_14_method_92_code, 5, (some .int), 4, 1, [8091, 8090, 99, 1013]) := rfl
theorem mm_cw_306 : mm_cwd (12, ⟨"RaftTownModel", "namesOf", "(I)V"⟩, prog_14_method_90_code, 3, (none), 1, 1, [8095, 8094, 100, 1013]) := rfl
theorem mm_cw_307 : mm_cwd (12, ⟨"RaftTownModel", "kinOn", "(II)I"⟩, prog_14_method_91_code, 6, (some .int), 2, 1, [8099, 8098, 101, 1013]) := rfl
theorem mm_cw_308 : mm_cwd (12, ⟨"RaftTownModel", "worth", "(II)I"⟩, prog_14_method_86_code, 7, (some .int), 2, 1, [8103, 8102, 102, 1013]) := rfl
theorem mm_cw_309 : mm_cwd (12, ⟨"RaftTownModel", "done", "(III)I"⟩, prog_14_method_85_code, 3, (some .int), 3, 0, [8106, 8105, 0, 1013]) := rfl
theorem mm_cw_310 : mm_cwd (12, ⟨"RaftTownModel", "may", "(II)I"⟩, prog_14_method_94_code, 5, (some .int), 2, 1, [8111, 8109, 8110, 1013]) := rfl
theorem mm_cw_311 : mm_cwd (12, ⟨"RaftTownModel", "must", "(II)I"⟩, prog_14_method_95_code, 4, (some .int), 2, 1, [8115, 8113, 8114, 1013]) := rfl
theorem mm_cw_312 : mm_cwd (12, ⟨"RaftTownModel", "speaks", "(I)I"⟩, prog_14_method_96_code, 8, (some .int), 1, 1, [8119, 8117, 8118, 1013]) := rfl
theorem mm_cw_313 : mm_cwd (12, ⟨"RaftTownModel", "lash", "(II)I"⟩, prog_14_method_98_code, 7, (some .int), 2, 1, [8123, 8121, 8122, 1013]) := rfl
theorem mm_cw_314 : mm_cwd (12, ⟨"RaftTownModel", "ones", "(I)I"⟩, prog_14_method_35_code, 3, (some .int), 1, 0, [8126, 8125, 0, 1013]) := rfl
theorem mm_cw_315 : mm_cwd (12, ⟨"RaftTownModel", "holds", "(II)Z"⟩, prog_14_method_97_code, 3, (some .boolean), 2, 1, [8130, 8129, 103, 1013]) := rfl
theorem mm_cw_316 : mm_cwd (12, ⟨"RaftTownModel", "storm", "(IZ)I"⟩, prog_14_method_100_code, 8, (some .int), 2, 1, [8134, 8132, 8133, 1013]) := rfl
theorem mm_cw_317 : mm_cwd (12, ⟨"RaftTownModel", "lostBy", "(II)I"⟩, prog_14_method_99_code, 6, (some .int), 2, 1, [8138, 8137, 104, 1013]) := rfl
theorem mm_cw_318 : mm_cwd (12, ⟨"RaftTownModel", "proves", "(III)I"⟩, prog_14_method_101_code, 8, (some .int), 3, 1, [8142, 8140, 8141, 1013]) := rfl
theorem mm_cw_319 : mm_cwd (12, ⟨"RaftTownModel", "patch", "(II)I"⟩, prog_14_method_105_code, 7, (some .int), 2, 1, [8146, 8144, 8145, 1013]) := rfl
theorem mm_cws_7 : ∀ t ∈ mm_mths_7, mm_cwd t := List.forall_mem_cons.mpr ⟨mm_cw_280, List.forall_mem_cons.mpr ⟨mm_cw_281, List.forall_mem_cons.mpr ⟨mm_cw_282, List.forall_mem_cons.mpr ⟨mm_cw_283, List.forall_mem_cons.mpr ⟨mm_cw_284, List.forall_mem_cons.mpr ⟨mm_cw_285, List.forall_mem_cons.mpr ⟨mm_cw_286, List.forall_mem_cons.mpr ⟨mm_cw_287, List.forall_mem_cons.mpr ⟨mm_cw_288, List.forall_mem_cons.mpr ⟨mm_cw_289, List.forall_mem_cons.mpr ⟨mm_cw_290, List.forall_mem_cons.mpr ⟨mm_cw_291, List.forall_mem_cons.mpr ⟨mm_cw_292, List.forall_mem_cons.mpr ⟨mm_cw_293, List.forall_mem_cons.mpr ⟨mm_cw_294, List.forall_mem_cons.mpr ⟨mm_cw_295, List.forall_mem_cons.mpr ⟨mm_cw_296, List.forall_mem_cons.mpr ⟨mm_cw_297, List.forall_mem_cons.mpr ⟨mm_cw_298, List.forall_mem_cons.mpr ⟨mm_cw_299, List.forall_mem_cons.mpr ⟨mm_cw_300, List.forall_mem_cons.mpr ⟨mm_cw_301, List.forall_mem_cons.mpr ⟨mm_cw_302, List.forall_mem_cons.mpr ⟨mm_cw_303, List.forall_mem_cons.mpr ⟨mm_cw_304, List.forall_mem_cons.mpr ⟨mm_cw_305, List.forall_mem_cons.mpr ⟨mm_cw_306, List.forall_mem_cons.mpr ⟨mm_cw_307, List.forall_mem_cons.mpr ⟨mm_cw_308, List.forall_mem_cons.mpr ⟨mm_cw_309, List.forall_mem_cons.mpr ⟨mm_cw_310, List.forall_mem_cons.mpr ⟨mm_cw_311, List.forall_mem_cons.mpr ⟨mm_cw_312, List.forall_mem_cons.mpr ⟨mm_cw_313, List.forall_mem_cons.mpr ⟨mm_cw_314, List.forall_mem_cons.mpr ⟨mm_cw_315, List.forall_mem_cons.mpr ⟨mm_cw_316, List.forall_mem_cons.mpr ⟨mm_cw_317, List.forall_mem_cons.mpr ⟨mm_cw_318, List.forall_mem_cons.mpr ⟨mm_cw_319, fun _ h => absurd h List.not_mem_nil⟩⟩⟩⟩⟩⟩⟩⟩⟩⟩⟩⟩⟩⟩⟩⟩⟩⟩⟩⟩⟩⟩⟩⟩⟩⟩⟩⟩⟩⟩⟩⟩⟩⟩⟩⟩⟩⟩⟩⟩
set_option maxRecDepth 100000 in
theorem mm_mths_8_ok : mm_mths_8.all mm_mchk = true := by decide +kernel
theorem mm_cw_320 : mm_cwd (12, ⟨"RaftTownModel", "hasSail", "(I)Z"⟩, prog_14_method_102_code, 3, (some .boolean), 1, 1, [8150, 8149, 105, 1013]) := rfl
theorem mm_cw_321 : mm_cwd (12, ⟨"RaftTownModel", "areNext", "(II)Z"⟩, prog_14_method_103_code, 4, (some .boolean), 2, 0, [8153, 8152, 0, 1013]) := rfl
theorem mm_cw_322 : mm_cwd (12, ⟨"RaftTownModel", "copies", "()V"⟩, prog_14_method_104_code, 2, (none), 0, 1, [8157, 8156, 106, 1013]) := rfl
theorem mm_cw_323 : mm_cwd (12, ⟨"RaftTownModel", "tow", "(II)I"⟩, prog_14_method_106_code, 8, (some .int), 2, 1, [8161, 8159, 8160, 1013]) := rfl
theorem mm_cw_324 : mm_cwd (12, ⟨"RaftTownModel", "sheet", "(III)I"⟩, prog_14_method_108_code, 5, (some .int), 3, 1, [8165, 8163, 8164, 1013]) := rfl
theorem mm_cw_325 : mm_cwd (12, ⟨"RaftTownModel", "put", "(III)I"⟩, prog_14_method_109_code, 4, (some .int), 3, 1, [8169, 8167, 8168, 1013]) := rfl
theorem mm_cw_326 : mm_cwd (12, ⟨"RaftTownModel", "copy", "(IIIII)I"⟩, prog_14_method_110_code, 7, (some .int), 5, 1, [8173, 8171, 8172, 1013]) := rfl
theorem mm_cw_327 : mm_cwd (12, ⟨"RaftTownModel", "image", "()I"⟩, prog_14_method_111_code, 2, (some .int), 0, 1, [8177, 8175, 8176, 1013]) := rfl
theorem mm_cw_328 : mm_cwd (12, ⟨"RaftTownModel", "restore", "()I"⟩, prog_14_method_112_code, 2, (some .int), 0, 1, [8181, 8179, 8180, 1013]) := rfl
theorem mm_cw_329 : mm_cwd (12, ⟨"RaftTownModel", "count", "(I)I"⟩, prog_14_method_113_code, 4, (some .int), 1, 1, [8185, 8183, 8184, 1013]) := rfl
theorem mm_cws_8 : ∀ t ∈ mm_mths_8, mm_cwd t := List.forall_mem_cons.mpr ⟨mm_cw_320, List.forall_mem_cons.mpr ⟨mm_cw_321, List.forall_mem_cons.mpr ⟨mm_cw_322, List.forall_mem_cons.mpr ⟨mm_cw_323, List.forall_mem_cons.mpr ⟨mm_cw_324, List.forall_mem_cons.mpr ⟨mm_cw_325, List.forall_mem_cons.mpr ⟨mm_cw_326, List.forall_mem_cons.mpr ⟨mm_cw_327, List.forall_mem_cons.mpr ⟨mm_cw_328, List.forall_mem_cons.mpr ⟨mm_cw_329, fun _ h => absurd h List.not_mem_nil⟩⟩⟩⟩⟩⟩⟩⟩⟩⟩
theorem mm_cws : ∀ t ∈ mm_mths, mm_cwd t := by
  unfold mm_mths
  exact List.forall_mem_append.mpr ⟨mm_cws_0, List.forall_mem_append.mpr ⟨mm_cws_1, List.forall_mem_append.mpr ⟨mm_cws_2, List.forall_mem_append.mpr ⟨mm_cws_3, List.forall_mem_append.mpr ⟨mm_cws_4, List.forall_mem_append.mpr ⟨mm_cws_5, List.forall_mem_append.mpr ⟨mm_cws_6, List.forall_mem_append.mpr ⟨mm_cws_7, mm_cws_8⟩⟩⟩⟩⟩⟩⟩⟩
theorem mm_mths_ok : ∀ t ∈ mm_mths, mm_mchk t = true := by
  unfold mm_mths
  exact List.forall_mem_append.mpr ⟨List.all_eq_true.mp mm_mths_0_ok, List.forall_mem_append.mpr ⟨List.all_eq_true.mp mm_mths_1_ok, List.forall_mem_append.mpr ⟨List.all_eq_true.mp mm_mths_2_ok, List.forall_mem_append.mpr ⟨List.all_eq_true.mp mm_mths_3_ok, List.forall_mem_append.mpr ⟨List.all_eq_true.mp mm_mths_4_ok, List.forall_mem_append.mpr ⟨List.all_eq_true.mp mm_mths_5_ok, List.forall_mem_append.mpr ⟨List.all_eq_true.mp mm_mths_6_ok, List.forall_mem_append.mpr ⟨List.all_eq_true.mp mm_mths_7_ok, List.all_eq_true.mp mm_mths_8_ok⟩⟩⟩⟩⟩⟩⟩⟩
theorem mm_obj_i : Cond.instanceMethod Lib.objectInit ∈ mm_gw := mm_wg_in (pl := 1028) (by decide +kernel)
theorem mm_obj_c : Cond.code Lib.objectInit ⟨#[0xb1]⟩ 1 none ∈ mm_gw := mm_wg_in (pl := 1029) (by decide +kernel)
theorem mm_cpy_s : Cond.static arraycopyName ∈ mm_gw := mm_wg_in (pl := 5136) (by decide +kernel)
theorem mm_cpy_n : Cond.native arraycopyName ∈ mm_gw := mm_wg_in (pl := 5137) (by decide +kernel)
theorem mm_cpy_y : Cond.initialized "java/lang/System" ∈ mm_gw := mm_wg_in (pl := 1020) (by decide +kernel)
theorem mm_ac_int : Cond.arrayClass .int ∈ mm_gw := mm_wg_in (pl := 1052) (by decide +kernel)
theorem mm_ac_long : Cond.arrayClass .long ∈ mm_gw := mm_wg_in (pl := 1053) (by decide +kernel)
theorem mm_ac_byte : Cond.arrayClass .byte ∈ mm_gw := mm_wg_in (pl := 5138) (by decide +kernel)
theorem mm_ac_char : Cond.arrayClass .char ∈ mm_gw := mm_wg_in (pl := 6222) (by decide +kernel)
theorem mm_ac_boolean : Cond.arrayClass .boolean ∈ mm_gw := mm_wg_in (pl := 6223) (by decide +kernel)
theorem mm_max_s : Cond.static Lib.Math.max.name ∈ mm_gw := mm_wg_in (pl := 3028) (by decide +kernel)
theorem mm_max_c : Cond.code Lib.Math.max.name Lib.Math.max.code 2 (some .int) ∈ mm_gw := mm_wg_in (pl := 3029) (by decide +kernel)
theorem mm_min_s : Cond.static Lib.Math.min.name ∈ mm_gw := mm_wg_in (pl := 3035) (by decide +kernel)
theorem mm_min_c : Cond.code Lib.Math.min.name Lib.Math.min.code 2 (some .int) ∈ mm_gw := mm_wg_in (pl := 3036) (by decide +kernel)
theorem mm_math_y : Cond.initialized "java/lang/Math" ∈ mm_gw := mm_wg_in (pl := 1014) (by decide +kernel)
end
section
/-! ===== printed by wip/gen_names.py: the classes' fields ===== -/
theorem mm_fw_0 : ∀ w ∈ u_ws RX0 TX0 3, w ∈ mm_gw := by
  have h : (List.range 3).all (fun k => mm_wg ([2139, 2141, 2143].getD k 0) (u_lay RX0 TX0 k)) = true := by decide +kernel
  intro w hw
  obtain ⟨k, hk, rfl⟩ := List.mem_map.mp hw
  exact mm_wg_in (List.all_eq_true.mp h k hk)
theorem mm_fw_1 : ∀ w ∈ u_ws RX1 TX1 9, w ∈ mm_gw := by
  have h : (List.range 9).all (fun k => mm_wg ([1077, 1079, 1081, 1083, 1085, 1087, 1089, 1091, 1093].getD k 0) (u_lay RX1 TX1 k)) = true := by decide +kernel
  intro w hw
  obtain ⟨k, hk, rfl⟩ := List.mem_map.mp hw
  exact mm_wg_in (List.all_eq_true.mp h k hk)
theorem mm_fw_2 : ∀ w ∈ u_ws RX2 TX2 6, w ∈ mm_gw := by
  have h : (List.range 6).all (fun k => mm_wg ([2117, 2119, 2121, 2123, 2125, 2127].getD k 0) (u_lay RX2 TX2 k)) = true := by decide +kernel
  intro w hw
  obtain ⟨k, hk, rfl⟩ := List.mem_map.mp hw
  exact mm_wg_in (List.all_eq_true.mp h k hk)
theorem mm_fw_3 : ∀ w ∈ u_ws RX3 TX3 7, w ∈ mm_gw := by
  have h : (List.range 7).all (fun k => mm_wg ([1165, 1167, 1169, 1171, 1173, 1175, 1177].getD k 0) (u_lay RX3 TX3 k)) = true := by decide +kernel
  intro w hw
  obtain ⟨k, hk, rfl⟩ := List.mem_map.mp hw
  exact mm_wg_in (List.all_eq_true.mp h k hk)
theorem mm_fw_4 : ∀ w ∈ u_ws RX4 TX4 7, w ∈ mm_gw := by
  have h : (List.range 7).all (fun k => mm_wg ([1124, 1126, 1128, 1130, 1132, 1134, 1136].getD k 0) (u_lay RX4 TX4 k)) = true := by decide +kernel
  intro w hw
  obtain ⟨k, hk, rfl⟩ := List.mem_map.mp hw
  exact mm_wg_in (List.all_eq_true.mp h k hk)
theorem mm_fw_5 : ∀ w ∈ u_ws RX5 TX5 8, w ∈ mm_gw := by
  have h : (List.range 8).all (fun k => mm_wg ([1209, 1211, 1213, 1215, 1217, 1219, 1221, 1223].getD k 0) (u_lay RX5 TX5 k)) = true := by decide +kernel
  intro w hw
  obtain ⟨k, hk, rfl⟩ := List.mem_map.mp hw
  exact mm_wg_in (List.all_eq_true.mp h k hk)
theorem mm_fw_6 : ∀ w ∈ u_ws RX6 TX6 3, w ∈ mm_gw := by
  have h : (List.range 3).all (fun k => mm_wg ([1045, 1047, 1049].getD k 0) (u_lay RX6 TX6 k)) = true := by decide +kernel
  intro w hw
  obtain ⟨k, hk, rfl⟩ := List.mem_map.mp hw
  exact mm_wg_in (List.all_eq_true.mp h k hk)
theorem mm_fw_7 : ∀ w ∈ u_ws RX7 TX7 3, w ∈ mm_gw := by
  have h : (List.range 3).all (fun k => mm_wg ([2064, 2066, 2068].getD k 0) (u_lay RX7 TX7 k)) = true := by decide +kernel
  intro w hw
  obtain ⟨k, hk, rfl⟩ := List.mem_map.mp hw
  exact mm_wg_in (List.all_eq_true.mp h k hk)
theorem mm_fw_8 : ∀ w ∈ u_ws RX8 TX8 7, w ∈ mm_gw := by
  have h : (List.range 7).all (fun k => mm_wg ([2087, 2089, 2091, 2093, 2095, 2097, 2099].getD k 0) (u_lay RX8 TX8 k)) = true := by decide +kernel
  intro w hw
  obtain ⟨k, hk, rfl⟩ := List.mem_map.mp hw
  exact mm_wg_in (List.all_eq_true.mp h k hk)
theorem mm_fw_9 : ∀ w ∈ u_ws RX9 TX9 4, w ∈ mm_gw := by
  have h : (List.range 4).all (fun k => mm_wg ([1237, 1239, 2001, 2003].getD k 0) (u_lay RX9 TX9 k)) = true := by decide +kernel
  intro w hw
  obtain ⟨k, hk, rfl⟩ := List.mem_map.mp hw
  exact mm_wg_in (List.all_eq_true.mp h k hk)
theorem mm_fw_10 : ∀ w ∈ u_ws RX10 TX10 12, w ∈ mm_gw := by
  have h : (List.range 12).all (fun k => mm_wg ([2026, 2028, 2030, 2032, 2034, 2036, 2038, 2040, 2042, 2044, 2046, 2048].getD k 0) (u_lay RX10 TX10 k)) = true := by decide +kernel
  intro w hw
  obtain ⟨k, hk, rfl⟩ := List.mem_map.mp hw
  exact mm_wg_in (List.all_eq_true.mp h k hk)
theorem mm_fw_11 : ∀ w ∈ u_ws RX11 TX11 8, w ∈ mm_gw := by
  have h : (List.range 8).all (fun k => mm_wg ([2154, 2156, 2158, 2160, 2162, 2164, 2166, 2168].getD k 0) (u_lay RX11 TX11 k)) = true := by decide +kernel
  intro w hw
  obtain ⟨k, hk, rfl⟩ := List.mem_map.mp hw
  exact mm_wg_in (List.all_eq_true.mp h k hk)
theorem mm_fw_12 : ∀ w ∈ u_ws RX12 TX12 26, w ∈ mm_gw := by
  have h : (List.range 26).all (fun k => mm_wg ([6169, 6171, 6173, 6175, 6177, 6179, 6181, 6183, 6185, 6187, 6189, 6191, 6193, 6195, 6197, 6199, 6201, 6203, 6205, 6207, 6209, 6211, 6213, 6215, 6217, 6219].getD k 0) (u_lay RX12 TX12 k)) = true := by decide +kernel
  intro w hw
  obtain ⟨k, hk, rfl⟩ := List.mem_map.mp hw
  exact mm_wg_in (List.all_eq_true.mp h k hk)
theorem mm_cls : ∀ (ci : Nat) (r : vw_C), vwCl[ci]? = some r → (∀ w ∈ u_ws r.1 r.2.1 r.2.2, w ∈ mm_gw) ∧ (∀ k, k < r.2.2 → parseFieldDescriptor (r.2.1 k).2.2.1 = some (mm_ty ci k)) ∧ (∀ a, a < r.2.2 → ∀ b, b < r.2.2 → a ≠ b → (r.2.1 a).2.1 ≠ (r.2.1 b).2.1) := by
  intro ci r h
  match ci, h with
  | 0, h => cases h; exact ⟨mm_fw_0, tyX0_ok, nmX0⟩
  | 1, h => cases h; exact ⟨mm_fw_1, tyX1_ok, nmX1⟩
  | 2, h => cases h; exact ⟨mm_fw_2, tyX2_ok, nmX2⟩
  | 3, h => cases h; exact ⟨mm_fw_3, tyX3_ok, nmX3⟩
  | 4, h => cases h; exact ⟨mm_fw_4, tyX4_ok, nmX4⟩
  | 5, h => cases h; exact ⟨mm_fw_5, tyX5_ok, nmX5⟩
  | 6, h => cases h; exact ⟨mm_fw_6, tyX6_ok, nmX6⟩
  | 7, h => cases h; exact ⟨mm_fw_7, tyX7_ok, nmX7⟩
  | 8, h => cases h; exact ⟨mm_fw_8, tyX8_ok, nmX8⟩
  | 9, h => cases h; exact ⟨mm_fw_9, tyX9_ok, nmX9⟩
  | 10, h => cases h; exact ⟨mm_fw_10, tyX10_ok, nmX10⟩
  | 11, h => cases h; exact ⟨mm_fw_11, tyX11_ok, nmX11⟩
  | 12, h => cases h; exact ⟨mm_fw_12, tyX12_ok, nmX12⟩
  | ci + 13, h => simp [vwCl] at h
/-- what a method may make: cells, slots -/
def mm_bud (y : Nat) : Nat × Nat := match y with
  | 0 => (156, 3430)
  | 1 => (66, 1444)
  | 2 => (3, 108)
  | 3 => (6, 184)
  | 7 => (2, 163)
  | 8 => (1, 20)
  | 9 => (4, 327)
  | 10 => (4, 46)
  | 11 => (2, 33)
  | 218 => (17, 11365)
  | _ => (0, 0)
end
section
/-! ===== the small machine's context, and its rows on cells ===== -/
def mm_nest : Cond → Bool
  | .fieldLinkNest _ _ _ _ _ _ => true
  | .methodLinkNest _ _ _ _ => true
  | _ => false
def mm_Ctx (D : va_G) (U : State) : Prop := va_K D vwCl [] U ∧ (∀ w ∈ lw_tbl, mm_nest w = true → va_Nw w U) ∧ ∀ C : String, Cond.arrayOver (.object C) ∈ lw_tbl → va_AO C U
theorem mm_Ctx_warm {D : va_G} {s U : State} (hW : s.WarmedH U.vm) (h : mm_Ctx D s) : mm_Ctx D U := by
  refine ⟨va_K.moved hW.alike h.1, fun w hw hn => ?_, fun C hC => (h.2.2 C hC).moved hW.alike⟩
  have h1 := h.2.1 w hw hn
  unfold mm_nest at hn
  split at hn
  · exact h1.warmF hW
  · exact h1.warmM hW
  · cases hn
def mm_Fx (p : Program) (s : State) (m : MethodId) (args : Array Value) (meth : Method) (c : Code) (φ : Nat → Nat) (kx bs : Nat) (D : va_G) (o : Nat) (own : String) (nL : Nat) (ini : Bool) (cc : ByteArray) : Prop :=
  p.tables.exec = Jvm.exec ∧ c.code = cc ∧ c.maxLocals = nL ∧ s.vm.findClass own = some m.cls ∧ mm_cns[o]? = some own ∧ (∀ w ∈ mm_gw, w.before args s = true) ∧ mm_Ctx D s ∧ mm_ph φ kx bs ∧ bs ≤ s.heap.size ∧ (ini = true → meth.name = "<init>")
abbrev mm_S : Type := Nat × List (Nat × Value) × List Value × List mm_C × Nat × Nat
def mm_Go (p : Program) (l : Launch) (e : Env) (R : Room) (s : State) (m : MethodId) (args : Array Value) (below : List Frame) (meth : Method) (c : Code) (φ : Nat → Nat) (kx bs : Nat) (D : va_G) (zs : List mm_Zt) (nL : Nat) (Q : State → Prop) (σ : mm_S) : Prop :=
  ∀ (H : Heap) (locs : List Loc) (ls : Array Slot) (cells slots : Nat), mm_R φ kx bs D vwCl zs s σ.2.2.2.1 H → va_S (mm_B bs) s.heap H locs → lv_has ls nL (mm_sl φ σ.2.1) → cells + σ.2.2.2.2.1 = R.cells → slots + σ.2.2.2.2.2 = R.slots →
    W p l e R s m args below meth c H locs cells slots Q (F0 m σ.1 ls (σ.2.2.1.map (mm_sh φ)))
def mm_look (o idx : Nat) : Option mm_Pe := (mm_pool o).find? (fun e => e.1 == idx)
theorem mm_look_ok {o idx : Nat} {e : mm_Pe} (h : mm_look o idx = some e) : e.1 = idx ∧ mm_pchk o e = true := by
  refine ⟨?_, mm_pool_ok o e (List.mem_of_find?_eq_some h)⟩
  have := List.find?_some h
  simpa using this
theorem mm_ph_ge {φ : Nat → Nat} {kx bs i : Nat} (h : mm_ph φ kx bs) (hi : kx ≤ i) : mm_B bs (φ i) := by
  show bs ≤ φ i
  rw [h.2 i hi]
  exact Nat.le_add_right _ _
theorem mm_pchk_own {o : Nat} {own : String} {e : mm_Pe} (ho : mm_cns[o]? = some own) (h : mm_pchk o e = true) : (match e.2.1 with
    | 0 => match vwCl[e.2.2.1]? with
      | some r => decide (e.2.2.2.1 < r.2.2) && mm_wg e.2.2.2.2.2 (.fieldLink own e.1 (r.2.1 e.2.2.2.1).1 (r.2.1 e.2.2.2.1).2.1 (r.2.1 e.2.2.2.1).2.2.1)
      | none => false
    | 1 => match vwCl[e.2.2.1]? with
      | some r => decide (e.2.2.2.1 < r.2.2) && mm_wd e.2.2.2.2.2 (.fieldLinkNest own e.1 (r.2.1 e.2.2.2.1).1 (r.2.1 e.2.2.2.1).2.1 (r.2.1 e.2.2.2.1).2.2.1 "RaftTown")
      | none => false
    | 2 => match mm_mths[e.2.2.1]? with
      | some t => mm_wg e.2.2.2.2.2 (.methodLink own e.1 t.2.1)
      | none => false
    | 3 => match mm_mths[e.2.2.1]? with
      | some t => mm_wd e.2.2.2.2.2 (.methodLinkNest own e.1 t.2.1 "RaftTown")
      | none => false
    | 4 => match vwCl[e.2.2.1]? with
      | some r => mm_wg e.2.2.2.2.2 (.classLink own e.1 r.1) && mm_wg e.2.2.2.1 (.instantiable r.1 r.2.2) && mm_wg e.2.2.2.2.1.toNat (.initialized r.1)
      | none => false
    | 6 => mm_wg e.2.2.2.2.2 (.constant own e.1 (Int32.ofInt e.2.2.2.2.1))
    | 7 => mm_wg e.2.2.2.2.2 (.constantLong own e.1 (Int64.ofInt e.2.2.2.2.1))
    | 8 => mm_wg e.2.2.2.2.2 (.methodLink own e.1 Lib.objectInit)
    | 9 => mm_wg e.2.2.2.2.2 (.methodLink own e.1 arraycopyName)
    | 13 => mm_wg e.2.2.2.2.2 (.methodLink own e.1 Lib.Math.max.name)
    | 14 => mm_wg e.2.2.2.2.2 (.methodLink own e.1 Lib.Math.min.name)
    | 10 => match mm_sts[e.2.2.1]? with
      | some z => mm_wg e.2.2.2.2.2 (.fieldLink own e.1 z.1 z.2.1 z.2.2)
      | none => false
    | 11 => match mm_sts[e.2.2.1]? with
      | some z => mm_wd e.2.2.2.2.2 (.fieldLinkNest own e.1 z.1 z.2.1 z.2.2 "RaftTown")
      | none => false
    | _ => false) = true := by
  unfold mm_pchk at h
  rw [ho] at h
  exact h
theorem mm_p0 {o idx a b pl : Nat} {z : Int} {own : String} (ho : mm_cns[o]? = some own) (h : mm_look o idx = some (idx, 0, a, b, z, pl)) : ∃ r, vwCl[a]? = some r ∧ b < r.2.2 ∧ Cond.fieldLink own idx (r.2.1 b).1 (r.2.1 b).2.1 (r.2.1 b).2.2.1 ∈ mm_gw := by
  have h1 : (match vwCl[a]? with
      | some r => decide (b < r.2.2) && mm_wg pl (.fieldLink own idx (r.2.1 b).1 (r.2.1 b).2.1 (r.2.1 b).2.2.1)
      | none => false) = true := mm_pchk_own ho (mm_look_ok h).2
  split at h1
  · next r hr =>
    simp only [Bool.and_eq_true, decide_eq_true_eq] at h1
    exact ⟨r, hr, h1.1, mm_wg_in h1.2⟩
  · cases h1
theorem mm_p1 {o idx a b pl : Nat} {z : Int} {own : String} (ho : mm_cns[o]? = some own) (h : mm_look o idx = some (idx, 1, a, b, z, pl)) : ∃ r, vwCl[a]? = some r ∧ b < r.2.2 ∧ Cond.fieldLinkNest own idx (r.2.1 b).1 (r.2.1 b).2.1 (r.2.1 b).2.2.1 "RaftTown" ∈ lw_tbl := by
  have h1 : (match vwCl[a]? with
      | some r => decide (b < r.2.2) && mm_wd pl (.fieldLinkNest own idx (r.2.1 b).1 (r.2.1 b).2.1 (r.2.1 b).2.2.1 "RaftTown")
      | none => false) = true := mm_pchk_own ho (mm_look_ok h).2
  split at h1
  · next r hr =>
    simp only [Bool.and_eq_true, decide_eq_true_eq] at h1
    exact ⟨r, hr, h1.1, mm_wd_in h1.2⟩
  · cases h1
theorem mm_p4 {o idx a b pl : Nat} {z : Int} {own : String} (ho : mm_cns[o]? = some own) (h : mm_look o idx = some (idx, 4, a, b, z, pl)) : ∃ r, vwCl[a]? = some r ∧ Cond.classLink own idx r.1 ∈ mm_gw ∧ Cond.instantiable r.1 r.2.2 ∈ mm_gw ∧ Cond.initialized r.1 ∈ mm_gw := by
  have h1 : (match vwCl[a]? with
      | some r => mm_wg pl (.classLink own idx r.1) && mm_wg b (.instantiable r.1 r.2.2) && mm_wg z.toNat (.initialized r.1)
      | none => false) = true := mm_pchk_own ho (mm_look_ok h).2
  split at h1
  · next r hr =>
    simp only [Bool.and_eq_true] at h1
    exact ⟨r, hr, mm_wg_in h1.1.1, mm_wg_in h1.1.2, mm_wg_in h1.2⟩
  · cases h1
theorem mm_p10 {o idx a b pl : Nat} {z : Int} {own : String} (ho : mm_cns[o]? = some own) (h : mm_look o idx = some (idx, 10, a, b, z, pl)) : ∃ r, mm_sts[a]? = some r ∧ Cond.fieldLink own idx r.1 r.2.1 r.2.2 ∈ mm_gw := by
  have h1 : (match mm_sts[a]? with
      | some z => mm_wg pl (.fieldLink own idx z.1 z.2.1 z.2.2)
      | none => false) = true := mm_pchk_own ho (mm_look_ok h).2
  split at h1
  · next r hr => exact ⟨r, hr, mm_wg_in h1⟩
  · cases h1
theorem mm_p11 {o idx a b pl : Nat} {z : Int} {own : String} (ho : mm_cns[o]? = some own) (h : mm_look o idx = some (idx, 11, a, b, z, pl)) : ∃ r, mm_sts[a]? = some r ∧ Cond.fieldLinkNest own idx r.1 r.2.1 r.2.2 "RaftTown" ∈ lw_tbl := by
  have h1 : (match mm_sts[a]? with
      | some z => mm_wd pl (.fieldLinkNest own idx z.1 z.2.1 z.2.2 "RaftTown")
      | none => false) = true := mm_pchk_own ho (mm_look_ok h).2
  split at h1
  · next r hr => exact ⟨r, hr, mm_wd_in h1⟩
  · cases h1
theorem mm_p2 {o idx a b pl : Nat} {z : Int} {own : String} (ho : mm_cns[o]? = some own) (h : mm_look o idx = some (idx, 2, a, b, z, pl)) : ∃ t, mm_mths[a]? = some t ∧ Cond.methodLink own idx t.2.1 ∈ mm_gw := by
  have h1 : (match mm_mths[a]? with
      | some t => mm_wg pl (.methodLink own idx t.2.1)
      | none => false) = true := mm_pchk_own ho (mm_look_ok h).2
  split at h1
  · next r hr => exact ⟨r, hr, mm_wg_in h1⟩
  · cases h1
theorem mm_p3 {o idx a b pl : Nat} {z : Int} {own : String} (ho : mm_cns[o]? = some own) (h : mm_look o idx = some (idx, 3, a, b, z, pl)) : ∃ t, mm_mths[a]? = some t ∧ Cond.methodLinkNest own idx t.2.1 "RaftTown" ∈ lw_tbl := by
  have h1 : (match mm_mths[a]? with
      | some t => mm_wd pl (.methodLinkNest own idx t.2.1 "RaftTown")
      | none => false) = true := mm_pchk_own ho (mm_look_ok h).2
  split at h1
  · next r hr => exact ⟨r, hr, mm_wd_in h1⟩
  · cases h1
theorem mm_p6 {o idx a b pl : Nat} {z : Int} {own : String} (ho : mm_cns[o]? = some own) (h : mm_look o idx = some (idx, 6, a, b, z, pl)) : Cond.constant own idx (Int32.ofInt z) ∈ mm_gw := mm_wg_in (mm_pchk_own ho (mm_look_ok h).2)
theorem mm_p7 {o idx a b pl : Nat} {z : Int} {own : String} (ho : mm_cns[o]? = some own) (h : mm_look o idx = some (idx, 7, a, b, z, pl)) : Cond.constantLong own idx (Int64.ofInt z) ∈ mm_gw := mm_wg_in (mm_pchk_own ho (mm_look_ok h).2)
theorem mm_p8 {o idx a b pl : Nat} {z : Int} {own : String} (ho : mm_cns[o]? = some own) (h : mm_look o idx = some (idx, 8, a, b, z, pl)) : Cond.methodLink own idx Lib.objectInit ∈ mm_gw := mm_wg_in (mm_pchk_own ho (mm_look_ok h).2)
theorem mm_p9 {o idx a b pl : Nat} {z : Int} {own : String} (ho : mm_cns[o]? = some own) (h : mm_look o idx = some (idx, 9, a, b, z, pl)) : Cond.methodLink own idx arraycopyName ∈ mm_gw := mm_wg_in (mm_pchk_own ho (mm_look_ok h).2)
theorem mm_p13 {o idx a b pl : Nat} {z : Int} {own : String} (ho : mm_cns[o]? = some own) (h : mm_look o idx = some (idx, 13, a, b, z, pl)) : Cond.methodLink own idx Lib.Math.max.name ∈ mm_gw := mm_wg_in (mm_pchk_own ho (mm_look_ok h).2)
theorem mm_p14 {o idx a b pl : Nat} {z : Int} {own : String} (ho : mm_cns[o]? = some own) (h : mm_look o idx = some (idx, 14, a, b, z, pl)) : Cond.methodLink own idx Lib.Math.min.name ∈ mm_gw := mm_wg_in (mm_pchk_own ho (mm_look_ok h).2)
end
section
/-! ===== the small machine's steps on cells ===== -/
section MM
variable {p : Program} {l : Launch} {e : Env} {R : Room} {s : State} {m : MethodId} {args : Array Value} {below : List Frame} {meth : Method} {c : Code} {Q : State → Prop} {H : Heap} {locs : List Loc} {cells slots : Nat}
variable {φ : Nat → Nat} {kx bs : Nat} {D : va_G} {zs : List mm_Zt} {cc : ByteArray} {o nL : Nat} {own : String} {ini : Bool} {mem : List mm_C} {pc : Nat} {ls : Array Slot} {rest : List Value}
theorem mm_P1c {i ci : Nat} {fs : List Value} (hR : mm_R φ kx bs D vwCl zs s mem H) (hi : mem[i]? = some (.inr (ci, fs))) : va_P D vwCl [(φ i, .inr (ci, fs.map (mm_sh φ)))] H := by
  intro k q hq
  have hz : k < 1 := (List.getElem?_eq_some_iff.mp hq).1
  rw [show k = 0 by omega] at hq
  cases hq
  obtain ⟨r, h1, -, h3⟩ := hR.2.2.1 i _ hi
  exact ⟨r, h1, h3⟩
theorem mm_getf (F : mm_Fx p s m args meth c φ kx bs D o own nL ini cc) (hR : mm_R φ kx bs D vwCl zs s mem H) {i ci k idx : Nat} {fs : List Value} {v : Value} {r : vw_C} (hi : mem[i]? = some (.inr (ci, fs))) (hr : vwCl[ci]? = some r) (hk : k < r.2.2) (hv : fs[k]? = some v) (hl : Cond.fieldLink own idx (r.2.1 k).1 (r.2.1 k).2.1 (r.2.1 k).2.2.1 ∈ mm_gw) (hdg : decode cc pc = .ok (.getfield idx, 3))
    (kk : W p l e R s m args below meth c H locs cells slots Q (F0 m (pc + 3) ls (mm_sh φ v :: rest))) : W p l e R s m args below meth c H locs cells slots Q (F0 m pc ls (.ref (φ i) :: rest)) := by
  obtain ⟨hx, hb, -, hown, -, hts, hctx, -⟩ := F
  exact va_get hx hb hts (mm_cls ci r hr).1 hown hctx.1 (mm_P1c hR hi) 0 rfl hr k hk (hts _ hl) (fun _ h => h) (by rw [List.getElem?_map, hv]; rfl) hdg kk
theorem mm_getN (F : mm_Fx p s m args meth c φ kx bs D o own nL ini cc) (hR : mm_R φ kx bs D vwCl zs s mem H) {i ci k idx : Nat} {fs : List Value} {v : Value} {r : vw_C} (hi : mem[i]? = some (.inr (ci, fs))) (hr : vwCl[ci]? = some r) (hk : k < r.2.2) (hv : fs[k]? = some v) (hl : Cond.fieldLinkNest own idx (r.2.1 k).1 (r.2.1 k).2.1 (r.2.1 k).2.2.1 "RaftTown" ∈ lw_tbl) (hdg : decode cc pc = .ok (.getfield idx, 3))
    (kk : W p l e R s m args below meth c H locs cells slots Q (F0 m (pc + 3) ls (mm_sh φ v :: rest))) : W p l e R s m args below meth c H locs cells slots Q (F0 m pc ls (.ref (φ i) :: rest)) := by
  obtain ⟨hx, hb, -, hown, -, hts, hctx, -⟩ := F
  exact va_getN hx hb hts (mm_cls ci r hr).1 hown hctx.1 (mm_P1c hR hi) 0 rfl hr k hk (va_Nw.use rfl (hctx.2.1 _ hl rfl)) (fun _ h => h) (by rw [List.getElem?_map, hv]; rfl) hdg kk
/-- a field of a cell of ours is another now -/
theorem mm_put_end (F : mm_Fx p s m args meth c φ kx bs D o own nL ini cc) (hR : mm_R φ kx bs D vwCl zs s mem H) (hS : va_S (mm_B bs) s.heap H locs) {i ci k : Nat} {fs : List Value} {v : Value} {r : vw_C} (hki : kx ≤ i) (hi : mem[i]? = some (.inr (ci, fs))) (hr : vwCl[ci]? = some r) (hk : k < r.2.2) {cell : Cell} (q2 : cell.cls = D.1 ci) (q3 : cell.vm = .none) (q4 : ∀ k, k < r.2.2 → cell.slots[D.2 ci k]? = some (vp_V (fs.map (mm_sh φ)) k)) {H' : Heap}
    (e1 : H'[φ i]? = some (cell.setSlot (D.2 ci k) (mm_sh φ v))) (e2 : H'.size = H.size) (e3 : ∀ q : Nat, q ≠ φ i → H'[q]? = H[q]?) (j : Nat) : mm_R φ kx bs D vwCl zs s (mem.set i (.inr (ci, fs.set k v))) H' ∧ va_S (mm_B bs) s.heap H' (locs ++ [⟨φ i, j⟩]) := by
  obtain ⟨hx, hb, -, hown, -, hts, hctx, hph, -⟩ := F
  obtain ⟨r', h1, hlen, -⟩ := hR.2.2.1 i _ hi
  have hrr : r' = r := Option.some.inj (h1.symm.trans hr)
  subst hrr
  have hap := va_apart (own := own) hts (mm_cls ci r' hr).1 (mm_ty ci) (mm_cls ci r' hr).2.1 (mm_cls ci r' hr).2.2 hctx.1 hr
  refine ⟨mm_R_set hph hR hki ⟨r', hr, by simpa using hlen, ?_⟩ e2 e3, hS.put e2 e3 (mm_ph_ge hph hki)⟩
  refine t_OB.to (V := updV (vp_V (fs.map (mm_sh φ))) k (mm_sh φ v)) ⟨_, e1, q2, q3, t_set q4 hap hk _⟩ (fun j _ => ?_)
  rw [vp_updV_set (by rw [List.length_map]; show k < fs.length; rw [show fs.length = r'.2.2 from hlen]; exact hk) _ j, List.map_set]
theorem mm_putf (F : mm_Fx p s m args meth c φ kx bs D o own nL ini cc) (hR : mm_R φ kx bs D vwCl zs s mem H) (hS : va_S (mm_B bs) s.heap H locs) {i ci k idx : Nat} {fs : List Value} {v : Value} {r : vw_C} (hki : kx ≤ i) (hi : mem[i]? = some (.inr (ci, fs))) (hr : vwCl[ci]? = some r) (hk : k < r.2.2) (hfin : (r.2.1 k).2.2.2 = false) (hn : narrow (mm_ty ci k) (mm_sh φ v) = mm_sh φ v) (hfit : fits (mm_ty ci k) (mm_sh φ v) = true) (hl : Cond.fieldLink own idx (r.2.1 k).1 (r.2.1 k).2.1 (r.2.1 k).2.2.1 ∈ mm_gw) (hdg : decode cc pc = .ok (.putfield idx, 3))
    (kk : ∀ (H1 : Heap) (locs1 : List Loc), mm_R φ kx bs D vwCl zs s (mem.set i (.inr (ci, fs.set k v))) H1 → va_S (mm_B bs) s.heap H1 locs1 → W p l e R s m args below meth c H1 locs1 cells slots Q (F0 m (pc + 3) ls rest)) : W p l e R s m args below meth c H locs cells slots Q (F0 m pc ls (mm_sh φ v :: .ref (φ i) :: rest)) := by
  obtain ⟨hx, hb, -, hown, -, hts, hctx, hph, -⟩ := id F
  obtain ⟨r', h1, hlen, cell, q1, q2, q3, q4⟩ := hR.2.2.1 i _ hi
  have hrr : r' = r := Option.some.inj (h1.symm.trans hr)
  subst hrr
  obtain ⟨hSl, hfc, kC, hkC, hkind⟩ := hctx.1.1 ci _ hr
  obtain ⟨cf, kf, fi, f, hif, hsl⟩ := hSl k hk
  have hin := (mm_cls ci r' hr).1
  have hlay := hts _ (hin _ (u_in_lay hk))
  unfold u_lay at hlay
  rw [if_neg (by rw [hfin]; decide)] at hlay
  have hst := (u_facts hfc hkC (u_lays hts hin hk) hif).1
  have h6 := u_store hfc hkC hkind hlay hif ((mm_cls ci r' hr).2.1 k hk) hn hfit
  refine W.putK hx hb (f := f) ⟨hown, hts _ hl, ⟨_, _, _, hif⟩, hst⟩ (by rw [q2]; exact h6) q1 q3 (by rw [hsl]; exact k2_hasslot (q4 k hk)) rfl rfl hdg fun H' e1 e2 e3 => ?_
  rw [hsl] at e1
  obtain ⟨a1, a2⟩ := mm_put_end F hR hS hki hi hr hk q2 q3 q4 e1 e2 e3 f.slot
  exact kk H' _ a1 a2
theorem mm_putN (F : mm_Fx p s m args meth c φ kx bs D o own nL ini cc) (hR : mm_R φ kx bs D vwCl zs s mem H) (hS : va_S (mm_B bs) s.heap H locs) {i ci k idx : Nat} {fs : List Value} {v : Value} {r : vw_C} (hki : kx ≤ i) (hi : mem[i]? = some (.inr (ci, fs))) (hr : vwCl[ci]? = some r) (hk : k < r.2.2) (hfin : (r.2.1 k).2.2.2 = false) (hn : narrow (mm_ty ci k) (mm_sh φ v) = mm_sh φ v) (hfit : fits (mm_ty ci k) (mm_sh φ v) = true) (hl : Cond.fieldLinkNest own idx (r.2.1 k).1 (r.2.1 k).2.1 (r.2.1 k).2.2.1 "RaftTown" ∈ lw_tbl) (hdg : decode cc pc = .ok (.putfield idx, 3))
    (kk : ∀ (H1 : Heap) (locs1 : List Loc), mm_R φ kx bs D vwCl zs s (mem.set i (.inr (ci, fs.set k v))) H1 → va_S (mm_B bs) s.heap H1 locs1 → W p l e R s m args below meth c H1 locs1 cells slots Q (F0 m (pc + 3) ls rest)) : W p l e R s m args below meth c H locs cells slots Q (F0 m pc ls (mm_sh φ v :: .ref (φ i) :: rest)) := by
  obtain ⟨hx, hb, -, hown, -, hts, hctx, hph, -⟩ := id F
  obtain ⟨r', h1, hlen, cell, q1, q2, q3, q4⟩ := hR.2.2.1 i _ hi
  have hrr : r' = r := Option.some.inj (h1.symm.trans hr)
  subst hrr
  obtain ⟨hSl, hfc, kC, hkC, hkind⟩ := hctx.1.1 ci _ hr
  obtain ⟨cf, kf, fi, f, hif, hsl⟩ := hSl k hk
  have hin := (mm_cls ci r' hr).1
  have hlay := hts _ (hin _ (u_in_lay hk))
  unfold u_lay at hlay
  rw [if_neg (by rw [hfin]; decide)] at hlay
  have hst := (u_facts hfc hkC (u_lays hts hin hk) hif).1
  have h6 := u_store hfc hkC hkind hlay hif ((mm_cls ci r' hr).2.1 k hk) hn hfit
  refine va_WputK hx hb (f := f) hown (va_Nw.use rfl (hctx.2.1 _ hl rfl)) hif hst (by rw [q2]; exact h6) q1 q3 (by rw [hsl]; exact k2_hasslot (q4 k hk)) rfl rfl hdg fun H' e1 e2 e3 => ?_
  rw [hsl] at e1
  obtain ⟨a1, a2⟩ := mm_put_end F hR hS hki hi hr hk q2 q3 q4 e1 e2 e3 f.slot
  exact kk H' _ a1 a2
theorem mm_putF (F : mm_Fx p s m args meth c φ kx bs D o own nL true cc) (hR : mm_R φ kx bs D vwCl zs s mem H) (hS : va_S (mm_B bs) s.heap H locs) {i ci k idx : Nat} {fs : List Value} {v : Value} {r : vw_C} (hki : kx ≤ i) (hi : mem[i]? = some (.inr (ci, fs))) (hr : vwCl[ci]? = some r) (hk : k < r.2.2) (hfin : (r.2.1 k).2.2.2 = true) (hdecl : (r.2.1 k).1 = own) (hn : narrow (mm_ty ci k) (mm_sh φ v) = mm_sh φ v) (hfit : fits (mm_ty ci k) (mm_sh φ v) = true) (hl : Cond.fieldLink own idx (r.2.1 k).1 (r.2.1 k).2.1 (r.2.1 k).2.2.1 ∈ mm_gw) (hdg : decode cc pc = .ok (.putfield idx, 3))
    (kk : ∀ (H1 : Heap) (locs1 : List Loc), mm_R φ kx bs D vwCl zs s (mem.set i (.inr (ci, fs.set k v))) H1 → va_S (mm_B bs) s.heap H1 locs1 → W p l e R s m args below meth c H1 locs1 cells slots Q (F0 m (pc + 3) ls rest)) : W p l e R s m args below meth c H locs cells slots Q (F0 m pc ls (mm_sh φ v :: .ref (φ i) :: rest)) := by
  obtain ⟨hx, hb, -, hown, -, hts, hctx, hph, -, hini⟩ := id F
  obtain ⟨r', h1, hlen, cell, q1, q2, q3, q4⟩ := hR.2.2.1 i _ hi
  have hrr : r' = r := Option.some.inj (h1.symm.trans hr)
  subst hrr
  obtain ⟨hSl, hfc, kC, hkC, hkind⟩ := hctx.1.1 ci _ hr
  obtain ⟨cf, kf, fi, f, hif, hsl⟩ := hSl k hk
  have hin := (mm_cls ci r' hr).1
  have hlay := hts _ (hin _ (u_in_lay hk))
  unfold u_lay at hlay
  rw [if_pos hfin] at hlay
  have hst := (u_facts hfc hkC (u_lays hts hin hk) hif).1
  have hcf : m.cls = cf := by
    obtain ⟨_, _, c', _, _, _, -, -, hf', -, -, -, hown2, -⟩ := Cond.laysFinal_spec hlay
    have e1 : c' = cf := by have := hif.symm.trans hf'; simp at this; exact this.1.symm
    rw [hdecl] at hown2
    rw [← e1]; exact Option.some.inj (hown.symm.trans hown2)
  have h6 := u_fits hfc hkC hkind (Or.inr hlay) hif ((mm_cls ci r' hr).2.1 k hk) hn hfit
  refine W.putFinK hx hb hown (hts _ hl) hif hst hcf (hini rfl) (by rw [q2]; exact h6) q1 q3 (by rw [hsl]; exact k2_hasslot (q4 k hk)) rfl rfl hdg fun H' e1 e2 e3 => ?_
  rw [hsl] at e1
  obtain ⟨a1, a2⟩ := mm_put_end F hR hS hki hi hr hk q2 q3 q4 e1 e2 e3 f.slot
  exact kk H' _ a1 a2
/-- what an array's cell is -/
theorem mm_arr {i : Nat} {ty : FieldType} {xs : List Value} (hR : mm_R φ kx bs D vwCl zs s mem H) (hi : mem[i]? = some (.inl (ty, xs))) : ∃ cell : Cell, H[φ i]? = some cell ∧ mm_wk φ cell xs ∧ cell.vm ≠ .unknown ∧ s.isArrayOf cell ty ∧ (kx ≤ i → (mm_pl cell ∧ cell.slots = (xs.map (mm_sh φ)).toArray) ∧ va_RA s cell.cls ty) := hR.2.2.1 i _ hi
theorem mm_arr_sz {xs : List Value} {cell : Cell} (h : cell.slots = (xs.map (mm_sh φ)).toArray) : cell.slots.size = xs.length := by rw [h]; simp
theorem mm_arr_rd {xs : List Value} {cell : Cell} (h : mm_wk φ cell xs) {k : Nat} {v : Value} (hv : xs[k]? = some v) : cell.slots[k]? = some (mm_sh φ v) := h.2.2 k v hv
theorem mm_ast_end (hph : mm_ph φ kx bs) (hR : mm_R φ kx bs D vwCl zs s mem H) (hS : va_S (mm_B bs) s.heap H locs) {i k : Nat} {ty : FieldType} {xs : List Value} {v : Value} (hki : kx ≤ i) {cell : Cell} (_h2 : mm_wk φ cell xs) (h3 : cell.vm ≠ .unknown) (h4 : s.isArrayOf cell ty) (h5 : kx ≤ i → (mm_pl cell ∧ cell.slots = (xs.map (mm_sh φ)).toArray) ∧ va_RA s cell.cls ty) {H' : Heap} (e1 : H'[φ i]? = some (cell.setSlot k (mm_sh φ v))) (e2 : H'.size = H.size) (e3 : ∀ q : Nat, q ≠ φ i → H'[q]? = H[q]?) : mm_R φ kx bs D vwCl zs s (mem.set i (.inl (ty, xs.set k v))) H' ∧ va_S (mm_B bs) s.heap H' (locs ++ [⟨φ i, k⟩]) := by
  have hs : (cell.setSlot k (mm_sh φ v)).slots = ((xs.set k v).map (mm_sh φ)).toArray := by
    show cell.slots.setIfInBounds k (mm_sh φ v) = ((xs.set k v).map (mm_sh φ)).toArray
    rw [(h5 hki).1.2, List.map_set]
    simp
  exact ⟨mm_R_set hph hR hki ⟨_, e1, mm_wk_of hs, h3, h4, fun q => ⟨⟨mm_pl_set (h5 q).1.1 _ _, hs⟩, (h5 q).2⟩⟩ e2 e3, hS.put e2 e3 (mm_ph_ge hph hki)⟩
end MM
end
section
/-! ===== steps on cells, as a function of the state ===== -/
theorem mm_nar {φ : Nat → Nat} {ty : FieldType} {v : Value} (h : narrow ty v = v) : narrow ty (mm_sh φ v) = mm_sh φ v := by
  cases v with
  | ref a => cases ty <;> rfl
  | _ => exact h
theorem mm_fit {φ : Nat → Nat} {ty : FieldType} {v : Value} (h : fits ty v = true) : fits ty (mm_sh φ v) = true := by
  cases v with
  | ref a => cases ty <;> first | rfl | exact h
  | _ => exact h
theorem mm_sh_nar (φ : Nat → Nat) (ty : FieldType) (x : Int32) : mm_sh φ (narrow ty (.int x)) = narrow ty (.int x) := by cases ty <;> rfl
theorem mm_sh_def (φ : Nat → Nat) (ty : FieldType) : mm_sh φ (defaultValue ty) = defaultValue ty := by cases ty <;> rfl
def mm_getS (o len idx : Nat) (σ : mm_S) : Option mm_S := match σ with
  | (pc, lv, .ref a :: r, mem, cb, sb) => match mm_look o idx, mem[a]? with
    | some (idx', kd, ci, k, z, pl), some (.inr (ci', fs)) => if len = 3 ∧ idx' = idx ∧ (kd = 0 ∨ kd = 1) ∧ ci' = ci then (fs[k]?).map (fun v => (pc + 3, lv, v :: r, mem, cb, sb)) else none
    | _, _ => none
  | _ => none
def mm_putS (o kx : Nat) (ini : Bool) (len idx : Nat) (σ : mm_S) : Option mm_S := match σ with
  | (pc, lv, v :: .ref a :: r, mem, cb, sb) => match mm_look o idx, mem[a]? with
    | some (idx', kd, ci, k, z, pl), some (.inr (ci', fs)) => match vwCl[ci]? with
      | some q => if len = 3 ∧ idx' = idx ∧ ci' = ci ∧ kx ≤ a ∧ narrow (mm_ty ci k) v = v ∧ fits (mm_ty ci k) v = true ∧ (((kd = 0 ∨ kd = 1) ∧ (q.2.1 k).2.2.2 = false) ∨ (kd = 0 ∧ (q.2.1 k).2.2.2 = true ∧ ini = true ∧ mm_cns[o]? = some (q.2.1 k).1)) then some (pc + 3, lv, r, mem.set a (.inr (ci, fs.set k v)), cb, sb) else none
      | none => none
    | _, _ => none
  | _ => none
def mm_aldS (P : FieldType → Bool) (len : Nat) (σ : mm_S) : Option mm_S := match σ with
  | (pc, lv, .int j :: .ref a :: r, mem, cb, sb) => match mem[a]? with
    | some (.inl (ty, xs)) => if len = 1 ∧ P ty = true ∧ ¬ (j < 0 ∨ xs.length ≤ j.toNatClampNeg) then (xs[j.toNatClampNeg]?).map (fun v => (pc + 1, lv, v :: r, mem, cb, sb)) else none
    | _ => none
  | _ => none
theorem mm_aldS_inv {P : FieldType → Bool} {len : Nat} {σ σ' : mm_S} (h : mm_aldS P len σ = some σ') : len = 1 ∧ ∃ pc lv j a r mem cb sb ty xs v, σ = (pc, lv, .int j :: .ref a :: r, mem, cb, sb) ∧ mem[a]? = some (.inl (ty, xs)) ∧ P ty = true ∧ ¬ (j < 0 ∨ xs.length ≤ j.toNatClampNeg) ∧ xs[j.toNatClampNeg]? = some v ∧ σ' = (pc + 1, lv, v :: r, mem, cb, sb) := by
  unfold mm_aldS at h
  split at h
  · split at h
    · next e1 =>
      split at h
      · next e2 =>
        obtain ⟨v, hv, rfl⟩ := Option.map_eq_some_iff.mp h
        exact ⟨e2.1, _, _, _, _, _, _, _, _, _, _, _, rfl, e1, e2.2.1, e2.2.2, hv, rfl⟩
      · cases h
    · cases h
  · cases h
def mm_astS (ty0 : FieldType) (kx len : Nat) (σ : mm_S) : Option mm_S := match σ with
  | (pc, lv, .int x :: .int j :: .ref a :: r, mem, cb, sb) => match mem[a]? with
    | some (.inl (ty, xs)) => if len = 1 ∧ ty = ty0 ∧ kx ≤ a ∧ ¬ (j < 0 ∨ xs.length ≤ j.toNatClampNeg) then some (pc + 1, lv, r, mem.set a (.inl (ty0, xs.set j.toNatClampNeg (narrow ty0 (.int x)))), cb, sb) else none
    | _ => none
  | _ => none
theorem mm_astS_inv {ty0 : FieldType} {kx len : Nat} {σ σ' : mm_S} (h : mm_astS ty0 kx len σ = some σ') : len = 1 ∧ ∃ pc lv x j a r mem cb sb xs, σ = (pc, lv, .int x :: .int j :: .ref a :: r, mem, cb, sb) ∧ mem[a]? = some (.inl (ty0, xs)) ∧ kx ≤ a ∧ ¬ (j < 0 ∨ xs.length ≤ j.toNatClampNeg) ∧ σ' = (pc + 1, lv, r, mem.set a (.inl (ty0, xs.set j.toNatClampNeg (narrow ty0 (.int x)))), cb, sb) := by
  unfold mm_astS at h
  split at h
  · split at h
    · next e1 =>
      split at h
      · next e2 =>
        obtain ⟨rfl, rfl, h3, h4⟩ := e2
        cases h
        exact ⟨rfl, _, _, _, _, _, _, _, _, _, _, rfl, e1, h3, h4, rfl⟩
      · cases h
    · cases h
  · cases h
def mm_astlS (kx len : Nat) (σ : mm_S) : Option mm_S := match σ with
  | (pc, lv, .long x :: .int j :: .ref a :: r, mem, cb, sb) => match mem[a]? with
    | some (.inl (ty, xs)) => if len = 1 ∧ ty = .long ∧ kx ≤ a ∧ ¬ (j < 0 ∨ xs.length ≤ j.toNatClampNeg) then some (pc + 1, lv, r, mem.set a (.inl (ty, xs.set j.toNatClampNeg (.long x))), cb, sb) else none
    | _ => none
  | _ => none
def mm_astaS (kx len : Nat) (σ : mm_S) : Option mm_S := match σ with
  | (pc, lv, .ref b :: .int j :: .ref a :: r, mem, cb, sb) => match mem[a]?, mem[b]? with
    | some (.inl (.object C, xs)), some (.inr (ci, fs)) => match vwCl[ci]? with
      | some q => if len = 1 ∧ q.1 = C ∧ kx ≤ a ∧ ¬ (j < 0 ∨ xs.length ≤ j.toNatClampNeg) then some (pc + 1, lv, r, mem.set a (.inl (.object C, xs.set j.toNatClampNeg (.ref b))), cb, sb) else none
      | none => none
    | _, _ => none
  | _ => none
def mm_bstS (kx len : Nat) (σ : mm_S) : Option mm_S := match σ with
  | (_, _, .int _ :: .int _ :: .ref a :: _, mem, _, _) => match mem[a]? with
    | some (.inl (.byte, _)) => mm_astS .byte kx len σ
    | some (.inl (.boolean, _)) => mm_astS .boolean kx len σ
    | _ => none
  | _ => none
def mm_alenS (len : Nat) (σ : mm_S) : Option mm_S := match σ with
  | (pc, lv, .ref a :: r, mem, cb, sb) => match mem[a]? with
    | some (.inl (ty, xs)) => if len = 1 then some (pc + 1, lv, .int (Int32.ofNat xs.length) :: r, mem, cb, sb) else none
    | _ => none
  | _ => none
def mm_ldcS (o k len idx : Nat) (σ : mm_S) : Option mm_S := match σ with
  | (pc, lv, st, mem, cb, sb) => match mm_look o idx with
    | some (idx', 6, a, b, z, pl) => if len = k ∧ idx' = idx then some (pc + k, lv, .int (Int32.ofInt z) :: st, mem, cb, sb) else none
    | _ => none
def mm_ldc2S (o len idx : Nat) (σ : mm_S) : Option mm_S := match σ with
  | (pc, lv, st, mem, cb, sb) => match mm_look o idx with
    | some (idx', 7, a, b, z, pl) => if len = 3 ∧ idx' = idx then some (pc + 3, lv, .long (Int64.ofInt z) :: st, mem, cb, sb) else none
    | _ => none
def mm_getstS (o : Nat) (zs : List mm_Zt) (len idx : Nat) (σ : mm_S) : Option mm_S := match σ with
  | (pc, lv, st, mem, cb, sb) => match mm_look o idx with
    | some (idx', kd, a, b, z, pl) => match mm_sts[a]? with
      | some q => match zs.find? (fun t => decide (t.1 = q.1 ∧ t.2.1 = q.2.1 ∧ t.2.2.1 = q.2.2)) with
        | some t => if len = 3 ∧ idx' = idx ∧ (kd = 10 ∨ kd = 11) then some (pc + 3, lv, t.2.2.2 :: st, mem, cb, sb) else none
        | none => none
      | none => none
    | none => none
def mm_newS (o len idx : Nat) (σ : mm_S) : Option mm_S := match σ with
  | (pc, lv, st, mem, cb, sb) => match mm_look o idx with
    | some (idx', kd, ci, b, z, pl) => match vwCl[ci]? with
      | some q => if len = 3 ∧ idx' = idx ∧ kd = 4 ∧ 1 ≤ cb ∧ q.2.2 ≤ sb then some (pc + 3, lv, .ref mem.length :: st, mem ++ [.inr (ci, (List.range q.2.2).map (fun k => defaultValue (mm_ty ci k)))], cb - 1, sb - q.2.2) else none
      | none => none
    | none => none
def mm_naS (at_ : ArrayType) (len : Nat) (σ : mm_S) : Option mm_S := match σ with
  | (pc, lv, .int n :: r, mem, cb, sb) => if len = 2 ∧ (newarray.typeOf at_ = .int ∨ newarray.typeOf at_ = .long ∨ newarray.typeOf at_ = .byte ∨ newarray.typeOf at_ = .char ∨ newarray.typeOf at_ = .boolean) ∧ ¬ n < 0 ∧ n.toNatClampNeg ≤ 10000 ∧ 1 ≤ cb ∧ n.toNatClampNeg ≤ sb then some (pc + 2, lv, .ref mem.length :: r, mem ++ [.inl (newarray.typeOf at_, List.replicate n.toNatClampNeg (defaultValue (newarray.typeOf at_)))], cb - 1, sb - n.toNatClampNeg) else none
  | _ => none
def mm_anaS (o len idx : Nat) (σ : mm_S) : Option mm_S := match σ with
  | (pc, lv, .int n :: r, mem, cb, sb) => match mm_look o idx with
    | some (idx', kd, ci, b, z, pl) => match vwCl[ci]? with
      | some q => if len = 3 ∧ idx' = idx ∧ kd = 4 ∧ (q.1 = "RaftTown$Raft" ∨ q.1 = "RaftTown$Person" ∨ q.1 = "RaftTown$Rope" ∨ q.1 = "RaftTown$Text" ∨ q.1 = "RaftTown$Sheet") ∧ ¬ n < 0 ∧ n.toNatClampNeg ≤ 10000 ∧ 1 ≤ cb ∧ n.toNatClampNeg ≤ sb then some (pc + 3, lv, .ref mem.length :: r, mem ++ [.inl (.object q.1, List.replicate n.toNatClampNeg .null)], cb - 1, sb - n.toNatClampNeg) else none
      | none => none
    | none => none
  | _ => none
def mm_cpy (xs ys : List Value) (sp dp n : Nat) : List Value := (List.range ys.length).map (fun j => if dp ≤ j ∧ j < dp + n then xs.getD (sp + (j - dp)) .null else ys.getD j .null)
def mm_spI (o len idx : Nat) (σ : mm_S) : Option mm_S := match σ with
  | (pc, lv, .ref a :: r, mem, cb, sb) => match mm_look o idx with
    | some (idx', kd, ci, b, z, pl) => if len = 3 ∧ idx' = idx ∧ kd = 8 ∧ (r.map fun v => v.category).sum ≤ 8 then some (pc + 3, lv, r, mem, cb, sb) else none
    | none => none
  | _ => none
def mm_spS (o kx len idx : Nat) (σ : mm_S) : Option mm_S := match σ with
  | (pc, lv, st, mem, cb, sb) => match mm_look o idx with
    | some (idx', kd, ci, b, z, pl) => if len = 3 ∧ idx' = idx then match kd, st with
      | 13, .int y :: .int x :: r => if (r.map fun v => v.category).sum ≤ 8 then some (pc + 3, lv, .int (if x < y then y else x) :: r, mem, cb, sb) else none
      | 14, .int y :: .int x :: r => if (r.map fun v => v.category).sum ≤ 8 then some (pc + 3, lv, .int (if y < x then y else x) :: r, mem, cb, sb) else none
      | 9, .int n :: .int dp :: .ref d :: .int sp :: .ref s :: r => match mem[s]?, mem[d]? with
        | some (.inl (ty, xs)), some (.inl (ty', ys)) => if (r.map fun v => v.category).sum ≤ 8 ∧ kx ≤ s ∧ kx ≤ d ∧ ty' = ty ∧ refKind ty = false ∧ ¬ sp < 0 ∧ ¬ dp < 0 ∧ ¬ n < 0 ∧ sp.toNatClampNeg + n.toNatClampNeg ≤ xs.length ∧ dp.toNatClampNeg + n.toNatClampNeg ≤ ys.length ∧ xs.all (fun v => fits ty v) = true then some (pc + 3, lv, r, mem.set d (.inl (ty, mm_cpy xs ys sp.toNatClampNeg dp.toNatClampNeg n.toNatClampNeg)), cb, sb) else none
        | _, _ => none
      | _, _ => none
      else none
    | none => none
def mm_mem (o kx : Nat) (ini : Bool) (zs : List mm_Zt) (ins : Instr) (len : Nat) (σ : mm_S) : Option mm_S := match ins with
  | .getfield idx => mm_getS o len idx σ
  | .putfield idx => mm_putS o kx ini len idx σ
  | .iaload => mm_aldS (fun ty => decide (ty = .int)) len σ
  | .laload => mm_aldS (fun ty => decide (ty = .long)) len σ
  | .caload => mm_aldS (fun ty => decide (ty = .char)) len σ
  | .baload => mm_aldS (fun ty => decide (ty = .byte ∨ ty = .boolean)) len σ
  | .aaload => mm_aldS (fun ty => ty.isReference) len σ
  | .iastore => mm_astS .int kx len σ
  | .castore => mm_astS .char kx len σ
  | .bastore => mm_bstS kx len σ
  | .lastore => mm_astlS kx len σ
  | .aastore => mm_astaS kx len σ
  | .arraylength => mm_alenS len σ
  | .ldc idx => mm_ldcS o 2 len idx σ
  | .ldc_w idx => mm_ldcS o 3 len idx σ
  | .ldc2_w idx => mm_ldc2S o len idx σ
  | .getstatic idx => mm_getstS o zs len idx σ
  | .new idx => mm_newS o len idx σ
  | .newarray at_ => mm_naS at_ len σ
  | .anewarray idx => mm_anaS o len idx σ
  | .invokespecial idx => mm_spI o len idx σ
  | .invokestatic idx => mm_spS o kx len idx σ
  | _ => none
end
section
/-! ===== each of these steps is the machine's ===== -/
section MMO
variable {p : Program} {l : Launch} {e : Env} {R : Room} {s : State} {m : MethodId} {args : Array Value} {below : List Frame} {meth : Method} {c : Code} {Q : State → Prop}
variable {φ : Nat → Nat} {kx bs : Nat} {D : va_G} {zs : List mm_Zt} {cc : ByteArray} {o nL len : Nat} {own : String} {ini : Bool} {σ σ' : mm_S}
theorem mm_getS_ok {idx : Nat} (F : mm_Fx p s m args meth c φ kx bs D o own nL ini cc) (hd : decode cc σ.1 = .ok (.getfield idx, len)) (h : mm_getS o len idx σ = some σ') (kk : mm_Go p l e R s m args below meth c φ kx bs D zs nL Q σ') : mm_Go p l e R s m args below meth c φ kx bs D zs nL Q σ := by
  unfold mm_getS at h
  split at h
  · next pc lv a r mem cb sb =>
    split at h
    · next idx' kd ci k z pl ci' fs e1 e2 =>
      split at h
      · next e3 =>
        obtain ⟨rfl, rfl, hkd, rfl⟩ := e3
        obtain ⟨v, hv, rfl⟩ := Option.map_eq_some_iff.mp h
        intro H locs ls cells slots hR hS hl hc hs
        rcases hkd with rfl | rfl
        · obtain ⟨q, g1, g2, g3⟩ := mm_p0 F.2.2.2.2.1 e1
          exact mm_getf F hR e2 g1 g2 hv g3 hd (kk H locs ls cells slots hR hS hl hc hs)
        · obtain ⟨q, g1, g2, g3⟩ := mm_p1 F.2.2.2.2.1 e1
          exact mm_getN F hR e2 g1 g2 hv g3 hd (kk H locs ls cells slots hR hS hl hc hs)
      · cases h
    · cases h
  · cases h
theorem mm_putS_ok {idx : Nat} (F : mm_Fx p s m args meth c φ kx bs D o own nL ini cc) (hd : decode cc σ.1 = .ok (.putfield idx, len)) (h : mm_putS o kx ini len idx σ = some σ') (kk : mm_Go p l e R s m args below meth c φ kx bs D zs nL Q σ') : mm_Go p l e R s m args below meth c φ kx bs D zs nL Q σ := by
  unfold mm_putS at h
  split at h
  · next pc lv v a r mem cb sb =>
    split at h
    · next idx' kd ci k z pl ci' fs e1 e2 =>
      split at h
      · next q e4 =>
        split at h
        · next e3 =>
          obtain ⟨rfl, rfl, rfl, hka, hn, hf, hkd⟩ := e3
          cases h
          intro H locs ls cells slots hR hS hl hc hs
          rcases hkd with ⟨rfl | rfl, hfin⟩ | ⟨rfl, hfin, rfl, hdecl⟩
          · obtain ⟨q', g1, g2, g3⟩ := mm_p0 F.2.2.2.2.1 e1
            cases g1.symm.trans e4
            exact mm_putf F hR hS hka e2 g1 g2 hfin (mm_nar hn) (mm_fit hf) g3 hd (fun H1 locs1 hR1 hS1 => kk H1 locs1 ls cells slots hR1 hS1 hl hc hs)
          · obtain ⟨q', g1, g2, g3⟩ := mm_p1 F.2.2.2.2.1 e1
            cases g1.symm.trans e4
            exact mm_putN F hR hS hka e2 g1 g2 hfin (mm_nar hn) (mm_fit hf) g3 hd (fun H1 locs1 hR1 hS1 => kk H1 locs1 ls cells slots hR1 hS1 hl hc hs)
          · obtain ⟨q', g1, g2, g3⟩ := mm_p0 F.2.2.2.2.1 e1
            cases g1.symm.trans e4
            have hdecl2 : (q.2.1 k).1 = own := Option.some.inj (hdecl.symm.trans F.2.2.2.2.1)
            exact mm_putF F hR hS hka e2 g1 g2 hfin hdecl2 (mm_nar hn) (mm_fit hf) g3 hd (fun H1 locs1 hR1 hS1 => kk H1 locs1 ls cells slots hR1 hS1 hl hc hs)
        · cases h
      · cases h
    · cases h
  · cases h
theorem mm_in_sz {j : Int32} {xs : List Value} {cell : Cell} (h : mm_wk φ cell xs) (hj : ¬ (j < 0 ∨ xs.length ≤ j.toNatClampNeg)) : ¬ (j < 0 ∨ cell.slots.size ≤ j.toNatClampNeg) := fun z => hj (z.elim Or.inl (fun q => Or.inr (Nat.le_trans h.1 q)))
theorem mm_iald_ok (F : mm_Fx p s m args meth c φ kx bs D o own nL ini cc) (hd : decode cc σ.1 = .ok (.iaload, len)) (h : mm_aldS (fun ty => decide (ty = .int)) len σ = some σ') (kk : mm_Go p l e R s m args below meth c φ kx bs D zs nL Q σ') : mm_Go p l e R s m args below meth c φ kx bs D zs nL Q σ := by
  obtain ⟨rfl, pc, lv, j, a, r, mem, cb, sb, ty, xs, v, rfl, h1, h2, h3, h4, rfl⟩ := mm_aldS_inv h
  cases of_decide_eq_true h2
  intro H locs ls cells slots hR hS hl hc hs
  obtain ⟨cell, g1, g2, g3, g4, -⟩ := mm_arr hR h1
  exact W.iald F.1 F.2.1 g1 g4 g3 (mm_in_sz g2 h3) (mm_arr_rd g2 h4) rfl rfl hd (kk H locs ls cells slots hR hS hl hc hs)
theorem mm_lald_ok (F : mm_Fx p s m args meth c φ kx bs D o own nL ini cc) (hd : decode cc σ.1 = .ok (.laload, len)) (h : mm_aldS (fun ty => decide (ty = .long)) len σ = some σ') (kk : mm_Go p l e R s m args below meth c φ kx bs D zs nL Q σ') : mm_Go p l e R s m args below meth c φ kx bs D zs nL Q σ := by
  obtain ⟨rfl, pc, lv, j, a, r, mem, cb, sb, ty, xs, v, rfl, h1, h2, h3, h4, rfl⟩ := mm_aldS_inv h
  cases of_decide_eq_true h2
  intro H locs ls cells slots hR hS hl hc hs
  obtain ⟨cell, g1, g2, g3, g4, -⟩ := mm_arr hR h1
  exact W.lald F.1 F.2.1 g1 g4 g3 (mm_in_sz g2 h3) (mm_arr_rd g2 h4) rfl rfl hd (kk H locs ls cells slots hR hS hl hc hs)
theorem mm_cald_ok (F : mm_Fx p s m args meth c φ kx bs D o own nL ini cc) (hd : decode cc σ.1 = .ok (.caload, len)) (h : mm_aldS (fun ty => decide (ty = .char)) len σ = some σ') (kk : mm_Go p l e R s m args below meth c φ kx bs D zs nL Q σ') : mm_Go p l e R s m args below meth c φ kx bs D zs nL Q σ := by
  obtain ⟨rfl, pc, lv, j, a, r, mem, cb, sb, ty, xs, v, rfl, h1, h2, h3, h4, rfl⟩ := mm_aldS_inv h
  cases of_decide_eq_true h2
  intro H locs ls cells slots hR hS hl hc hs
  obtain ⟨cell, g1, g2, g3, g4, -⟩ := mm_arr hR h1
  exact W.cald F.1 F.2.1 g1 g4 g3 (mm_in_sz g2 h3) (mm_arr_rd g2 h4) rfl rfl hd (kk H locs ls cells slots hR hS hl hc hs)
theorem mm_bald_ok (F : mm_Fx p s m args meth c φ kx bs D o own nL ini cc) (hd : decode cc σ.1 = .ok (.baload, len)) (h : mm_aldS (fun ty => decide (ty = .byte ∨ ty = .boolean)) len σ = some σ') (kk : mm_Go p l e R s m args below meth c φ kx bs D zs nL Q σ') : mm_Go p l e R s m args below meth c φ kx bs D zs nL Q σ := by
  obtain ⟨rfl, pc, lv, j, a, r, mem, cb, sb, ty, xs, v, rfl, h1, h2, h3, h4, rfl⟩ := mm_aldS_inv h
  intro H locs ls cells slots hR hS hl hc hs
  obtain ⟨cell, g1, g2, g3, g4, -⟩ := mm_arr hR h1
  rcases of_decide_eq_true h2 with rfl | rfl
  · exact W.bald F.1 F.2.1 g1 g4 g3 (mm_in_sz g2 h3) (mm_arr_rd g2 h4) rfl rfl hd (kk H locs ls cells slots hR hS hl hc hs)
  · exact W.zald F.1 F.2.1 g1 g4 g3 (mm_in_sz g2 h3) (mm_arr_rd g2 h4) rfl rfl hd (kk H locs ls cells slots hR hS hl hc hs)
theorem mm_aald_ok (F : mm_Fx p s m args meth c φ kx bs D o own nL ini cc) (hd : decode cc σ.1 = .ok (.aaload, len)) (h : mm_aldS (fun ty => ty.isReference) len σ = some σ') (kk : mm_Go p l e R s m args below meth c φ kx bs D zs nL Q σ') : mm_Go p l e R s m args below meth c φ kx bs D zs nL Q σ := by
  obtain ⟨rfl, pc, lv, j, a, r, mem, cb, sb, ty, xs, v, rfl, h1, h2, h3, h4, rfl⟩ := mm_aldS_inv h
  intro H locs ls cells slots hR hS hl hc hs
  obtain ⟨cell, g1, g2, g3, g4, -⟩ := mm_arr hR h1
  exact W.aald F.1 F.2.1 g1 g4 h2 g3 (mm_in_sz g2 h3) (mm_arr_rd g2 h4) rfl rfl hd (kk H locs ls cells slots hR hS hl hc hs)
theorem mm_iast_ok (F : mm_Fx p s m args meth c φ kx bs D o own nL ini cc) (hd : decode cc σ.1 = .ok (.iastore, len)) (h : mm_astS .int kx len σ = some σ') (kk : mm_Go p l e R s m args below meth c φ kx bs D zs nL Q σ') : mm_Go p l e R s m args below meth c φ kx bs D zs nL Q σ := by
  obtain ⟨rfl, pc, lv, x, j, a, r, mem, cb, sb, xs, rfl, h1, h2, h3, rfl⟩ := mm_astS_inv h
  intro H locs ls cells slots hR hS hl hc hs
  obtain ⟨cell, g1, g2, g3, g4, g5⟩ := mm_arr hR h1
  refine W.iast F.1 F.2.1 g1 g4 g3 (mm_in_sz g2 h3) rfl rfl hd fun H' e1 e2 e3 => ?_
  obtain ⟨a1, a2⟩ := mm_ast_end (v := .int x) F.2.2.2.2.2.2.2.1 hR hS h2 g2 g3 g4 g5 e1 e2 e3
  exact kk H' _ ls cells slots a1 a2 hl hc hs
theorem mm_cast_ok (F : mm_Fx p s m args meth c φ kx bs D o own nL ini cc) (hd : decode cc σ.1 = .ok (.castore, len)) (h : mm_astS .char kx len σ = some σ') (kk : mm_Go p l e R s m args below meth c φ kx bs D zs nL Q σ') : mm_Go p l e R s m args below meth c φ kx bs D zs nL Q σ := by
  obtain ⟨rfl, pc, lv, x, j, a, r, mem, cb, sb, xs, rfl, h1, h2, h3, rfl⟩ := mm_astS_inv h
  intro H locs ls cells slots hR hS hl hc hs
  obtain ⟨cell, g1, g2, g3, g4, g5⟩ := mm_arr hR h1
  refine W.cast F.1 F.2.1 g1 g4 g3 (mm_in_sz g2 h3) rfl rfl hd fun H' e1 e2 e3 => ?_
  obtain ⟨a1, a2⟩ := mm_ast_end (v := narrow .char (.int x)) F.2.2.2.2.2.2.2.1 hR hS h2 g2 g3 g4 g5 e1 e2 e3
  exact kk H' _ ls cells slots a1 a2 hl hc hs
theorem mm_bast_ok (F : mm_Fx p s m args meth c φ kx bs D o own nL ini cc) (hd : decode cc σ.1 = .ok (.bastore, len)) (h : mm_bstS kx len σ = some σ') (kk : mm_Go p l e R s m args below meth c φ kx bs D zs nL Q σ') : mm_Go p l e R s m args below meth c φ kx bs D zs nL Q σ := by
  unfold mm_bstS at h
  split at h
  · split at h
    · obtain ⟨rfl, pc, lv, x, j, a, r, mem, cb, sb, xs, hσ, h1, h2, h3, rfl⟩ := mm_astS_inv h
      cases hσ
      intro H locs ls cells slots hR hS hl hc hs
      obtain ⟨cell, g1, g2, g3, g4, g5⟩ := mm_arr hR h1
      refine W.bast F.1 F.2.1 g1 g4 g3 (mm_in_sz g2 h3) rfl rfl hd fun H' e1 e2 e3 => ?_
      obtain ⟨a1, a2⟩ := mm_ast_end (v := narrow .byte (.int _)) F.2.2.2.2.2.2.2.1 hR hS h2 g2 g3 g4 g5 e1 e2 e3
      exact kk H' _ ls cells slots a1 a2 hl hc hs
    · obtain ⟨rfl, pc, lv, x, j, a, r, mem, cb, sb, xs, hσ, h1, h2, h3, rfl⟩ := mm_astS_inv h
      cases hσ
      intro H locs ls cells slots hR hS hl hc hs
      obtain ⟨cell, g1, g2, g3, g4, g5⟩ := mm_arr hR h1
      refine W.zast F.1 F.2.1 g1 g4 g3 (mm_in_sz g2 h3) rfl rfl hd fun H' e1 e2 e3 => ?_
      obtain ⟨a1, a2⟩ := mm_ast_end (v := narrow .boolean (.int _)) F.2.2.2.2.2.2.2.1 hR hS h2 g2 g3 g4 g5 e1 e2 e3
      exact kk H' _ ls cells slots a1 a2 hl hc hs
    · cases h
  · cases h
theorem mm_last_ok (F : mm_Fx p s m args meth c φ kx bs D o own nL ini cc) (hd : decode cc σ.1 = .ok (.lastore, len)) (h : mm_astlS kx len σ = some σ') (kk : mm_Go p l e R s m args below meth c φ kx bs D zs nL Q σ') : mm_Go p l e R s m args below meth c φ kx bs D zs nL Q σ := by
  unfold mm_astlS at h
  split at h
  · next pc lv x j a r mem cb sb =>
    split at h
    · next ty xs h1 =>
      split at h
      · next e2 =>
        obtain ⟨rfl, rfl, h2, h3⟩ := e2
        cases h
        intro H locs ls cells slots hR hS hl hc hs
        obtain ⟨cell, g1, g2, g3, g4, g5⟩ := mm_arr hR h1
        refine W.last F.1 F.2.1 g1 g4 g3 (mm_in_sz g2 h3) rfl rfl hd fun H' e1 e2 e3 => ?_
        obtain ⟨a1, a2⟩ := mm_ast_end (v := .long x) F.2.2.2.2.2.2.2.1 hR hS h2 g2 g3 g4 g5 e1 e2 e3
        exact kk H' _ ls cells slots a1 a2 hl hc hs
      · cases h
    · cases h
  · cases h
theorem mm_aast_ok (F : mm_Fx p s m args meth c φ kx bs D o own nL ini cc) (hd : decode cc σ.1 = .ok (.aastore, len)) (h : mm_astaS kx len σ = some σ') (kk : mm_Go p l e R s m args below meth c φ kx bs D zs nL Q σ') : mm_Go p l e R s m args below meth c φ kx bs D zs nL Q σ := by
  unfold mm_astaS at h
  split at h
  · next pc lv b j a r mem cb sb =>
    split at h
    · next C xs ci fs h1 hb =>
      split at h
      · next q hq =>
        split at h
        · next e2 =>
          obtain ⟨rfl, rfl, h2, h3⟩ := e2
          cases h
          intro H locs ls cells slots hR hS hl hc hs
          obtain ⟨cell, g1, g2, g3, g4, g5⟩ := mm_arr hR h1
          obtain ⟨q', k1, k2, cellV, w1, w2, w3, -⟩ := hR.2.2.1 b _ hb
          cases k1.symm.trans hq
          have hctx := F.2.2.2.2.2.2.1
          have hcls := (hctx.1.1 ci q hq).2
          obtain ⟨kA, comp, u1, u2, u3, -⟩ := (g5 h2).2
          have hcomp : comp = D.1 ci := Option.some.inj (u3.symm.trans hcls.1)
          subst hcomp
          obtain ⟨kC, hkC, -⟩ := hcls.2
          refine W.aast F.1 F.2.1 g1 (fun z hz => by rw [(g5 h2).1.1.1] at hz; cases hz) g3 u1 u2 rfl hkC ⟨fun z => h3 (Or.inl z), Nat.not_le.mp (fun z => mm_in_sz g2 h3 (Or.inr z))⟩ w1 (fun z hz => by rw [w3] at hz; cases hz) (by rw [w2]; exact hkC) (by rw [w2]; exact va_assign hcls) rfl rfl hd fun H' e1 e2 e3 => ?_
          obtain ⟨a1, a2⟩ := mm_ast_end (v := .ref b) F.2.2.2.2.2.2.2.1 hR hS h2 g2 g3 g4 g5 e1 e2 e3
          exact kk H' _ ls cells slots a1 a2 hl hc hs
        · cases h
      · cases h
    · cases h
  · cases h
theorem mm_alen_ok (F : mm_Fx p s m args meth c φ kx bs D o own nL ini cc) (hd : decode cc σ.1 = .ok (.arraylength, len)) (h : mm_alenS len σ = some σ') (kk : mm_Go p l e R s m args below meth c φ kx bs D zs nL Q σ') : mm_Go p l e R s m args below meth c φ kx bs D zs nL Q σ := by
  unfold mm_alenS at h
  split at h
  · next pc lv a r mem cb sb =>
    split at h
    · next ty xs h1 =>
      split at h
      · next e2 =>
        subst e2
        cases h
        intro H locs ls cells slots hR hS hl hc hs
        obtain ⟨cell, g1, g2, g3, g4, g5⟩ := mm_arr hR h1
        exact W.alen (n := Int32.ofNat xs.length) F.1 F.2.1 g1 g4 g2.2.1 rfl rfl hd (kk H locs ls cells slots hR hS hl hc hs)
      · cases h
    · cases h
  · cases h
theorem mm_ldc_ok {idx : Nat} (F : mm_Fx p s m args meth c φ kx bs D o own nL ini cc) (hd : decode cc σ.1 = .ok (.ldc idx, len)) (h : mm_ldcS o 2 len idx σ = some σ') (kk : mm_Go p l e R s m args below meth c φ kx bs D zs nL Q σ') : mm_Go p l e R s m args below meth c φ kx bs D zs nL Q σ := by
  unfold mm_ldcS at h
  split at h
  next pc lv st mem cb sb =>
  split at h
  · next idx' a b z pl e1 =>
    split at h
    · next e2 =>
      obtain ⟨rfl, rfl⟩ := e2
      cases h
      intro H locs ls cells slots hR hS hl hc hs
      exact lv_ldc F.1 F.2.1 F.2.2.2.1 (F.2.2.2.2.2.1 _ (mm_p6 F.2.2.2.2.1 e1)) hd (kk H locs ls cells slots hR hS hl hc hs)
    · cases h
  · cases h
theorem mm_ldcw_ok {idx : Nat} (F : mm_Fx p s m args meth c φ kx bs D o own nL ini cc) (hd : decode cc σ.1 = .ok (.ldc_w idx, len)) (h : mm_ldcS o 3 len idx σ = some σ') (kk : mm_Go p l e R s m args below meth c φ kx bs D zs nL Q σ') : mm_Go p l e R s m args below meth c φ kx bs D zs nL Q σ := by
  unfold mm_ldcS at h
  split at h
  next pc lv st mem cb sb =>
  split at h
  · next idx' a b z pl e1 =>
    split at h
    · next e2 =>
      obtain ⟨rfl, rfl⟩ := e2
      cases h
      intro H locs ls cells slots hR hS hl hc hs
      exact lv_ldcw F.1 F.2.1 F.2.2.2.1 (F.2.2.2.2.2.1 _ (mm_p6 F.2.2.2.2.1 e1)) hd (kk H locs ls cells slots hR hS hl hc hs)
    · cases h
  · cases h
theorem mm_ldc2_ok {idx : Nat} (F : mm_Fx p s m args meth c φ kx bs D o own nL ini cc) (hd : decode cc σ.1 = .ok (.ldc2_w idx, len)) (h : mm_ldc2S o len idx σ = some σ') (kk : mm_Go p l e R s m args below meth c φ kx bs D zs nL Q σ') : mm_Go p l e R s m args below meth c φ kx bs D zs nL Q σ := by
  unfold mm_ldc2S at h
  split at h
  next pc lv st mem cb sb =>
  split at h
  · next idx' a b z pl e1 =>
    split at h
    · next e2 =>
      obtain ⟨rfl, rfl⟩ := e2
      cases h
      intro H locs ls cells slots hR hS hl hc hs
      exact lv_ldc2 F.1 F.2.1 F.2.2.2.1 (F.2.2.2.2.2.1 _ (mm_p7 F.2.2.2.2.1 e1)) hd (kk H locs ls cells slots hR hS hl hc hs)
    · cases h
  · cases h
theorem mm_getst_ok {idx : Nat} (F : mm_Fx p s m args meth c φ kx bs D o own nL ini cc) (hd : decode cc σ.1 = .ok (.getstatic idx, len)) (h : mm_getstS o zs len idx σ = some σ') (kk : mm_Go p l e R s m args below meth c φ kx bs D zs nL Q σ') : mm_Go p l e R s m args below meth c φ kx bs D zs nL Q σ := by
  unfold mm_getstS at h
  split at h
  next pc lv st mem cb sb =>
  split at h
  · next idx' kd a b z pl e1 =>
    split at h
    · next q hq =>
      split at h
      · next t ht =>
        split at h
        · next e2 =>
          obtain ⟨rfl, rfl, hkd⟩ := e2
          cases h
          intro H locs ls cells slots hR hS hl hc hs
          have hm := List.mem_of_find?_eq_some ht
          have he := List.find?_some ht
          simp only [decide_eq_true_eq] at he
          obtain ⟨f1, f2, f3⟩ := he
          obtain ⟨cf, kf, fi, f, ad, cell, h1, h2, h3, h4, h5, h6, h7, h8⟩ := hR.2.2.2 t hm
          rw [f1, f2, f3] at h1
          rcases hkd with rfl | rfl
          · obtain ⟨q', g1, g2⟩ := mm_p10 F.2.2.2.2.1 e1
            cases g1.symm.trans hq
            exact W.gets F.1 F.2.1 F.2.2.2.1 (F.2.2.2.2.2.1 _ g2) h1 h2 h3 h4 h5 (fun z => by rw [z] at h6; cases h6) h7 rfl hd (kk H locs ls cells slots hR hS hl hc hs)
          · obtain ⟨q', g1, g2⟩ := mm_p11 F.2.2.2.2.1 e1
            cases g1.symm.trans hq
            exact va_WgetsN F.1 F.2.1 F.2.2.2.1 (va_Nw.use rfl (F.2.2.2.2.2.2.1.2.1 _ g2 rfl)) h1 h2 h3 h4 h5 (fun z => by rw [z] at h6; cases h6) h7 rfl hd (kk H locs ls cells slots hR hS hl hc hs)
        · cases h
      · cases h
    · cases h
  · cases h
end MMO
end
section
/-! ===== new cells, and the calls that the kit knows ===== -/
theorem mm_cell_eta {φ : Nat → Nat} {xs : List Value} {cell : Cell} (h : cell.slots = (xs.map (mm_sh φ)).toArray) (hv : mm_pl cell) : cell = arrV cell.cls xs.length (fun j => (xs.map (mm_sh φ)).getD j .null) := by
  refine hv.2.trans ?_
  unfold arrV
  congr 1
  rw [h]
  apply Array.ext
  · simp
  · intro i h1 h2
    simp at h1
    simp [h1]
theorem mm_cpy_len (xs ys : List Value) (sp dp n : Nat) : (mm_cpy xs ys sp dp n).length = ys.length := by simp [mm_cpy]
section MMN
variable {p : Program} {l : Launch} {e : Env} {R : Room} {s : State} {m : MethodId} {args : Array Value} {below : List Frame} {meth : Method} {c : Code} {Q : State → Prop}
variable {φ : Nat → Nat} {kx bs : Nat} {D : va_G} {zs : List mm_Zt} {cc : ByteArray} {o nL len : Nat} {own : String} {ini : Bool} {σ σ' : mm_S}
theorem mm_S_push {H H1 : Heap} {locs : List Loc} (hbs : bs ≤ s.heap.size) (hS : va_S (mm_B bs) s.heap H locs) (hz : H1.size = H.size + 1) (ho : ∀ q : Nat, q < H.size → H1[q]? = H[q]?) : va_S (mm_B bs) s.heap H1 locs :=
  ⟨Nat.le_trans hS.1 (by omega), fun x h1 h2 => (ho x (Nat.lt_of_lt_of_le h1 hS.1)).trans (hS.2.1 x h1 h2), hS.2.2⟩
theorem mm_new_ok {idx : Nat} (F : mm_Fx p s m args meth c φ kx bs D o own nL ini cc) (hd : decode cc σ.1 = .ok (.new idx, len)) (h : mm_newS o len idx σ = some σ') (kk : mm_Go p l e R s m args below meth c φ kx bs D zs nL Q σ') : mm_Go p l e R s m args below meth c φ kx bs D zs nL Q σ := by
  unfold mm_newS at h
  split at h
  next pc lv st mem cb sb =>
  split at h
  · next idx' kd ci b z pl e1 =>
    split at h
    · next q hq =>
      split at h
      · next e2 =>
        obtain ⟨rfl, rfl, rfl, hcb, hsb⟩ := e2
        cases h
        intro H locs ls cells slots hR hS hl hc hs
        dsimp only at hc hs
        obtain ⟨q', g1, g2, g3, g4⟩ := mm_p4 F.2.2.2.2.1 e1
        cases g1.symm.trans hq
        obtain ⟨hx, hb, -, hown, -, hts, hctx, hph, hbs, -⟩ := F
        have hKn := hctx.1.1 ci _ hq
        have hsz := mm_ph_size hph hR
        dsimp only at hsz
        refine W.newcK hx hb hown (hts _ g2) (hts _ g3) (hts _ g4) rfl hd (by omega) (by omega) hKn.2.1 rfl fun H1 kC hkC e1 z1 o1 => ?_
        have key : mm_at φ kx D vwCl s H1 mem.length (.inr (ci, (List.range q.2.2).map (fun k => defaultValue (mm_ty ci k)))) := by
          refine ⟨q, hq, by simp, ?_⟩
          rw [hsz]
          refine (u_born (mm_ty ci) hts (mm_cls ci q hq).1 hKn hkC e1 (mm_cls ci q hq).2.1).to (fun k hk => ?_)
          simp [vp_V, hk, mm_sh_def]
        have hR1 := mm_R_push hR key z1 o1
        have := kk H1 locs ls (cells + 1) (slots + q.2.2) hR1 (mm_S_push hbs hS z1 o1) hl (by dsimp only; omega) (by dsimp only; omega)
        rw [← hsz]
        exact this
      · cases h
    · cases h
  · cases h
theorem mm_na_ok {at_ : ArrayType} (F : mm_Fx p s m args meth c φ kx bs D o own nL ini cc) (hd : decode cc σ.1 = .ok (.newarray at_, len)) (h : mm_naS at_ len σ = some σ') (kk : mm_Go p l e R s m args below meth c φ kx bs D zs nL Q σ') : mm_Go p l e R s m args below meth c φ kx bs D zs nL Q σ := by
  unfold mm_naS at h
  split at h
  · next pc lv n r mem cb sb =>
    split at h
    · next e2 =>
      obtain ⟨rfl, hty, hn, hn2, hcb, hsb⟩ := e2
      cases h
      intro H locs ls cells slots hR hS hl hc hs
      dsimp only at hc hs
      obtain ⟨hx, hb, -, hown, -, hts, hctx, hph, hbs, -⟩ := F
      have hsz := mm_ph_size hph hR
      dsimp only at hsz
      have hac : Cond.arrayClass (newarray.typeOf at_) ∈ mm_gw := by
        rcases hty with h | h | h | h | h <;> rw [h]
        · exact mm_ac_int
        · exact mm_ac_long
        · exact mm_ac_byte
        · exact mm_ac_char
        · exact mm_ac_boolean
      have hcmp : componentBytes (newarray.typeOf at_) ≤ 8 := by rcases hty with h | h | h | h | h <;> rw [h] <;> decide
      refine W.newa hx hb (hts _ hac) rfl hd rfl hn (Nat.le_trans (Nat.mul_le_mul hn2 hcmp) (Nat.le_of_ble_eq_true rfl)) (by omega) (by omega) fun cA kA comp f1 f2 f3 => ?_
      generalize hH1 : H.push ({ cls := cA, slots := Array.replicate n.toNatClampNeg (defaultValue (newarray.typeOf at_)), vm := .none } : Cell) = H1
      have z1 : H1.size = H.size + 1 := by rw [← hH1, Array.size_push]
      have g1 : H1[H.size]? = some ({ cls := cA, slots := Array.replicate n.toNatClampNeg (defaultValue (newarray.typeOf at_)), vm := .none } : Cell) := by rw [← hH1, Array.getElem?_push_size]
      have o1 : ∀ q : Nat, q < H.size → H1[q]? = H[q]? := fun q hq => by rw [← hH1, Array.getElem?_push, if_neg (Nat.ne_of_lt hq)]
      have key : mm_at φ kx D vwCl s H1 mem.length (.inl (newarray.typeOf at_, List.replicate n.toNatClampNeg (defaultValue (newarray.typeOf at_)))) := by
        have hsl : ({ cls := cA, slots := Array.replicate n.toNatClampNeg (defaultValue (newarray.typeOf at_)), vm := .none } : Cell).slots = ((List.replicate n.toNatClampNeg (defaultValue (newarray.typeOf at_))).map (mm_sh φ)).toArray := by simp [mm_sh_def]
        refine ⟨_, by rw [hsz]; exact g1, mm_wk_of hsl, (fun z => by cases z), ⟨(fun k z => by cases z), kA, f2, comp, f3⟩, fun _ => ⟨⟨⟨rfl, rfl⟩, hsl⟩, ?_⟩⟩
        · show va_RA s cA (newarray.typeOf at_)
          rcases hty with h | h | h | h | h <;> rw [h] at f1 ⊢ <;> exact f1
      have hR1 := mm_R_push hR key z1 o1
      have := kk H1 locs ls (cells + 1) (slots + n.toNatClampNeg) hR1 (mm_S_push hbs hS z1 o1) hl (by dsimp only; omega) (by dsimp only; omega)
      rw [← hsz]
      exact this
    · cases h
  · cases h
theorem mm_ao : ∀ C : String, (C = "RaftTown$Raft" ∨ C = "RaftTown$Person" ∨ C = "RaftTown$Rope" ∨ C = "RaftTown$Text" ∨ C = "RaftTown$Sheet") → Cond.arrayOver (.object C) ∈ lw_tbl := by
  intro C h
  rcases h with rfl | rfl | rfl | rfl | rfl
  · exact mm_wd_in (pl := 1055) (by decide +kernel)
  · exact mm_wd_in (pl := 1057) (by decide +kernel)
  · exact mm_wd_in (pl := 1059) (by decide +kernel)
  · exact mm_wd_in (pl := 1097) (by decide +kernel)
  · exact mm_wd_in (pl := 2052) (by decide +kernel)
theorem mm_ana_ok {idx : Nat} (F : mm_Fx p s m args meth c φ kx bs D o own nL ini cc) (hd : decode cc σ.1 = .ok (.anewarray idx, len)) (h : mm_anaS o len idx σ = some σ') (kk : mm_Go p l e R s m args below meth c φ kx bs D zs nL Q σ') : mm_Go p l e R s m args below meth c φ kx bs D zs nL Q σ := by
  unfold mm_anaS at h
  split at h
  · next pc lv n r mem cb sb =>
    split at h
    · next idx' kd ci b z pl e1 =>
      split at h
      · next q hq =>
        split at h
        · next e2 =>
          obtain ⟨rfl, rfl, rfl, hC, hn, hn2, hcb, hsb⟩ := e2
          cases h
          intro H locs ls cells slots hR hS hl hc hs
          dsimp only at hc hs
          obtain ⟨q', g1, g2, g3, g4⟩ := mm_p4 F.2.2.2.2.1 e1
          cases g1.symm.trans hq
          obtain ⟨hx, hb, -, hown, -, hts, hctx, hph, hbs, -⟩ := F
          have hsz := mm_ph_size hph hR
          dsimp only at hsz
          refine W.anew hx hb hown (hts _ g2) (va_AO.use (hctx.2.2 _ (mm_ao q.1 hC))) rfl hd rfl hn (Nat.le_trans (Nat.mul_le_mul hn2 (Nat.le_refl 4)) (Nat.le_of_ble_eq_true rfl)) (by omega) (by omega) fun cA kA comp f1 f2 f3 f4 => ?_
          generalize hH1 : H.push ({ cls := cA, slots := Array.replicate n.toNatClampNeg .null, vm := .none } : Cell) = H1
          have z1 : H1.size = H.size + 1 := by rw [← hH1, Array.size_push]
          have g1 : H1[H.size]? = some ({ cls := cA, slots := Array.replicate n.toNatClampNeg .null, vm := .none } : Cell) := by rw [← hH1, Array.getElem?_push_size]
          have o1 : ∀ q : Nat, q < H.size → H1[q]? = H[q]? := fun q hq => by rw [← hH1, Array.getElem?_push, if_neg (Nat.ne_of_lt hq)]
          have key : mm_at φ kx D vwCl s H1 mem.length (.inl (.object q.1, List.replicate n.toNatClampNeg .null)) := by
            have hsl : ({ cls := cA, slots := Array.replicate n.toNatClampNeg .null, vm := .none } : Cell).slots = ((List.replicate n.toNatClampNeg Value.null).map (mm_sh φ)).toArray := by simp [mm_sh]
            exact ⟨_, by rw [hsz]; exact g1, mm_wk_of hsl, (fun z => by cases z), ⟨(fun k z => by cases z), kA, f2, comp, f3⟩, fun _ => ⟨⟨⟨rfl, rfl⟩, hsl⟩, kA, comp, f2, f3, f4, f1⟩⟩
          have hR1 := mm_R_push hR key z1 o1
          have := kk H1 locs ls (cells + 1) (slots + n.toNatClampNeg) hR1 (mm_S_push hbs hS z1 o1) hl (by dsimp only; omega) (by dsimp only; omega)
          rw [← hsz]
          exact this
        · cases h
      · cases h
    · cases h
  · cases h
theorem mm_cats (φ : Nat → Nat) (r : List Value) : ((r.map (mm_sh φ)).map fun v => v.category) = r.map fun v => v.category := by simp [mm_sh_cat]
theorem mm_spI_ok {idx : Nat} (F : mm_Fx p s m args meth c φ kx bs D o own nL ini cc) (hRm : 1 ≤ R.frames ∧ 64 ≤ R.locals) (hd : decode cc σ.1 = .ok (.invokespecial idx, len)) (h : mm_spI o len idx σ = some σ') (kk : mm_Go p l e R s m args below meth c φ kx bs D zs nL Q σ') : mm_Go p l e R s m args below meth c φ kx bs D zs nL Q σ := by
  unfold mm_spI at h
  split at h
  · next pc lv a r mem cb sb =>
    split at h
    · next idx' kd ci b z pl e1 =>
      split at h
      · next e2 =>
        obtain ⟨rfl, rfl, rfl, hsum⟩ := e2
        cases h
        intro H locs ls cells slots hR hS hl hc hs
        obtain ⟨hx, hb, hml, hown, ho, hts, -⟩ := F
        refine W.objInit (a := φ a) (rest := r.map (mm_sh φ)) hx hb hown (hts _ (mm_p8 ho e1)) (hts _ mm_obj_i) (hts _ mm_obj_c) rfl (hl.1.trans hml.symm) rfl hd hRm.1 ?_ (kk H locs ls cells slots hR hS hl hc hs)
        rw [mm_cats]
        show 2 * 0 + _ + 12 ≤ _
        omega
      · cases h
    · cases h
  · cases h
theorem mm_spS_ok {idx : Nat} (F : mm_Fx p s m args meth c φ kx bs D o own nL ini cc) (hRm : 1 ≤ R.frames ∧ 64 ≤ R.locals) (hd : decode cc σ.1 = .ok (.invokestatic idx, len)) (h : mm_spS o kx len idx σ = some σ') (kk : mm_Go p l e R s m args below meth c φ kx bs D zs nL Q σ') : mm_Go p l e R s m args below meth c φ kx bs D zs nL Q σ := by
  unfold mm_spS at h
  split at h
  next pc lv st mem cb sb =>
  split at h
  · next idx' kd ci b z pl e1 =>
    split at h
    · next e2 =>
      obtain ⟨rfl, rfl⟩ := e2
      split at h
      · next y x r =>
        split at h
        · next hsum =>
          cases h
          intro H locs ls cells slots hR hS hl hc hs
          obtain ⟨hx, hb, hml, hown, ho, hts, -⟩ := F
          dsimp only at hc hs
          exact va_mmax hx hb (hml.trans hl.1.symm) hown (hts _ (mm_p13 ho e1)) (hts _ mm_max_s) (hts _ mm_math_y) (hts _ mm_max_c) hRm.1 (by rw [mm_cats]; omega) (by omega) (by omega) hd (kk H locs ls cells slots hR hS hl hc hs)
        · cases h
      · next y x r =>
        split at h
        · next hsum =>
          cases h
          intro H locs ls cells slots hR hS hl hc hs
          obtain ⟨hx, hb, hml, hown, ho, hts, -⟩ := F
          dsimp only at hc hs
          exact va_mmin hx hb (hml.trans hl.1.symm) hown (hts _ (mm_p14 ho e1)) (hts _ mm_min_s) (hts _ mm_math_y) (hts _ mm_min_c) hRm.1 (by rw [mm_cats]; omega) (by omega) (by omega) hd (kk H locs ls cells slots hR hS hl hc hs)
        · cases h
      · next n dp d sp a r =>
        split at h
        · next ty xs ty' ys i1 i2 =>
          split at h
          · next e3 =>
            obtain ⟨hsum, hka, hkd, rfl, hrk, h1, h2, h3, h4, h5, hall⟩ := e3
            cases h
            intro H locs ls cells slots hR hS hl hc hs
            obtain ⟨hx, hb, hml, hown, ho, hts, -, hph, -⟩ := F
            obtain ⟨cs, k1, k2, k3, k4, k5⟩ := mm_arr hR i1
            obtain ⟨cd, w1, w2, w3, w4, w5⟩ := mm_arr hR i2
            have nn : ∀ z : Int32, ¬ z < 0 → z.toInt = (z.toNatClampNeg : Int) := by
              intro z hz
              have hz0 : (0 : Int) ≤ z.toInt := by
                have := Int32.not_lt.mp hz
                simpa using Int32.le_iff_toInt_le.mp this
              show z.toInt = ((z.toInt.toNat : Nat) : Int)
              omega
            replace k2 := (k5 hka).1.2
            replace w2 := (w5 hkd).1.2
            have e_cs := mm_cell_eta k2 (k5 hka).1.1
            have e_cd := mm_cell_eta w2 (w5 hkd).1.1
            obtain ⟨v1, ks, hks, cm0, hkk0⟩ := k4
            obtain ⟨v2, kd', hkd', cm1, hkk1⟩ := w4
            intro T hT X
            obtain ⟨vm', X', step⟩ := X.arraycopy hx hown (hts _ (mm_p9 ho e1)) (hts _ mm_cpy_n) (hts _ mm_cpy_s) (hts _ mm_cpy_y) (src := φ a) (dst := φ d) (cs := cs) (cd := cd) (srcPos := sp) (destPos := dp) (n := n) (by rw [hT]; exact k1) (by rw [hT]; exact w1) v1 v2 k3 w3 hks hkd' hkk0 hkk1 (by simp [hrk]) h1 h2 h3
              (by rw [nn sp h1, nn n h3, mm_arr_sz k2]; omega) (by rw [nn dp h2, nn n h3, mm_arr_sz w2]; omega)
              (fun vm₁ _ i hi => by
                have hlt : sp.toNatClampNeg + i < xs.length := by omega
                have e : cs.slots.getD (sp.toNatClampNeg + i) .null = mm_sh φ xs[sp.toNatClampNeg + i] := by
                  rw [k2]; simp [hlt]
                have hf := List.all_eq_true.mp hall xs[sp.toNatClampNeg + i] (List.getElem_mem hlt)
                rw [e]
                refine ⟨mm_fit hf, ?_⟩
                generalize xs[sp.toNatClampNeg + i] = v at hf
                cases v with
                | ref x => cases ty' <;> first | (simp [refKind] at hrk; done) | cases hf
                | _ => trivial)
              (g := F0 m pc ls (.int n :: .int dp :: .ref (φ d) :: .int sp :: .ref (φ a) :: r.map (mm_sh φ))) rfl (hl.1.trans hml.symm) (rest := r.map (mm_sh φ)) rfl (by rw [hb]; exact hd) hRm.1 (by rw [mm_cats]; show 2 * 0 + _ + (nativeFrameWords "java/lang/System" "arraycopy" 5 + 11) ≤ _; rw [show nativeFrameWords "java/lang/System" "arraycopy" 5 = 7 by decide +kernel]; omega)
            have e2 : copied cs cd sp dp n = arrV cd.cls ys.length (va_cpy (fun j => (xs.map (mm_sh φ)).getD j .null) (fun j => (ys.map (mm_sh φ)).getD j .null) sp.toNatClampNeg dp.toNatClampNeg n.toNatClampNeg) := by
              rw [e_cs, e_cd]
              exact va_copied (fun z => z) cs.cls cd.cls _ _ h4
            rw [e2] at X' step
            have hlt : φ d < H.size := (Array.getElem?_eq_some_iff.mp w1).1
            generalize hC : arrV cd.cls ys.length (va_cpy (fun j => (xs.map (mm_sh φ)).getD j .null) (fun j => (ys.map (mm_sh φ)).getD j .null) sp.toNatClampNeg dp.toNatClampNeg n.toNatClampNeg) = C at X' step
            have hheap : ((T.setVm vm').setCell (φ d) C).heap = H.setIfInBounds (φ d) C := by rw [← hT]; rfl
            have oq : ∀ q : Nat, q ≠ φ d → (H.setIfInBounds (φ d) C)[q]? = H[q]? := fun q hq => by simp [Array.getElem?_setIfInBounds, Ne.symm hq]
            have hCs : C.slots = ((mm_cpy xs ys sp.toNatClampNeg dp.toNatClampNeg n.toNatClampNeg).map (mm_sh φ)).toArray := by
              rw [← hC]
              unfold arrV mm_cpy
              apply Array.ext
              · simp
              · intro i q1 q2
                simp at q1
                simp only [Array.getElem_ofFn, List.getElem_toArray, List.getElem_map, List.getElem_range, va_cpy]
                split
                · next hh =>
                  have : sp.toNatClampNeg + (i - dp.toNatClampNeg) < xs.length := by omega
                  simp [this]
                · simp [q1]
            have hR1 : mm_R φ kx bs D vwCl zs s (mem.set d (.inl (ty', mm_cpy xs ys sp.toNatClampNeg dp.toNatClampNeg n.toNatClampNeg))) (H.setIfInBounds (φ d) C) := by
              refine mm_R_set hph hR hkd ⟨C, by simp [Array.getElem?_setIfInBounds, hlt], mm_wk_of hCs, ?_, ?_, fun _ => ⟨⟨?_, hCs⟩, ?_⟩⟩ (by simp) oq
              · rw [← hC]; exact fun z => by cases z
              · rw [← hC]; exact ⟨(fun k z => by cases z), kd', hkd', cm1, hkk1⟩
              · rw [← hC]; exact ⟨rfl, rfl⟩
              · rw [← hC]; exact (w5 hkd).2
            obtain ⟨t, a1, b1⟩ := kk _ (locs ++ (cs.stretch sp.toNatClampNeg n.toNatClampNeg).zipIdx.map fun q => ⟨φ d, dp.toNatClampNeg + q.2⟩) ls cells slots hR1 ⟨by simp; exact hS.1, fun q g1 g2 => by
                rw [oq q (fun e => g2 (by rw [e]; exact mm_ph_ge hph hkd))]
                exact hS.2.1 q g1 g2, fun q hq => by
                rcases List.mem_append.mp hq with h | h
                · exact hS.2.2 q h
                · obtain ⟨z, -, hz⟩ := List.mem_map.mp h
                  rw [← hz]
                  exact mm_ph_ge hph hkd⟩ hl hc hs _ hheap X'
            exact ⟨t, step t a1, b1⟩
          · cases h
        · cases h
      · cases h
    · cases h
  · cases h
end MMN
end
section
/-! ===== the small machine's run: straight steps, calls, the state at a return ===== -/
def mm_stp (o nL kx : Nat) (ini : Bool) (zs : List mm_Zt) (ins : Instr) (len : Nat) (σ : mm_S) : Option mm_S := match mm_pure nL ins len σ.1 σ.2.1 σ.2.2.1 with
  | some f => some (f.1, f.2.1, f.2.2, σ.2.2.2)
  | none => mm_mem o kx ini zs ins len σ
section MMR
variable {p : Program} {l : Launch} {e : Env} {R : Room} {s : State} {m : MethodId} {args : Array Value} {below : List Frame} {meth : Method} {c : Code} {Q : State → Prop}
variable {φ : Nat → Nat} {kx bs : Nat} {D : va_G} {zs : List mm_Zt} {cc : ByteArray} {o nL len : Nat} {own : String} {ini : Bool} {σ σ' : mm_S}
theorem mm_mem_ok {ins : Instr} (F : mm_Fx p s m args meth c φ kx bs D o own nL ini cc) (hRm : 1 ≤ R.frames ∧ 64 ≤ R.locals) (hd : decode cc σ.1 = .ok (ins, len)) (h : mm_mem o kx ini zs ins len σ = some σ') (kk : mm_Go p l e R s m args below meth c φ kx bs D zs nL Q σ') : mm_Go p l e R s m args below meth c φ kx bs D zs nL Q σ := by
  cases ins with
  | getfield idx => exact mm_getS_ok F hd h kk
  | putfield idx => exact mm_putS_ok F hd h kk
  | iaload => exact mm_iald_ok F hd h kk
  | laload => exact mm_lald_ok F hd h kk
  | caload => exact mm_cald_ok F hd h kk
  | baload => exact mm_bald_ok F hd h kk
  | aaload => exact mm_aald_ok F hd h kk
  | iastore => exact mm_iast_ok F hd h kk
  | castore => exact mm_cast_ok F hd h kk
  | bastore => exact mm_bast_ok F hd h kk
  | lastore => exact mm_last_ok F hd h kk
  | aastore => exact mm_aast_ok F hd h kk
  | arraylength => exact mm_alen_ok F hd h kk
  | ldc idx => exact mm_ldc_ok F hd h kk
  | ldc_w idx => exact mm_ldcw_ok F hd h kk
  | ldc2_w idx => exact mm_ldc2_ok F hd h kk
  | getstatic idx => exact mm_getst_ok F hd h kk
  | new idx => exact mm_new_ok F hd h kk
  | newarray at_ => exact mm_na_ok F hd h kk
  | anewarray idx => exact mm_ana_ok F hd h kk
  | invokespecial idx => exact mm_spI_ok F hRm hd h kk
  | invokestatic idx => exact mm_spS_ok F hRm hd h kk
  | _ => cases h
theorem mm_stp_ok {ins : Instr} (F : mm_Fx p s m args meth c φ kx bs D o own nL ini cc) (hRm : 1 ≤ R.frames ∧ 64 ≤ R.locals) (hd : decode cc σ.1 = .ok (ins, len)) (h : mm_stp o nL kx ini zs ins len σ = some σ') (kk : mm_Go p l e R s m args below meth c φ kx bs D zs nL Q σ') : mm_Go p l e R s m args below meth c φ kx bs D zs nL Q σ := by
  unfold mm_stp at h
  split at h
  · next f hf =>
    cases h
    intro H locs ls cells slots hR hS hl hc hs
    exact mm_pure_ok φ F.1 F.2.1 hd hf hl (fun ls' hl' => kk H locs ls' cells slots hR hS hl' hc hs)
  · exact mm_mem_ok F hRm hd h kk
end MMR
/-- a call's method, its arguments, what is left of the stack -/
def mm_cal (o : Nat) (ins : Instr) (len : Nat) (st : List Value) (mem : List mm_C) : Option (Nat × List Value × List Value) := match ins with
  | .invokevirtual idx => match mm_look o idx with
    | some (idx', kd, y, b, z, pl) => match mm_mths[y]? with
      | some t => match st.drop t.2.2.2.2.2.1 with
        | .ref a :: r => match mem[a]? with
          | some (.inr (ci, fs)) => if len = 3 ∧ idx' = idx ∧ (kd = 2 ∨ kd = 3) ∧ t.2.2.2.2.2.2.1 = 1 ∧ ci = t.1 ∧ (r.map fun v => v.category).sum ≤ 8 then some (y, .ref a :: (st.take t.2.2.2.2.2.1).reverse, r) else none
          | _ => none
        | _ => none
      | none => none
    | none => none
  | .invokestatic idx => match mm_look o idx with
    | some (idx', kd, y, b, z, pl) => match mm_mths[y]? with
      | some t => if len = 3 ∧ idx' = idx ∧ (kd = 2 ∨ kd = 3) ∧ t.2.2.2.2.2.2.1 = 0 ∧ t.2.2.2.2.2.1 ≤ st.length ∧ ((st.drop t.2.2.2.2.2.1).map fun v => v.category).sum ≤ 8 then some (y, (st.take t.2.2.2.2.2.1).reverse, st.drop t.2.2.2.2.2.1) else none
      | none => none
    | none => none
  | .invokespecial idx => match mm_look o idx with
    | some (idx', kd, y, b, z, pl) => match mm_mths[y]? with
      | some t => match st.drop t.2.2.2.2.2.1 with
        | .ref a :: r => if len = 3 ∧ idx' = idx ∧ (kd = 2 ∨ kd = 3) ∧ t.2.2.2.2.2.2.1 = 2 ∧ t.2.2.2.2.1 = none ∧ (r.map fun v => v.category).sum ≤ 8 then some (y, .ref a :: (st.take t.2.2.2.2.2.1).reverse, r) else none
        | _ => none
      | none => none
    | none => none
  | _ => none
abbrev mm_Fi : Type := Nat × ByteArray × Nat × Bool
def mm_fi (t : mm_Mt) : mm_Fi := (t.1, t.2.2.1, t.2.2.2.1, decide (t.2.2.2.2.2.2.1 = 2))
def mm_isR : Instr → Bool
  | .ireturn => true
  | .areturn => true
  | .lreturn => true
  | .return_ => true
  | _ => false
/-- what a method hands back -/
def mm_ret (t : mm_Mt) (τ : mm_S) : Option (Option Value) := match decode t.2.2.1 τ.1 with
  | .ok (.ireturn, 1) => match t.2.2.2.2.1, τ.2.2.1 with
    | some ty, [.int v] => if narrow ty (.int v) = .int v then some (some (.int v)) else none
    | _, _ => none
  | .ok (.areturn, 1) => match t.2.2.2.2.1, τ.2.2.1 with
    | some (.object _), [.ref a] => some (some (.ref a))
    | _, _ => none
  | .ok (.lreturn, 1) => match t.2.2.2.2.1, τ.2.2.1 with
    | some .long, [.long v] => some (some (.long v))
    | _, _ => none
  | .ok (.return_, 1) => match t.2.2.2.2.1, τ.2.2.1 with
    | none, [] => some none
    | _, _ => none
  | _ => none
def mm_ent (y : Nat) (As : List Value) (mem : List mm_C) : mm_S := (0, lv_args 0 As, [], mem, (mm_bud y).1, (mm_bud y).2)
/-- fuel, depth of calls, the method, the state: the state at its return -/
def mm_run (kx : Nat) (zs : List mm_Zt) : Nat → Nat → mm_Fi → mm_S → Option mm_S
  | 0, _, _, _ => none
  | n + 1, d, fi, σ => match decode fi.2.1 σ.1 with
    | .ok (ins, len) => if mm_isR ins then some σ else match mm_stp fi.1 fi.2.2.1 kx fi.2.2.2 zs ins len σ with
      | some σ' => mm_run kx zs n d fi σ'
      | none => match d with
        | 0 => none
        | d' + 1 => match mm_cal fi.1 ins len σ.2.2.1 σ.2.2.2.1 with
          | none => none
          | some (y, As, rest) => match mm_mths[y]? with
            | none => none
            | some t => if (lg_sl As).length ≤ t.2.2.2.1 ∧ (mm_bud y).1 ≤ σ.2.2.2.2.1 ∧ (mm_bud y).2 ≤ σ.2.2.2.2.2 then match mm_run kx zs n d' (mm_fi t) (mm_ent y As σ.2.2.2.1) with
              | none => none
              | some τ => match mm_ret t τ with
                | none => none
                | some v => mm_run kx zs n (d' + 1) fi (σ.1 + 3, σ.2.1, v.toList ++ rest, τ.2.2.2.1, σ.2.2.2.2.1 - (mm_bud y).1, σ.2.2.2.2.2 - (mm_bud y).2)
              else none
    | .error _ => none
end
section
/-! ===== the run is the machine's ===== -/
theorem mm_good {L : List Cond} (h : ∀ w ∈ L, w ∈ mm_gw) : GoodIn mm_gw L := fun w hw => ⟨h w hw, good_of_word (List.mem_filter.mp (h w hw)).2⟩
theorem mm_args_sl (φ : Nat → Nat) (As : List Value) : ∀ i, mm_sl φ (lv_args i As) = lv_args i (As.map (mm_sh φ)) := by
  induction As with
  | nil => intro i; rfl
  | cons v vs ih =>
    intro i
    have := ih (if v.category = 2 then i + 2 else i + 1)
    simp only [mm_sl] at this
    simp only [lv_args, mm_sl, List.map_cons, mm_sh_cat, this]
theorem mm_sl_len (φ : Nat → Nat) (As : List Value) : (lg_sl (As.map (mm_sh φ))).length = (lg_sl As).length := by
  induction As with
  | nil => rfl
  | cons v vs ih =>
    simp only [lg_sl, List.map_cons, List.flatMap_cons, List.length_append, mm_sh_cat] at ih ⊢
    rw [ih]
    split <;> rfl
theorem mm_mth {y : Nat} {t : mm_Mt} (h : mm_mths[y]? = some t) : plainName t.2.1.cls = true ∧ mm_cns[t.1]? = some t.2.1.cls ∧ Cond.code t.2.1 t.2.2.1 t.2.2.2.1 t.2.2.2.2.1 ∈ mm_gw ∧ Cond.initialized t.2.1.cls ∈ mm_gw ∧ (t.2.1.cls ≠ "java/lang/invoke/MethodHandle" ∧ t.2.1.cls ≠ "java/lang/invoke/VarHandle" ∧ (parseMethodDescriptor t.2.1.desc).map (fun d => d.parameters.length) = some t.2.2.2.2.2.1) ∧ t.2.2.2.1 ≤ 45 := by
  have hm := List.mem_of_getElem? h
  have h1 := mm_mths_ok t hm
  have h2 := mm_cws t hm
  unfold mm_mchk at h1
  simp only [Bool.and_eq_true, decide_eq_true_eq] at h1
  obtain ⟨⟨⟨⟨⟨⟨⟨g1, g2⟩, g3⟩, g4⟩, g5⟩, g6⟩, g7⟩, -⟩ := h1
  exact ⟨g1, g2, List.mem_filter.mpr ⟨mm_tab_in (List.mem_of_getElem? h2), rfl⟩, mm_wg_in g3, ⟨g4, g5, g6⟩, g7⟩
theorem mm_mth_k {y : Nat} {t : mm_Mt} (h : mm_mths[y]? = some t) : (match t.2.2.2.2.2.2.1 with
    | 0 => mm_wg (t.2.2.2.2.2.2.2.getD 1 0) (.static t.2.1)
    | 1 => mm_wg (t.2.2.2.2.2.2.2.getD 1 0) (.instanceMethod t.2.1) && mm_wg (t.2.2.2.2.2.2.2.getD 2 0) (.selects t.2.1.cls t.2.1 t.2.1)
    | _ => mm_wg (t.2.2.2.2.2.2.2.getD 1 0) (.instanceMethod t.2.1) && decide (t.2.1.name = "<init>")) = true := by
  have h1 := mm_mths_ok t (List.mem_of_getElem? h)
  unfold mm_mchk at h1
  rw [Bool.and_eq_true] at h1
  exact h1.2
theorem mm_mth0 {y : Nat} {t : mm_Mt} (h : mm_mths[y]? = some t) (hk : t.2.2.2.2.2.2.1 = 0) : Cond.static t.2.1 ∈ mm_gw := by
  have h1 := mm_mth_k h
  rw [hk] at h1
  exact mm_wg_in h1
theorem mm_mth1 {y : Nat} {t : mm_Mt} (h : mm_mths[y]? = some t) (hk : t.2.2.2.2.2.2.1 = 1) : Cond.instanceMethod t.2.1 ∈ mm_gw ∧ Cond.selects t.2.1.cls t.2.1 t.2.1 ∈ mm_gw := by
  have h1 := mm_mth_k h
  rw [hk] at h1
  replace h1 : (mm_wg (t.2.2.2.2.2.2.2.getD 1 0) (.instanceMethod t.2.1) && mm_wg (t.2.2.2.2.2.2.2.getD 2 0) (.selects t.2.1.cls t.2.1 t.2.1)) = true := h1
  rw [Bool.and_eq_true] at h1
  exact ⟨mm_wg_in h1.1, mm_wg_in h1.2⟩
theorem mm_mth2 {y : Nat} {t : mm_Mt} (h : mm_mths[y]? = some t) (hk : t.2.2.2.2.2.2.1 = 2) : Cond.instanceMethod t.2.1 ∈ mm_gw ∧ t.2.1.name = "<init>" := by
  have h1 := mm_mth_k h
  rw [hk] at h1
  replace h1 : (mm_wg (t.2.2.2.2.2.2.2.getD 1 0) (.instanceMethod t.2.1) && decide (t.2.1.name = "<init>")) = true := h1
  rw [Bool.and_eq_true] at h1
  exact ⟨mm_wg_in h1.1, of_decide_eq_true h1.2⟩
def mm_Pc (φ : Nat → Nat) (kx bs : Nat) (D : va_G) (zs : List mm_Zt) (As : List Value) (mem : List mm_C) : Array Value → State → Prop := fun a U => a = (As.map (mm_sh φ)).toArray ∧ mm_R φ kx bs D vwCl zs U mem U.heap ∧ mm_Ctx D U ∧ bs ≤ U.heap.size
def mm_Qc (φ : Nat → Nat) (kx bs : Nat) (D : va_G) (zs : List mm_Zt) (v : Option Value) (mem : List mm_C) : Array Value → State → Outcome → State → Prop := fun _ st oc t => oc = .returned (v.map (mm_sh φ)) ∧ mm_R φ kx bs D vwCl zs t mem t.heap ∧ va_F (mm_B bs) st t
theorem mm_Ctx_calling {D : va_G} {U : State} (g : JFrame) (mk : MethodId) (a : Array Value) (h3 : mm_Ctx D U) : mm_Ctx D (U.calling g mk a) := by
  refine ⟨va_K.moved (u := U) (U := U.calling g mk a) (Vm.Alike.refl U.vm) h3.1, fun w hw hn => ?_, fun C hC => va_AO.moved (u := U) (U := U.calling g mk a) (Vm.Alike.refl U.vm) (h3.2.2 C hC)⟩
  have h5 := h3.2.1 w hw hn
  have hon : w.onTables = true := by
    unfold mm_nest at hn
    split at hn
    · rfl
    · rfl
    · cases hn
  exact va_Nw.same (u := U) (U := U.calling g mk a) hon rfl h5
theorem mm_Pc_blind {φ : Nat → Nat} {kx bs : Nat} {D : va_G} {zs : List mm_Zt} {As : List Value} {mem : List mm_C} : FrameBlind (mm_Pc φ kx bs D zs As mem) := by
  intro a U g mk q
  obtain ⟨h1, h2, h3, h4⟩ := q
  exact ⟨h1, mm_R_moved (u := U) (U := U.calling g mk a) (Vm.Alike.refl U.vm) h2, mm_Ctx_calling g mk a h3, h4⟩
def mm_rm (d y : Nat) : Room := { frames := d + 1, cells := (mm_bud y).1, slots := (mm_bud y).2, locals := 64 * (d + 1) }
section MMX
variable {p : Program} {l : Launch} {e : Env} {R : Room} {s : State} {m : MethodId} {args : Array Value} {below : List Frame} {meth : Method} {c : Code} {Q : State → Prop}
variable {φ : Nat → Nat} {kx bs : Nat} {D : va_G} {zs : List mm_Zt} {cc : ByteArray} {o nL len : Nat} {own : String} {ini : Bool}
theorem mm_after {H : Heap} {locs : List Loc} {cells slots mc ms pc : Nat} {ls : Array Slot} {st0 rest : List Value} {a : Array Value} {v : Option Value} {mem : List mm_C} (hr : va_Run p l e R s m args below meth c H locs cells slots mc ms (F0 m pc ls st0) rest (mm_Qc φ kx bs D zs v mem a) (mm_B bs)) (hS : va_S (mm_B bs) s.heap H locs)
    (kk : ∀ (H1 : Heap) (locs1 : List Loc), mm_R φ kx bs D vwCl zs s mem H1 → va_S (mm_B bs) s.heap H1 locs1 → W p l e R s m args below meth c H1 locs1 (cells + mc) (slots + ms) Q (F0 m (pc + 3) ls ((v.map (mm_sh φ)).toList ++ rest))) : W p l e R s m args below meth c H locs cells slots Q (F0 m pc ls st0) := by
  intro T hT X
  obtain ⟨v', st₀, t, T', L, h0, X', hL, e1, e2, ⟨hv, hRt, hz, hk⟩, st⟩ := hr T hT X
  cases hv
  rw [h0] at hz hk
  obtain ⟨t2, a1, b1⟩ := kk T'.heap (locs ++ L) (by rw [e1]; exact mm_R_moved (by rw [← e2]; exact X'.warmed.alike.symm) hRt)
    ⟨Nat.le_trans hS.1 (by rw [e1]; exact hz), fun q h1 h2 => by rw [e1, hk q (Nat.lt_of_lt_of_le h1 hS.1) h2]; exact hS.2.1 q h1 h2, fun q hq => by
      rcases List.mem_append.mp hq with h | h
      · exact hS.2.2 q h
      · exact hL q h⟩ T' rfl X'
  exact ⟨t2, st t2 a1, b1⟩
theorem mm_call_ok {d y : Nat} {t : mm_Mt} {ins : Instr} {pc cb sb : Nat} {lv : List (Nat × Value)} {st As rest : List Value} {mem mem' : List mm_C} {v : Option Value} (F : mm_Fx p s m args meth c φ kx bs D o own nL ini cc) (hRm : d + 2 ≤ R.frames ∧ 64 * (d + 2) ≤ R.locals) (hd : decode cc pc = .ok (ins, len)) (hcal : mm_cal o ins len st mem = some (y, As, rest)) (ht : mm_mths[y]? = some t) (hcb : (mm_bud y).1 ≤ cb) (hsb : (mm_bud y).2 ≤ sb)
    (hM : Met l t.2.1 (Cond.code t.2.1 t.2.2.1 t.2.2.2.1 t.2.2.2.2.1 :: mm_gw) (mm_rm d y) (mm_Pc φ kx bs D zs As mem) (mm_Qc φ kx bs D zs v mem') (mm_bud y).1 (mm_bud y).2 (mm_B bs))
    (kk : mm_Go p l e R s m args below meth c φ kx bs D zs nL Q (pc + 3, lv, v.toList ++ rest, mem', cb - (mm_bud y).1, sb - (mm_bud y).2)) : mm_Go p l e R s m args below meth c φ kx bs D zs nL Q (pc, lv, st, mem, cb, sb) := by
  intro H locs ls cells slots hR hS hl hc hs
  dsimp only at hR hl hc hs
  obtain ⟨hx, hb, hml, hown, ho, hts, hctx, hph, hbs, -⟩ := id F
  obtain ⟨-, hcn, hcode, hini, hdesc, hmx⟩ := mm_mth ht
  have hpre : ∀ U : State, U.heap = H → s.WarmedH U.vm → mm_Pc φ kx bs D zs As mem (As.map (mm_sh φ)).toArray U := fun U hU hW => ⟨rfl, by rw [hU]; exact mm_R_moved hW.alike hR, mm_Ctx_warm hW hctx, by rw [hU]; exact Nat.le_trans hbs hS.1⟩
  have hws : ∀ w ∈ (Cond.code t.2.1 t.2.2.1 t.2.2.2.1 t.2.2.2.2.1 :: mm_gw), w ∈ mm_gw := fun w hw => by
    rcases List.mem_cons.mp hw with rfl | h
    · exact hcode
    · exact h
  have hroom : (mm_rm d y).frames + 1 ≤ R.frames ∧ 8 + (t.2.2.2.1 + 11) + (mm_rm d y).locals ≤ R.locals := ⟨hRm.1, by show 8 + (t.2.2.2.1 + 11) + 64 * (d + 1) ≤ R.locals; omega⟩
  have hgo : ∀ (H1 : Heap) (locs1 : List Loc), mm_R φ kx bs D vwCl zs s mem' H1 → va_S (mm_B bs) s.heap H1 locs1 → W p l e R s m args below meth c H1 locs1 (cells + (mm_bud y).1) (slots + (mm_bud y).2) Q (F0 m (pc + 3) ls ((v.map (mm_sh φ)).toList ++ rest.map (mm_sh φ))) := by
    intro H1 locs1 hR1 hS1
    have := kk H1 locs1 ls (cells + (mm_bud y).1) (slots + (mm_bud y).2) hR1 hS1 hl (by dsimp only; omega) (by dsimp only; omega)
    dsimp only at this
    rw [List.map_append] at this
    cases v with
    | none => exact this
    | some v => exact this
  unfold mm_cal at hcal
  split at hcal
  · next idx =>
    split at hcal
    · next idx' kd y' b z pl e1 =>
      split at hcal
      · next t' ht' =>
        split at hcal
        · next a r hst =>
          split at hcal
          · next ci fs hci =>
            split at hcal
            · next e2 =>
              obtain ⟨rfl, rfl, hkd, hk1, rfl, hsum⟩ := e2
              cases hcal
              cases ht'.symm.trans ht
              obtain ⟨k1, k2⟩ := mm_mth1 ht hk1
              have hlen : ((st.take t.2.2.2.2.2.1).reverse.map (mm_sh φ)).length = t.2.2.2.2.2.1 := by
                have h1 : t.2.2.2.2.2.1 < st.length := by
                  have := congrArg List.length hst
                  simp at this
                  omega
                simp
                omega
              have hstk : (F0 m pc ls (st.map (mm_sh φ))).stack = ((st.take t.2.2.2.2.2.1).reverse.map (mm_sh φ)).reverse ++ .ref (φ a) :: rest.map (mm_sh φ) := by
                show st.map (mm_sh φ) = _
                conv => lhs; rw [← List.take_append_drop t.2.2.2.2.2.1 st, hst]
                simp [mm_sh]
              have hsum' : 2 * (F0 m pc ls (st.map (mm_sh φ))).monitorRoom + ((rest.map (mm_sh φ)).map fun v => v.category).sum ≤ 8 := by
                rw [mm_cats]
                show 2 * 0 + _ ≤ 8
                omega
              obtain ⟨q', u1, u2, cellV, w1, w2, w3, -⟩ := hR.2.2.1 a _ hci
              have hq1 : q'.1 = t.2.1.cls := by
                have hlt : t.1 < 13 := (List.getElem?_eq_some_iff.mp u1).1
                have : ∀ k, k < 13 → (vwCl[k]?).map (fun r => r.1) = mm_cns[k]? := by decide +kernel
                have h2 := this t.1 hlt
                rw [show vwCl[t.1]? = some q' from u1, hcn] at h2
                exact Option.some.inj h2
              have hrecv : ∃ cellB : Cell, H[φ a]? = some cellB ∧ cellB.vm.isStatics = false ∧ s.vm.findClass t.2.1.cls = some cellB.cls := ⟨cellV, w1, by rw [w3]; rfl, by rw [w2, ← hq1]; exact (hctx.1.1 t.1 q' u1).2.1⟩
              have hpv : PreV s H t.2.1.cls (φ a) (mm_Pc φ kx bs D zs (.ref a :: (st.take t.2.2.2.2.2.1).reverse) mem) ((st.take t.2.2.2.2.2.1).reverse.map (mm_sh φ)) := ⟨mm_Pc_blind, hrecv, hpre⟩
              rcases hkd with rfl | rfl
              · obtain ⟨t2, v1, v2⟩ := mm_p2 ho e1
                cases v1.symm.trans ht
                have hG : GoodIn mm_gw (wsV own idx' t.2.1.cls t.2.1 (Cond.code t.2.1 t.2.2.1 t.2.2.2.1 t.2.2.2.2.1 :: mm_gw)) := mm_good (fun w hw => by
                  unfold wsV at hw
                  rcases List.mem_append.mp hw with h | h
                  · simp only [List.mem_cons, List.not_mem_nil, or_false] at h
                    rcases h with rfl | rfl | rfl | rfl
                    · exact v2
                    · exact k1
                    · exact k2
                    · exact hini
                  · exact hws w h)
                exact mm_after (va_runV (rest := rest.map (mm_sh φ)) ⟨hx, hb, hml, hown, hts⟩ hM (cwV t.2.2.2.2.2.1 hts hG rfl rfl rfl ⟨rfl, hdesc⟩ hroom) hpv rfl hlen hl.1 hstk hsum' hd ⟨by omega, by omega⟩) hS hgo
              · obtain ⟨t2, v1, v2⟩ := mm_p3 ho e1
                cases v1.symm.trans ht
                exact mm_after (va_runVN (rest := rest.map (mm_sh φ)) ⟨hx, hb, hml, hown, hts⟩ hM ⟨va_cnB t.2.2.2.2.2.1 hts (mm_good hws) rfl rfl rfl (hctx.2.1 _ v2 rfl) (hts _ hini) hdesc hroom, hts _ k1, hts _ k2⟩ hpv rfl hlen hl.1 hstk hsum' hd ⟨by omega, by omega⟩) hS hgo
            · cases hcal
          · cases hcal
        · cases hcal
      · cases hcal
    · cases hcal
  · next idx =>
    split at hcal
    · next idx' kd y' b z pl e1 =>
      split at hcal
      · next t' ht' =>
        split at hcal
        · next e2 =>
          obtain ⟨rfl, rfl, hkd, hk1, hlen0, hsum⟩ := e2
          cases hcal
          cases ht'.symm.trans ht
          have k1 := mm_mth0 ht hk1
          have hlen : ((st.take t.2.2.2.2.2.1).reverse.map (mm_sh φ)).length = t.2.2.2.2.2.1 := by
            simp
            omega
          have hstk : (F0 m pc ls (st.map (mm_sh φ))).stack = ((st.take t.2.2.2.2.2.1).reverse.map (mm_sh φ)).reverse ++ (st.drop t.2.2.2.2.2.1).map (mm_sh φ) := by
            show st.map (mm_sh φ) = _
            rw [← List.map_reverse, List.reverse_reverse, ← List.map_append, List.take_append_drop]
          have hsum' : 2 * (F0 m pc ls (st.map (mm_sh φ))).monitorRoom + (((st.drop t.2.2.2.2.2.1).map (mm_sh φ)).map fun v => v.category).sum ≤ 8 := by
            rw [mm_cats]
            show 2 * 0 + _ ≤ 8
            omega
          have hpv : PreS s H (mm_Pc φ kx bs D zs (st.take t.2.2.2.2.2.1).reverse mem) ((st.take t.2.2.2.2.2.1).reverse.map (mm_sh φ)) := ⟨mm_Pc_blind, hpre⟩
          rcases hkd with rfl | rfl
          · obtain ⟨t2, v1, v2⟩ := mm_p2 ho e1
            cases v1.symm.trans ht
            have hG : GoodIn mm_gw (va_wsS own idx' t.2.1 (Cond.code t.2.1 t.2.2.1 t.2.2.2.1 t.2.2.2.2.1 :: mm_gw)) := mm_good (fun w hw => by
              unfold va_wsS at hw
              rcases List.mem_append.mp hw with h | h
              · simp only [List.mem_cons, List.not_mem_nil, or_false] at h
                rcases h with rfl | rfl | rfl
                · exact v2
                · exact k1
                · exact hini
              · exact hws w h)
            exact mm_after (va_runS ⟨hx, hb, hml, hown, hts⟩ hM (va_cwS t.2.2.2.2.2.1 hts hG rfl rfl rfl hdesc hroom) hpv rfl hlen hl.1 hstk hsum' hd ⟨by omega, by omega⟩) hS hgo
          · obtain ⟨t2, v1, v2⟩ := mm_p3 ho e1
            cases v1.symm.trans ht
            exact mm_after (va_runSN ⟨hx, hb, hml, hown, hts⟩ hM ⟨va_cnB t.2.2.2.2.2.1 hts (mm_good hws) rfl rfl rfl (hctx.2.1 _ v2 rfl) (hts _ hini) hdesc hroom, hts _ k1, trivial⟩ hpv rfl hlen hl.1 hstk hsum' hd ⟨by omega, by omega⟩) hS hgo
        · cases hcal
      · cases hcal
    · cases hcal
  · next idx =>
    split at hcal
    · next idx' kd y' b z pl e1 =>
      split at hcal
      · next t' ht' =>
        split at hcal
        · next a r hst =>
          split at hcal
          · next e2 =>
            obtain ⟨rfl, rfl, hkd, hk1, hret, hsum⟩ := e2
            cases hcal
            cases ht'.symm.trans ht
            obtain ⟨k1, k2⟩ := mm_mth2 ht hk1
            rw [hret] at hM hcode hws
            have hlen : ((st.take t.2.2.2.2.2.1).reverse.map (mm_sh φ)).length = t.2.2.2.2.2.1 := by
              have h1 : t.2.2.2.2.2.1 < st.length := by
                have := congrArg List.length hst
                simp at this
                omega
              simp
              omega
            have hstk : (F0 m pc ls (st.map (mm_sh φ))).stack = ((st.take t.2.2.2.2.2.1).reverse.map (mm_sh φ)).reverse ++ .ref (φ a) :: rest.map (mm_sh φ) := by
              show st.map (mm_sh φ) = _
              conv => lhs; rw [← List.take_append_drop t.2.2.2.2.2.1 st, hst]
              simp [mm_sh]
            have hsum' : 2 * (F0 m pc ls (st.map (mm_sh φ))).monitorRoom + ((rest.map (mm_sh φ)).map fun v => v.category).sum ≤ 8 := by
              rw [mm_cats]
              show 2 * 0 + _ ≤ 8
              omega
            have hpv : PreS s H (mm_Pc φ kx bs D zs (.ref a :: (st.take t.2.2.2.2.2.1).reverse) mem) (.ref (φ a) :: (st.take t.2.2.2.2.2.1).reverse.map (mm_sh φ)) := ⟨mm_Pc_blind, hpre⟩
            rcases hkd with rfl | rfl
            · obtain ⟨t2, v1, v2⟩ := mm_p2 ho e1
              cases v1.symm.trans ht
              exact mm_after (va_runI (rest := rest.map (mm_sh φ)) ⟨hx, hb, hml, hown, hts⟩ hM (cwI t.2.2.2.2.2.1 hts (mm_good hws) rfl rfl rfl (hts _ hini) (hts _ v2) (hts _ k1) k2 hdesc hroom) hpv rfl hlen hl.1 hstk hsum' hd ⟨by omega, by omega⟩) hS hgo
            · obtain ⟨t2, v1, v2⟩ := mm_p3 ho e1
              cases v1.symm.trans ht
              exact mm_after (va_runIN (rest := rest.map (mm_sh φ)) ⟨hx, hb, hml, hown, hts⟩ hM ⟨va_cnB t.2.2.2.2.2.1 hts (mm_good hws) rfl rfl rfl (hctx.2.1 _ v2 rfl) (hts _ hini) hdesc hroom, k2, hts _ k1⟩ hpv rfl hlen hl.1 hstk hsum' hd ⟨by omega, by omega⟩) hS hgo
          · cases hcal
        · cases hcal
      · cases hcal
    · cases hcal
  · cases hcal
end MMX
end
section
/-! ===== the whole run ===== -/
/-- the state at a method's return gives its contract's end -/
theorem mm_ret_ok {p : Program} {l : Launch} {e : Env} {R : Room} {s : State} {m : MethodId} {args : Array Value} {below : List Frame} {meth : Method} {c : Code} {φ : Nat → Nat} {kx bs : Nat} {D : va_G} {zs : List mm_Zt} {o nL : Nat} {own : String} {ini : Bool} {t : mm_Mt} {τ : mm_S} {v : Option Value} {y : Nat} (F : mm_Fx p s m args meth c φ kx bs D o own nL ini t.2.2.1) (hr : meth.sig.returnType = t.2.2.2.2.1) (hlocks : meth.locks = false) (hRc : R.cells = (mm_bud y).1) (hRs : R.slots = (mm_bud y).2) (h : mm_ret t τ = some v) : mm_Go p l e R s m args below meth c φ kx bs D zs nL (MQ below (mm_Qc φ kx bs D zs v τ.2.2.2.1) args s (mm_bud y).1 (mm_bud y).2 (mm_B bs)) τ := by
  obtain ⟨pc, lv, st, mem, cb, sb⟩ := τ
  intro H locs ls cells slots hR hS hl hc hs
  dsimp only at hR hl hc hs ⊢
  refine W.widen (k := (mm_bud y).1) (n := (mm_bud y).2) (by omega) (by omega) ?_
  have hq : ∀ t' : State, t'.heap = H → s.WarmedH t'.vm → mm_Qc φ kx bs D zs v mem args s (.returned (v.map (mm_sh φ))) t' := fun t' ht hW => ⟨rfl, by rw [ht]; exact mm_R_moved hW.alike hR, ⟨by rw [ht]; exact hS.1, fun q h1 h2 => by rw [ht]; exact hS.2.1 q h1 h2⟩⟩
  have hf : ∀ q ∈ locs, mm_B bs q.base := hS.2.2
  unfold mm_ret at h
  dsimp only at h
  split at h
  · next hd =>
    split at h
    · next ty v0 hty =>
      split at h
      · next hn =>
        cases h
        exact W.zret F.1 F.2.1 (hr.trans hty) hn hq hf hd
      · cases h
    · cases h
  · next hd =>
    split at h
    · next nm a hty =>
      cases h
      exact W.aret F.1 F.2.1 (hr.trans hty) (Or.inl ⟨_, rfl⟩) (Or.inr ⟨φ a, rfl⟩) hq hf hd
    · cases h
  · next hd =>
    split at h
    · next v0 hty =>
      cases h
      exact W.lret F.1 F.2.1 (hr.trans hty) hq hf hd
    · cases h
  · next hd =>
    split at h
    · next hty =>
      cases h
      exact W.vret F.1 F.2.1 (hr.trans hty) hq hf hd
    · cases h
  · cases h
def mm_Ok (l : Launch) (φ : Nat → Nat) (kx bs : Nat) (D : va_G) (zs : List mm_Zt) (n : Nat) : Prop :=
  ∀ (d : Nat) (fi : mm_Fi) (σ σ' : mm_S), mm_run kx zs n d fi σ = some σ' → ∀ {p : Program} {e : Env} {R : Room} {s : State} {m : MethodId} {args : Array Value} {below : List Frame} {meth : Method} {c : Code} {own : String} {Q : State → Prop}, mm_Fx p s m args meth c φ kx bs D fi.1 own fi.2.2.1 fi.2.2.2 fi.2.1 → d + 1 ≤ R.frames ∧ 64 * (d + 1) ≤ R.locals →
    mm_Go p l e R s m args below meth c φ kx bs D zs fi.2.2.1 Q σ' → mm_Go p l e R s m args below meth c φ kx bs D zs fi.2.2.1 Q σ
theorem mm_met {l : Launch} {φ : Nat → Nat} {kx bs : Nat} {D : va_G} {zs : List mm_Zt} {n d y : Nat} {t : mm_Mt} {As : List Value} {mem : List mm_C} {τ : mm_S} {v : Option Value} (IH : mm_Ok l φ kx bs D zs n) (hph : mm_ph φ kx bs) (ht : mm_mths[y]? = some t) (hsl : (lg_sl As).length ≤ t.2.2.2.1) (hrun : mm_run kx zs n d (mm_fi t) (mm_ent y As mem) = some τ) (hret : mm_ret t τ = some v) :
    Met l t.2.1 (Cond.code t.2.1 t.2.2.1 t.2.2.2.1 t.2.2.2.2.1 :: mm_gw) (mm_rm d y) (mm_Pc φ kx bs D zs As mem) (mm_Qc φ kx bs D zs v τ.2.2.2.1) (mm_bud y).1 (mm_bud y).2 (mm_B bs) := by
  obtain ⟨hplain, hcn, hcode, hini, hdesc, hmx⟩ := mm_mth ht
  refine Met.ofW (cc := t.2.2.1) (maxL := t.2.2.2.1) (ret := t.2.2.2.2.1) hplain rfl ?_
  intro p e s m args below meth c s₁ B hml hv
  obtain ⟨rfl, hR, hctx, hbs⟩ := hv
  have hts := atoms_spec (ws := (Cond.code t.2.1 t.2.2.1 t.2.2.2.1 t.2.2.2.2.1 :: mm_gw)) B.pre
  have hown : s.vm.findClass t.2.1.cls = some m.cls := findClass_of_methodNamed B.named
  have hlocks := B.notSynchronized
  have F : mm_Fx p s m (As.map (mm_sh φ)).toArray meth c φ kx bs D (mm_fi t).1 t.2.1.cls (mm_fi t).2.2.1 (mm_fi t).2.2.2 (mm_fi t).2.1 := ⟨B.exec, B.bytes, hml, hown, hcn, fun w hw => hts w (List.mem_cons_of_mem _ hw), hctx, hph, hbs, fun hi => by
    have hk : t.2.2.2.2.2.2.1 = 2 := of_decide_eq_true hi
    rw [(name_of_methodNamed B.named B.method).1]
    exact (mm_mth2 ht hk).2⟩
  have hgo := IH d (mm_fi t) _ τ hrun F (R := (mm_rm d y)) ⟨Nat.le_refl _, Nat.le_refl _⟩ (mm_ret_ok (l := l) (e := e) (below := below) (y := y) F B.returns hlocks rfl rfl hret)
  have hl := lv_entry (As.map (mm_sh φ)) (n := t.2.2.2.1) (by rw [mm_sl_len]; exact hsl)
  rw [lg_entry_eq]
  exact hgo s.heap [] _ 0 0 hR va_S.rf (by show lv_has _ _ (mm_sl φ (lv_args 0 As)); rw [mm_args_sl]; exact hl) (Nat.zero_add _) (Nat.zero_add _)
/-- A RUN OF THE SMALL MACHINE IS THE MACHINE'S: from its start the machine comes to where the small one stops -/
theorem mm_run_ok (l : Launch) (φ : Nat → Nat) (kx bs : Nat) (D : va_G) (zs : List mm_Zt) (hph : mm_ph φ kx bs) : ∀ n, mm_Ok l φ kx bs D zs n := by
  intro n
  induction n with
  | zero => intro d fi σ σ' h; cases h
  | succ n IH =>
    intro d fi σ σ' h p e R s m args below meth c own Q F hRm kk
    unfold mm_run at h
    split at h
    · next ins len hd =>
      split at h
      · cases h; exact kk
      · split at h
        · next σ₁ hst => exact mm_stp_ok F ⟨by omega, by omega⟩ hd hst (IH d fi σ₁ σ' h F hRm kk)
        · split at h
          · cases h
          · next d' =>
            split at h
            · cases h
            · next y As rest hcal =>
              split at h
              · cases h
              · next t ht =>
                split at h
                · next hb =>
                  split at h
                  · cases h
                  · next τ hτ =>
                    split at h
                    · cases h
                    · next v hv =>
                      obtain ⟨pc, lv, st, mem, cb, sb⟩ := σ
                      exact mm_call_ok F ⟨by omega, by omega⟩ hd hcal ht hb.2.1 hb.2.2 (mm_met IH hph ht hb.1 hτ hv) (IH (d' + 1) fi _ σ' h F hRm kk)
                · cases h
    · cases h
end
section
-- ===== end of PART A; then your names; then what follows =====
/-! THE CLAIM OUT OF ONE WALK OF THE LAW'S BODY. Your part is whole_start (and what it stands on); all else here is the same for every law, but numbers. -/
def R_law : String := "RaftTownLaw"
def lw_P (b : Addr) (xs : List Int32) (args : Array Value) (s : State) : Prop := args = #[.ref b] ∧ s.IntsAt b xs ∧ xs.length ≤ 3072 ∧ (Jvm.Cond.and given_1 narrow_1).before args s = true
def lw_Q (_ : Array Value) (s : State) (o : Outcome) (t : State) : Prop := o = .returned (some (.int 1)) ∧ Framed s o t [] 600000 7302250
def lw_Z (below : List Frame) (a : Array Value) (s : State) : State → Prop := fun t => ∃ o, t.status = .running ∧ Ended t below o ∧ lw_Q a s o t
/-- the law's own end, with 1 on the stack, nothing written that was there before, its room as the claim has it -/
theorem lw_ret {p : Program} {l : Launch} {e : Env} {s : State} {m : MethodId} {below : List Frame} {meth : Method} {c : Code} {b : Nat} (hx : p.tables.exec = Jvm.exec) (hb : c.code = code) (hr : meth.sig.returnType = ret) (hlocks : meth.locks = false) {pc : Nat} {H : Heap} {ls : Array Slot} (hdg : decode code pc = .ok (.ireturn, 1)) : W p l e room_1 s m #[Value.ref b] below meth c H [] 600000 7302250 (lw_Z below #[Value.ref b] s) (F0 m pc ls [.int 1]) := by
  intro T hT X
  obtain ⟨fs, hret, hrun, hended, hW, hframe⟩ := X.leave (v := some (.int 1)) (hlocks := hlocks) (fun h => by rw [hr] at h; cases h)
  have hmeth' : T.vm.method? m = some meth := X.method'
  refine ⟨T.setFrames fs, ?_, .returned (some (.int 1)), hrun, hended, rfl, ⟨_, rfl⟩, hW, hframe⟩
  jvm_step X.here [X.here.top, hx, hb, hdg, hmeth', hr, ret, narrow_b1]
  (try refine ⟨rfl, ?_⟩); (try refine ⟨rfl, ?_⟩)
  first | (intro acts; rw [hret _ acts rfl rfl rfl]) | rw [hret _ _ rfl rfl rfl]
  exact Steps.refl _
/-- what holds at the law's entry: the machine, the code, the tables' words (any of lw_tbl by 'hts w (by decide +kernel)'), the script of L ints xs at the cell b, what the Statement gives of the start (any of its parts by flat_of_before) -/
def lw_At (p : Program) (s : State) (m : MethodId) (meth : Method) (c : Code) (b L : Nat) (xs : Nat → Int32) : Prop :=
  p.tables.exec = Jvm.exec ∧ c.code = code ∧ meth.sig.returnType = ret ∧ c.maxLocals = 4 ∧ s.vm.findClass R_law = some m.cls ∧ (∀ w ∈ lw_tbl, w.before #[Value.ref b] s = true) ∧ va_X b L xs s s.heap ∧ b < s.heap.size ∧ meth.locks = false ∧ (Jvm.Cond.and given_1 narrow_1).before #[Value.ref b] s = true
end
section
/-! ===== printed by wip/gen_start.py: the law's start ===== -/
def mm_zs : List mm_Zt := [("RaftTown", "KIND_ABOVE", "[I", .ref 1), ("RaftTown", "AREA", "[I", .ref 2), ("RaftTown", "BESIDE_X", "[I", .ref 3), ("RaftTown", "BESIDE_Y", "[I", .ref 4)]
def mm_za1 : List Value := [.int (-1), .int 0, .int 1, .int 1, .int 0, .int 1]
def mm_za2 : List Value := [.int 1, .int 2, .int 3, .int 2, .int 1, .int 0]
def mm_za3 : List Value := [.int (-1), .int 1, .int 0, .int 0]
def mm_za4 : List Value := [.int 0, .int 0, .int (-1), .int 1]
def mm_scr (L : Nat) (xs : Nat → Int32) : List Value := (List.range L).map (fun j => .int (xs j))
def mm_m0 (L : Nat) (xs : Nat → Int32) : List mm_C := [.inl (.int, mm_scr L xs), .inl (.int, mm_za1), .inl (.int, mm_za2), .inl (.int, mm_za3), .inl (.int, mm_za4)]
def mm_f0 (b t1 t2 t3 t4 bs i : Nat) : Nat := match i with
  | 0 => b
  | 1 => t1
  | 2 => t2
  | 3 => t3
  | 4 => t4
  | k + 5 => bs + k
set_option maxRecDepth 100000 in
theorem mm_zt1 {args : Array Value} {s : State} (hs : ∀ w ∈ flatC (Jvm.Cond.and given_1 narrow_1), w.before args s = true) : ∃ t : Nat, (Term.static "RaftTown" "KIND_ABOVE" "[I").eval args s none [] s = some (.ref t) ∧ va_T .int t 6 (fun j => mm_za1.getD j .null) (mm_B s.heap.size) s s.heap := by
  refine va_Tof (Nat.le_of_ble_eq_true rfl) (hs _ (by decide +kernel)) (va_eqt (z := 6) (hs _ (by decide +kernel))) (fun j hj => ?_) (fun a ha h => Nat.not_le.mpr ha h)
  match j, hj with
  | 0, _ => exact va_eqt (t := .elem (.static "RaftTown" "KIND_ABOVE" "[I") (.int 0)) (z := (-1)) (hs _ (by decide +kernel))
  | 1, _ => exact va_eqt (t := .elem (.static "RaftTown" "KIND_ABOVE" "[I") (.int 1)) (z := 0) (hs _ (by decide +kernel))
  | 2, _ => exact va_eqt (t := .elem (.static "RaftTown" "KIND_ABOVE" "[I") (.int 2)) (z := 1) (hs _ (by decide +kernel))
  | 3, _ => exact va_eqt (t := .elem (.static "RaftTown" "KIND_ABOVE" "[I") (.int 3)) (z := 1) (hs _ (by decide +kernel))
  | 4, _ => exact va_eqt (t := .elem (.static "RaftTown" "KIND_ABOVE" "[I") (.int 4)) (z := 0) (hs _ (by decide +kernel))
  | 5, _ => exact va_eqt (t := .elem (.static "RaftTown" "KIND_ABOVE" "[I") (.int 5)) (z := 1) (hs _ (by decide +kernel))
  | j + 6, hj => exact absurd hj (by omega)
set_option maxRecDepth 100000 in
theorem mm_zt2 {args : Array Value} {s : State} (hs : ∀ w ∈ flatC (Jvm.Cond.and given_1 narrow_1), w.before args s = true) : ∃ t : Nat, (Term.static "RaftTown" "AREA" "[I").eval args s none [] s = some (.ref t) ∧ va_T .int t 6 (fun j => mm_za2.getD j .null) (mm_B s.heap.size) s s.heap := by
  refine va_Tof (Nat.le_of_ble_eq_true rfl) (hs _ (by decide +kernel)) (va_eqt (z := 6) (hs _ (by decide +kernel))) (fun j hj => ?_) (fun a ha h => Nat.not_le.mpr ha h)
  match j, hj with
  | 0, _ => exact va_eqt (t := .elem (.static "RaftTown" "AREA" "[I") (.int 0)) (z := 1) (hs _ (by decide +kernel))
  | 1, _ => exact va_eqt (t := .elem (.static "RaftTown" "AREA" "[I") (.int 1)) (z := 2) (hs _ (by decide +kernel))
  | 2, _ => exact va_eqt (t := .elem (.static "RaftTown" "AREA" "[I") (.int 2)) (z := 3) (hs _ (by decide +kernel))
  | 3, _ => exact va_eqt (t := .elem (.static "RaftTown" "AREA" "[I") (.int 3)) (z := 2) (hs _ (by decide +kernel))
  | 4, _ => exact va_eqt (t := .elem (.static "RaftTown" "AREA" "[I") (.int 4)) (z := 1) (hs _ (by decide +kernel))
  | 5, _ => exact va_eqt (t := .elem (.static "RaftTown" "AREA" "[I") (.int 5)) (z := 0) (hs _ (by decide +kernel))
  | j + 6, hj => exact absurd hj (by omega)
set_option maxRecDepth 100000 in
theorem mm_zt3 {args : Array Value} {s : State} (hs : ∀ w ∈ flatC (Jvm.Cond.and given_1 narrow_1), w.before args s = true) : ∃ t : Nat, (Term.static "RaftTown" "BESIDE_X" "[I").eval args s none [] s = some (.ref t) ∧ va_T .int t 4 (fun j => mm_za3.getD j .null) (mm_B s.heap.size) s s.heap := by
  refine va_Tof (Nat.le_of_ble_eq_true rfl) (hs _ (by decide +kernel)) (va_eqt (z := 4) (hs _ (by decide +kernel))) (fun j hj => ?_) (fun a ha h => Nat.not_le.mpr ha h)
  match j, hj with
  | 0, _ => exact va_eqt (t := .elem (.static "RaftTown" "BESIDE_X" "[I") (.int 0)) (z := (-1)) (hs _ (by decide +kernel))
  | 1, _ => exact va_eqt (t := .elem (.static "RaftTown" "BESIDE_X" "[I") (.int 1)) (z := 1) (hs _ (by decide +kernel))
  | 2, _ => exact va_eqt (t := .elem (.static "RaftTown" "BESIDE_X" "[I") (.int 2)) (z := 0) (hs _ (by decide +kernel))
  | 3, _ => exact va_eqt (t := .elem (.static "RaftTown" "BESIDE_X" "[I") (.int 3)) (z := 0) (hs _ (by decide +kernel))
  | j + 4, hj => exact absurd hj (by omega)
set_option maxRecDepth 100000 in
theorem mm_zt4 {args : Array Value} {s : State} (hs : ∀ w ∈ flatC (Jvm.Cond.and given_1 narrow_1), w.before args s = true) : ∃ t : Nat, (Term.static "RaftTown" "BESIDE_Y" "[I").eval args s none [] s = some (.ref t) ∧ va_T .int t 4 (fun j => mm_za4.getD j .null) (mm_B s.heap.size) s s.heap := by
  refine va_Tof (Nat.le_of_ble_eq_true rfl) (hs _ (by decide +kernel)) (va_eqt (z := 4) (hs _ (by decide +kernel))) (fun j hj => ?_) (fun a ha h => Nat.not_le.mpr ha h)
  match j, hj with
  | 0, _ => exact va_eqt (t := .elem (.static "RaftTown" "BESIDE_Y" "[I") (.int 0)) (z := 0) (hs _ (by decide +kernel))
  | 1, _ => exact va_eqt (t := .elem (.static "RaftTown" "BESIDE_Y" "[I") (.int 1)) (z := 0) (hs _ (by decide +kernel))
  | 2, _ => exact va_eqt (t := .elem (.static "RaftTown" "BESIDE_Y" "[I") (.int 2)) (z := (-1)) (hs _ (by decide +kernel))
  | 3, _ => exact va_eqt (t := .elem (.static "RaftTown" "BESIDE_Y" "[I") (.int 3)) (z := 1) (hs _ (by decide +kernel))
  | j + 4, hj => exact absurd hj (by omega)
theorem mm_T_at {φ : Nat → Nat} {kx i t : Nat} {D : va_G} {U : State} {H : Heap} {xs : List Value} {A : Nat → Prop} (hi : φ i = t) (hk : i < kx) (hx : ∀ v ∈ xs, mm_sh φ v = v) (hT : va_T .int t xs.length (fun j => xs.getD j .null) A U H) : mm_at φ kx D vwCl U H i (.inl (.int, xs)) := by
  obtain ⟨cell, h1, h2, h3, h4, h5, h6, -⟩ := hT
  refine ⟨cell, by rw [hi]; exact h1, ⟨h4, h5, fun j v hv => ?_⟩, h3, h2, fun q => absurd q (Nat.not_le.mpr hk)⟩
  obtain ⟨hlt, he⟩ := List.getElem?_eq_some_iff.mp hv
  rw [h6 j hlt, hx v (List.mem_of_getElem? hv)]
  simp [hv]
theorem mm_ints_sh (φ : Nat → Nat) (xs : List Int32) : ∀ v ∈ xs.map Value.int, mm_sh φ v = v := by
  intro v hv
  obtain ⟨x, -, rfl⟩ := List.mem_map.mp hv
  rfl
/-- the law's start, as the small machine has it -/
theorem mm_start {p : Program} {s : State} {m : MethodId} {meth : Method} {c : Code} {b L : Nat} {xs : Nat → Int32} (hL : L ≤ 3072) (C0 : lw_At p s m meth c b L xs) : ∃ (φ : Nat → Nat) (D : va_G), mm_ph φ 5 s.heap.size ∧ φ 0 = b ∧ mm_Fx p s m #[Value.ref b] meth c φ 5 s.heap.size D 13 "RaftTownLaw" 4 false code ∧ mm_R φ 5 s.heap.size D vwCl mm_zs s (mm_m0 L xs) s.heap := by
  obtain ⟨hx, hb, hr, hml, hown, hts, hX, hbl, hlocks, hgv⟩ := id C0
  have hs := flat_of_before _ hgv
  obtain ⟨t1, e1, T1⟩ := mm_zt1 hs
  obtain ⟨t2, e2, T2⟩ := mm_zt2 hs
  obtain ⟨t3, e3, T3⟩ := mm_zt3 hs
  obtain ⟨t4, e4, T4⟩ := mm_zt4 hs
  have htg : ∀ w ∈ mm_gw, w.before #[Value.ref b] s = true := fun w hw => hts w (List.mem_filter.mp hw).1
  obtain ⟨c0, iS0, hKn0⟩ := u_known (C := RX0) (T := TX0) (N := 3) (n := 3) htg mm_fw_0 (htg (.instantiable RX0 3) (mm_wg_in (pl := 2131) (by decide +kernel)))
  obtain ⟨c1, iS1, hKn1⟩ := u_known (C := RX1) (T := TX1) (N := 9) (n := 9) htg mm_fw_1 (htg (.instantiable RX1 9) (mm_wg_in (pl := 1061) (by decide +kernel)))
  obtain ⟨c2, iS2, hKn2⟩ := u_known (C := RX2) (T := TX2) (N := 6) (n := 6) htg mm_fw_2 (htg (.instantiable RX2 6) (mm_wg_in (pl := 2103) (by decide +kernel)))
  obtain ⟨c3, iS3, hKn3⟩ := u_known (C := RX3) (T := TX3) (N := 7) (n := 7) htg mm_fw_3 (htg (.instantiable RX3 7) (mm_wg_in (pl := 1139) (by decide +kernel)))
  obtain ⟨c4, iS4, hKn4⟩ := u_known (C := RX4) (T := TX4) (N := 7) (n := 7) htg mm_fw_4 (htg (.instantiable RX4 7) (mm_wg_in (pl := 1098) (by decide +kernel)))
  obtain ⟨c5, iS5, hKn5⟩ := u_known (C := RX5) (T := TX5) (N := 8) (n := 8) htg mm_fw_5 (htg (.instantiable RX5 8) (mm_wg_in (pl := 1180) (by decide +kernel)))
  obtain ⟨c6, iS6, hKn6⟩ := u_known (C := RX6) (T := TX6) (N := 3) (n := 3) htg mm_fw_6 (htg (.instantiable RX6 3) (mm_wg_in (pl := 1037) (by decide +kernel)))
  obtain ⟨c7, iS7, hKn7⟩ := u_known (C := RX7) (T := TX7) (N := 3) (n := 3) htg mm_fw_7 (htg (.instantiable RX7 3) (mm_wg_in (pl := 2053) (by decide +kernel)))
  obtain ⟨c8, iS8, hKn8⟩ := u_known (C := RX8) (T := TX8) (N := 7) (n := 7) htg mm_fw_8 (htg (.instantiable RX8 7) (mm_wg_in (pl := 2072) (by decide +kernel)))
  obtain ⟨c9, iS9, hKn9⟩ := u_known (C := RX9) (T := TX9) (N := 4) (n := 4) htg mm_fw_9 (htg (.instantiable RX9 4) (mm_wg_in (pl := 1226) (by decide +kernel)))
  obtain ⟨c10, iS10, hKn10⟩ := u_known (C := RX10) (T := TX10) (N := 12) (n := 12) htg mm_fw_10 (htg (.instantiable RX10 12) (mm_wg_in (pl := 1031) (by decide +kernel)))
  obtain ⟨c11, iS11, hKn11⟩ := u_known (C := RX11) (T := TX11) (N := 8) (n := 8) htg mm_fw_11 (htg (.instantiable RX11 8) (mm_wg_in (pl := 1023) (by decide +kernel)))
  obtain ⟨c12, iS12, hKn12⟩ := u_known (C := RX12) (T := TX12) (N := 26) (n := 26) htg mm_fw_12 (htg (.instantiable RX12 26) (mm_wg_in (pl := 6138) (by decide +kernel)))
  obtain ⟨D, hKc⟩ : ∃ D : va_G, ∀ (k : Nat) (q : vw_C), vwCl[k]? = some q → u_Kn s q.1 q.2.1 q.2.2 (D.1 k) (D.2 k) := by
    refine ⟨(fun k => if k = 0 then c0 else if k = 1 then c1 else if k = 2 then c2 else if k = 3 then c3 else if k = 4 then c4 else if k = 5 then c5 else if k = 6 then c6 else if k = 7 then c7 else if k = 8 then c8 else if k = 9 then c9 else if k = 10 then c10 else if k = 11 then c11 else c12, fun k => if k = 0 then iS0 else if k = 1 then iS1 else if k = 2 then iS2 else if k = 3 then iS3 else if k = 4 then iS4 else if k = 5 then iS5 else if k = 6 then iS6 else if k = 7 then iS7 else if k = 8 then iS8 else if k = 9 then iS9 else if k = 10 then iS10 else if k = 11 then iS11 else iS12), ?_⟩
    intro k q hq
    match k, hq with
    | 0, hq => cases hq; exact hKn0
    | 1, hq => cases hq; exact hKn1
    | 2, hq => cases hq; exact hKn2
    | 3, hq => cases hq; exact hKn3
    | 4, hq => cases hq; exact hKn4
    | 5, hq => cases hq; exact hKn5
    | 6, hq => cases hq; exact hKn6
    | 7, hq => cases hq; exact hKn7
    | 8, hq => cases hq; exact hKn8
    | 9, hq => cases hq; exact hKn9
    | 10, hq => cases hq; exact hKn10
    | 11, hq => cases hq; exact hKn11
    | 12, hq => cases hq; exact hKn12
    | k + 13, hq => simp [vwCl] at hq
  have hA : ∀ a : Nat, a < s.heap.size → ¬ mm_B s.heap.size a := fun a ha h => Nat.not_le.mpr ha h
  have hnst : ∀ w ∈ lw_tbl, mm_nest w = true → va_Nw w s := by
    intro w hw hn
    refine va_Nw.of ?_ (hts w hw)
    unfold mm_nest at hn
    split at hn
    · rfl
    · rfl
    · cases hn
  have hctx : mm_Ctx D s := ⟨⟨hKc, fun k q h => by simp at h⟩, hnst, fun C hC => va_AO.of (hts _ hC)⟩
  have l1 : t1 < s.heap.size := by obtain ⟨cell, h1, -⟩ := T1; exact (Array.getElem?_eq_some_iff.mp h1).1
  have l2 : t2 < s.heap.size := by obtain ⟨cell, h1, -⟩ := T2; exact (Array.getElem?_eq_some_iff.mp h1).1
  have l3 : t3 < s.heap.size := by obtain ⟨cell, h1, -⟩ := T3; exact (Array.getElem?_eq_some_iff.mp h1).1
  have l4 : t4 < s.heap.size := by obtain ⟨cell, h1, -⟩ := T4; exact (Array.getElem?_eq_some_iff.mp h1).1
  have hph : mm_ph (mm_f0 b t1 t2 t3 t4 s.heap.size) 5 s.heap.size := by
    refine ⟨fun i hi => ?_, fun i hi => ?_⟩
    · match i, hi with
      | 0, _ => exact hbl
      | 1, _ => exact l1
      | 2, _ => exact l2
      | 3, _ => exact l3
      | 4, _ => exact l4
      | k + 5, hi => exact absurd hi (by omega)
    · obtain ⟨k, rfl⟩ : ∃ k, i = k + 5 := ⟨i - 5, by omega⟩
      show s.heap.size + k = _
      omega
  have ini : Cond.initialized "RaftTown" ∈ mm_gw := mm_wg_in (pl := 1001) (by decide +kernel)
  refine ⟨mm_f0 b t1 t2 t3 t4 s.heap.size, D, hph, rfl, ⟨hx, hb, hml, hown, rfl, htg, hctx, hph, Nat.le_refl _, fun h => by cases h⟩, Nat.le_refl 5, rfl, fun i q hq => ?_, fun z hz => ?_⟩
  · match i, hq with
    | 0, hq =>
      cases hq
      obtain ⟨scr, h1, h2, h3, h4, h5⟩ := hX
      refine ⟨scr, h1, ⟨by simp [mm_scr, h4], by rw [h4]; simp [mm_scr], fun j v hv => ?_⟩, h3, h2, fun q => absurd q (by decide)⟩
      simp only [mm_scr, List.getElem?_map, Option.map_eq_some_iff] at hv
      obtain ⟨j', hj', rfl⟩ := hv
      obtain ⟨hlt, he⟩ := List.getElem?_eq_some_iff.mp hj'
      simp at hlt he
      subst he
      exact h5 j hlt
    | 1, hq => cases hq; exact mm_T_at rfl (by decide) (by intro v hv; simp only [mm_za1, List.mem_cons, List.not_mem_nil, or_false] at hv; rcases hv with rfl | rfl | rfl | rfl | rfl | rfl <;> rfl) T1
    | 2, hq => cases hq; exact mm_T_at rfl (by decide) (by intro v hv; simp only [mm_za2, List.mem_cons, List.not_mem_nil, or_false] at hv; rcases hv with rfl | rfl | rfl | rfl | rfl | rfl <;> rfl) T2
    | 3, hq => cases hq; exact mm_T_at rfl (by decide) (by intro v hv; simp only [mm_za3, List.mem_cons, List.not_mem_nil, or_false] at hv; rcases hv with rfl | rfl | rfl | rfl <;> rfl) T3
    | 4, hq => cases hq; exact mm_T_at rfl (by decide) (by intro v hv; simp only [mm_za4, List.mem_cons, List.not_mem_nil, or_false] at hv; rcases hv with rfl | rfl | rfl | rfl <;> rfl) T4
    | k + 5, hq => simp [mm_m0] at hq
  · simp only [mm_zs, List.mem_cons, List.not_mem_nil, or_false] at hz
    rcases hz with rfl | rfl | rfl | rfl
    · exact va_Zref (hts _ (mm_wd_in (pl := 2228) (by decide +kernel))) (htg _ ini) e1 hA
    · exact va_Zref (hts _ (mm_wd_in (pl := 3012) (by decide +kernel))) (htg _ ini) e2 hA
    · exact va_Zref (hts _ (mm_wd_in (pl := 6032) (by decide +kernel))) (htg _ ini) e3 hA
    · exact va_Zref (hts _ (mm_wd_in (pl := 6034) (by decide +kernel))) (htg _ ini) e4 hA
set_option maxRecDepth 100000 in
/-- THE LAW, from its entry, by a run of the small machine -/
theorem mm_whole {p : Program} {e : Env} {s : State} {m : MethodId} {below : List Frame} {meth : Method} {c : Code} (l : Launch) {b L : Nat} {xs : Nat → Int32} (hL : L ≤ 3072) (C0 : lw_At p s m meth c b L xs) (hrun : ∃ (n d : Nat) (τ : mm_S), d ≤ 1000 ∧ mm_run 5 mm_zs n d (13, code, 4, false) (0, [(0, .ref 0)], [], mm_m0 L xs, 600000, 7302250) = some τ ∧ τ.2.2.1 = [.int 1] ∧ decode code τ.1 = .ok (.ireturn, 1)) : W p l e room_1 s m #[Value.ref b] below meth c s.heap [] 0 0 (lw_Z below #[Value.ref b] s) (entryFrame m ([Value.ref b] : List Value).toArray 4) := by
  obtain ⟨φ, D, hph, h0, F, hR⟩ := mm_start hL C0
  obtain ⟨hx, hb, hr, hml, hown, hts, hX, hbl, hlocks, hgv⟩ := C0
  obtain ⟨n, d, τ, hd, hrun, hst, hdec⟩ := hrun
  have hend : mm_Go p l e room_1 s m #[Value.ref b] below meth c φ 5 s.heap.size D mm_zs 4 (lw_Z below #[Value.ref b] s) τ := by
    obtain ⟨pc, lv, st, mem, cb, sb⟩ := τ
    dsimp only at hst hdec
    subst hst
    intro H locs ls cells slots hR hS hl hc hs
    refine va_forget hS.2.2 (W.widen (k := 600000) (n := 7302250) ?_ ?_ (lw_ret hx hb hr hlocks hdec))
    · have : cells + cb = 600000 := hc
      omega
    · have : slots + sb = 7302250 := hs
      omega
  have hgo := mm_run_ok l φ 5 s.heap.size D mm_zs hph n d (13, code, 4, false) _ τ hrun F (R := room_1) ⟨by show d + 1 ≤ 2048; omega, by show 64 * (d + 1) ≤ 84000; omega⟩ hend
  have hl := lv_entry ([.ref b]) (n := 4) (Nat.le_of_ble_eq_true rfl)
  rw [lg_entry_eq]
  exact hgo s.heap [] _ 0 0 hR va_S.rf (by show lv_has _ _ [(0, .ref (φ 0))]; rw [h0]; exact hl) (Nat.zero_add _) (Nat.zero_add _)
end
section
/-! ===== runs with the callers that wait ===== -/
theorem mm_run_mono (kx : Nat) (zs : List mm_Zt) : ∀ (n : Nat) (d : Nat) (fi : mm_Fi) (σ τ : mm_S), mm_run kx zs n d fi σ = some τ → mm_run kx zs (n + 1) d fi σ = some τ := by
  intro n
  induction n with
  | zero => intro d fi σ τ h; cases h
  | succ n ih =>
    intro d fi σ τ h
    unfold mm_run at h
    rw [mm_run]
    split at h
    · next ins len hd =>
      (try rw [hd])
      (try dsimp only)
      split at h
      · next hr => rw [if_pos hr]; exact h
      · next hr =>
        rw [if_neg hr]
        split at h
        · next σ₁ hst => (try rw [hst]); (try dsimp only); exact ih _ _ _ _ h
        · next hst =>
          (try rw [hst])
          (try dsimp only)
          split at h
          · cases h
          · next d' =>
            (try dsimp only)
            split at h
            · cases h
            · next y As rest hcal =>
              (try rw [hcal])
              (try dsimp only)
              split at h
              · cases h
              · next t ht =>
                (try rw [ht])
                (try dsimp only)
                split at h
                · next hb =>
                  rw [if_pos hb]
                  split at h
                  · cases h
                  · next τ' hτ =>
                    rw [ih _ _ _ _ hτ]
                    (try dsimp only)
                    split at h
                    · cases h
                    · next v hv =>
                      (try rw [hv])
                      (try dsimp only)
                      exact ih _ _ _ _ h
                · cases h
    · cases h
theorem mm_run_le (kx : Nat) (zs : List mm_Zt) {n n' : Nat} (hn : n ≤ n') {d : Nat} {fi : mm_Fi} {σ τ : mm_S} (h : mm_run kx zs n d fi σ = some τ) : mm_run kx zs n' d fi σ = some τ := by
  induction hn with
  | refl => exact h
  | step _ ih => exact mm_run_mono kx zs _ _ _ _ _ ih
abbrev mm_Fr : Type := mm_Fi × mm_Mt × Nat × List (Nat × Value) × List Value × Nat × Nat
def mm_T (kx : Nat) (zs : List mm_Zt) (P : mm_S → Prop) : List mm_Fr → Nat → mm_Fi → mm_S → Prop
  | [], d, fi, σ => ∃ n τ, mm_run kx zs n d fi σ = some τ ∧ P τ
  | f :: K, d, fi, σ => ∃ n τ v, mm_run kx zs n d fi σ = some τ ∧ mm_ret f.2.1 τ = some v ∧ mm_T kx zs P K (d + 1) f.1 (f.2.2.1, f.2.2.2.1, v.toList ++ f.2.2.2.2.1, τ.2.2.2.1, f.2.2.2.2.2.1, f.2.2.2.2.2.2)
theorem mm_T_pre {kx : Nat} {zs : List mm_Zt} {P : mm_S → Prop} {K : List mm_Fr} {d : Nat} {fi : mm_Fi} {σ σ' : mm_S} (h : ∀ n τ, mm_run kx zs n d fi σ' = some τ → ∃ n', mm_run kx zs n' d fi σ = some τ) (hT : mm_T kx zs P K d fi σ') : mm_T kx zs P K d fi σ := by
  cases K with
  | nil =>
    obtain ⟨n, τ, h1, h2⟩ := hT
    obtain ⟨n', h3⟩ := h n τ h1
    exact ⟨n', τ, h3, h2⟩
  | cons f K =>
    obtain ⟨n, τ, v, h1, h2, h4⟩ := hT
    obtain ⟨n', h3⟩ := h n τ h1
    exact ⟨n', τ, v, h3, h2, h4⟩
theorem mm_T_step {kx : Nat} {zs : List mm_Zt} {P : mm_S → Prop} {K : List mm_Fr} {d : Nat} {fi : mm_Fi} {σ σ' : mm_S} {ins : Instr} {len : Nat} (hd : decode fi.2.1 σ.1 = .ok (ins, len)) (hr : mm_isR ins = false) (hs : mm_stp fi.1 fi.2.2.1 kx fi.2.2.2 zs ins len σ = some σ') (hT : mm_T kx zs P K d fi σ') : mm_T kx zs P K d fi σ := by
  refine mm_T_pre (fun n τ h => ⟨n + 1, ?_⟩) hT
  unfold mm_run
  rw [hd]
  simp only [hr, hs]
  exact h
theorem mm_T_fin {kx : Nat} {zs : List mm_Zt} {P : mm_S → Prop} {d : Nat} {fi : mm_Fi} {σ : mm_S} {ins : Instr} {len : Nat} (hd : decode fi.2.1 σ.1 = .ok (ins, len)) (hr : mm_isR ins = true) (hP : P σ) : mm_T kx zs P [] d fi σ := by
  refine ⟨1, σ, ?_, hP⟩
  unfold mm_run
  rw [hd]
  simp only [hr, if_true]
theorem mm_T_ret {kx : Nat} {zs : List mm_Zt} {P : mm_S → Prop} {K : List mm_Fr} {f : mm_Fr} {d : Nat} {fi : mm_Fi} {σ : mm_S} {ins : Instr} {len : Nat} {v : Option Value} (hd : decode fi.2.1 σ.1 = .ok (ins, len)) (hr : mm_isR ins = true) (hv : mm_ret f.2.1 σ = some v) (hT : mm_T kx zs P K (d + 1) f.1 (f.2.2.1, f.2.2.2.1, v.toList ++ f.2.2.2.2.1, σ.2.2.2.1, f.2.2.2.2.2.1, f.2.2.2.2.2.2)) : mm_T kx zs P (f :: K) d fi σ := by
  refine ⟨1, σ, v, ?_, hv, hT⟩
  unfold mm_run
  rw [hd]
  simp only [hr, if_true]
theorem mm_T_call {kx : Nat} {zs : List mm_Zt} {P : mm_S → Prop} {K : List mm_Fr} {d y : Nat} {fi : mm_Fi} {pc cb sb : Nat} {lv : List (Nat × Value)} {st : List Value} {mem : List mm_C} {ins : Instr} {len : Nat} {As rest : List Value} {t : mm_Mt} (hd : decode fi.2.1 pc = .ok (ins, len)) (hr : mm_isR ins = false) (hs : mm_stp fi.1 fi.2.2.1 kx fi.2.2.2 zs ins len (pc, lv, st, mem, cb, sb) = none) (hc : mm_cal fi.1 ins len st mem = some (y, As, rest)) (ht : mm_mths[y]? = some t) (hb : (lg_sl As).length ≤ t.2.2.2.1 ∧ (mm_bud y).1 ≤ cb ∧ (mm_bud y).2 ≤ sb)
    (hT : mm_T kx zs P ((fi, t, pc + 3, lv, rest, cb - (mm_bud y).1, sb - (mm_bud y).2) :: K) d (mm_fi t) (mm_ent y As mem)) : mm_T kx zs P K (d + 1) fi (pc, lv, st, mem, cb, sb) := by
  obtain ⟨n, τ, v, h1, h2, h3⟩ := hT
  refine mm_T_pre (fun n2 τ2 h => ⟨max n n2 + 1, ?_⟩) h3
  unfold mm_run
  rw [hd]
  simp only [hr, hs, hc, ht]
  rw [if_pos hb, mm_run_le kx zs (Nat.le_max_left n n2) h1]
  simp only [h2]
  exact mm_run_le kx zs (Nat.le_max_right n n2) h
end
