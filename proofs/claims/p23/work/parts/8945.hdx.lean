/-! ===== the law: where it begins, where it ends ===== -/
theorem la_dw {l : List sx_I} {tg : Nat} : (∀ e ∈ l.dropWhile (fun e => !(Nat.beq e.1 tg)), e ∈ l) ∧ ∀ e t, l.dropWhile (fun e => !(Nat.beq e.1 tg)) = e :: t → e.1 = tg := by
  induction l with
  | nil => exact ⟨fun e h => h, fun e t h => by cases h⟩
  | cons a l ih =>
    by_cases ha : Nat.beq a.1 tg = true
    · rw [List.dropWhile_cons_of_neg (by simp [ha])]
      exact ⟨fun e h => h, fun e t h => by cases h; exact Nat.eq_of_beq_eq_true ha⟩
    · rw [List.dropWhile_cons_of_pos (by simp [ha])]
      exact ⟨fun e h => List.mem_cons_of_mem _ (ih.1 e h), ih.2⟩
def la_Q (τ : mm_S) : Prop := τ.2.2.1 = [.int 1] ∧ decode code τ.1 = .ok (.ireturn, 1)
theorem la_fi : sx_fi 330 = (13, code, 4, false) := rfl
set_option maxRecDepth 100000 in
theorem hd_330_0 : decode (sx_fi 330).2.1 0 = .ok (.new 7, 3) := (sx_dec (y := 330) (full := sx_c330) rfl (e := (0, .new 7, 3, 4, 11, 1023, 1001)) (List.mem_of_getElem? (i := 0) rfl)).1
set_option maxRecDepth 100000 in
theorem hd_330_3 : decode (sx_fi 330).2.1 3 = .ok (.dup, 1) := (sx_dec (y := 330) (full := sx_c330) rfl (e := (3, .dup, 1, 0, 0, 0, 0)) (List.mem_of_getElem? (i := 1) rfl)).1
set_option maxRecDepth 100000 in
theorem hd_330_4 : decode (sx_fi 330).2.1 4 = .ok (.invokespecial 9, 3) := (sx_dec (y := 330) (full := sx_c330) rfl (e := (4, .invokespecial 9, 3, 2, 0, 0, 0)) (List.mem_of_getElem? (i := 2) rfl)).1
set_option maxRecDepth 100000 in
theorem hd_330_7 : decode (sx_fi 330).2.1 7 = .ok (.astore_n 1, 1) := (sx_dec (y := 330) (full := sx_c330) rfl (e := (7, .astore_n 1, 1, 0, 0, 0, 0)) (List.mem_of_getElem? (i := 3) rfl)).1
set_option maxRecDepth 100000 in
theorem hd_330_8 : decode (sx_fi 330).2.1 8 = .ok (.new 10, 3) := (sx_dec (y := 330) (full := sx_c330) rfl (e := (8, .new 10, 3, 4, 12, 6138, 1013)) (List.mem_of_getElem? (i := 4) rfl)).1
set_option maxRecDepth 100000 in
theorem hd_330_11 : decode (sx_fi 330).2.1 11 = .ok (.dup, 1) := (sx_dec (y := 330) (full := sx_c330) rfl (e := (11, .dup, 1, 0, 0, 0, 0)) (List.mem_of_getElem? (i := 5) rfl)).1
set_option maxRecDepth 100000 in
theorem hd_330_12 : decode (sx_fi 330).2.1 12 = .ok (.invokespecial 12, 3) := (sx_dec (y := 330) (full := sx_c330) rfl (e := (12, .invokespecial 12, 3, 2, 218, 0, 0)) (List.mem_of_getElem? (i := 6) rfl)).1
set_option maxRecDepth 100000 in
theorem hd_330_15 : decode (sx_fi 330).2.1 15 = .ok (.astore_n 2, 1) := (sx_dec (y := 330) (full := sx_c330) rfl (e := (15, .astore_n 2, 1, 0, 0, 0, 0)) (List.mem_of_getElem? (i := 7) rfl)).1
set_option maxRecDepth 100000 in
theorem hd_330_16 : decode (sx_fi 330).2.1 16 = .ok (.iconst 0, 1) := (sx_dec (y := 330) (full := sx_c330) rfl (e := (16, .iconst 0, 1, 0, 0, 0, 0)) (List.mem_of_getElem? (i := 8) rfl)).1
set_option maxRecDepth 100000 in
theorem hd_330_17 : decode (sx_fi 330).2.1 17 = .ok (.istore_n 3, 1) := (sx_dec (y := 330) (full := sx_c330) rfl (e := (17, .istore_n 3, 1, 0, 0, 0, 0)) (List.mem_of_getElem? (i := 9) rfl)).1
set_option maxRecDepth 100000 in
theorem hd_330_18 : decode (sx_fi 330).2.1 18 = .ok (.iload_n 3, 1) := (sx_dec (y := 330) (full := sx_c330) rfl (e := (18, .iload_n 3, 1, 0, 0, 0, 0)) (List.mem_of_getElem? (i := 10) rfl)).1
set_option maxRecDepth 100000 in
theorem hd_330_19 : decode (sx_fi 330).2.1 19 = .ok (.aload_n 0, 1) := (sx_dec (y := 330) (full := sx_c330) rfl (e := (19, .aload_n 0, 1, 0, 0, 0, 0)) (List.mem_of_getElem? (i := 11) rfl)).1
set_option maxRecDepth 100000 in
theorem hd_330_20 : decode (sx_fi 330).2.1 20 = .ok (.arraylength, 1) := (sx_dec (y := 330) (full := sx_c330) rfl (e := (20, .arraylength, 1, 0, 0, 0, 0)) (List.mem_of_getElem? (i := 12) rfl)).1
set_option maxRecDepth 100000 in
theorem hd_330_21 : decode (sx_fi 330).2.1 21 = .ok (.bipush 6, 2) := (sx_dec (y := 330) (full := sx_c330) rfl (e := (21, .bipush 6, 2, 0, 0, 0, 0)) (List.mem_of_getElem? (i := 13) rfl)).1
set_option maxRecDepth 100000 in
theorem hd_330_23 : decode (sx_fi 330).2.1 23 = .ok (.isub, 1) := (sx_dec (y := 330) (full := sx_c330) rfl (e := (23, .isub, 1, 0, 0, 0, 0)) (List.mem_of_getElem? (i := 14) rfl)).1
set_option maxRecDepth 100000 in
theorem hd_330_24 : decode (sx_fi 330).2.1 24 = .ok (.if_icmp .gt 1618, 3) := (sx_dec (y := 330) (full := sx_c330) rfl (e := (24, .if_icmp .gt 1618, 3, 0, 0, 0, 0)) (List.mem_of_getElem? (i := 15) rfl)).1
set_option maxRecDepth 100000 in
theorem hd_330_27 : decode (sx_fi 330).2.1 27 = .ok (.aload_n 0, 1) := (sx_dec (y := 330) (full := sx_c330) rfl (e := (27, .aload_n 0, 1, 0, 0, 0, 0)) (List.mem_of_getElem? (i := 16) rfl)).1
set_option maxRecDepth 100000 in
theorem hd_330_28 : decode (sx_fi 330).2.1 28 = .ok (.iload_n 3, 1) := (sx_dec (y := 330) (full := sx_c330) rfl (e := (28, .iload_n 3, 1, 0, 0, 0, 0)) (List.mem_of_getElem? (i := 17) rfl)).1
set_option maxRecDepth 100000 in
theorem hd_330_29 : decode (sx_fi 330).2.1 29 = .ok (.iaload, 1) := (sx_dec (y := 330) (full := sx_c330) rfl (e := (29, .iaload, 1, 0, 0, 0, 0)) (List.mem_of_getElem? (i := 18) rfl)).1
set_option maxRecDepth 100000 in
theorem hd_330_30 : decode (sx_fi 330).2.1 30 = .ok (.bipush 63, 2) := (sx_dec (y := 330) (full := sx_c330) rfl (e := (30, .bipush 63, 2, 0, 0, 0, 0)) (List.mem_of_getElem? (i := 19) rfl)).1
set_option maxRecDepth 100000 in
theorem hd_330_32 : decode (sx_fi 330).2.1 32 = .ok (.iand, 1) := (sx_dec (y := 330) (full := sx_c330) rfl (e := (32, .iand, 1, 0, 0, 0, 0)) (List.mem_of_getElem? (i := 20) rfl)).1
set_option maxRecDepth 100000 in
theorem hd_330_33 : decode (sx_fi 330).2.1 33 = .ok (.tableswitch 1603 0 39 #[175, 218, 271, 304, 337, 396, 465, 518, 551, 584, 617, 680, 703, 736, 769, 782, 805, 838, 871, 904, 927, 990, 1013, 1046, 1069, 1102, 1135, 1158, 1181, 1214, 1247, 1296, 1339, 1372, 1405, 1448, 1491, 1554, 1567, 1580], 175) := (sx_dec (y := 330) (full := sx_c330) rfl (e := (33, .tableswitch 1603 0 39 #[175, 218, 271, 304, 337, 396, 465, 518, 551, 584, 617, 680, 703, 736, 769, 782, 805, 838, 871, 904, 927, 990, 1013, 1046, 1069, 1102, 1135, 1158, 1181, 1214, 1247, 1296, 1339, 1372, 1405, 1448, 1491, 1554, 1567, 1580], 175, 0, 0, 0, 0)) (List.mem_of_getElem? (i := 21) rfl)).1
set_option maxRecDepth 100000 in
theorem hd_330_1044 : decode (sx_fi 330).2.1 1044 = .ok (.iconst 0, 1) := (sx_dec (y := 330) (full := sx_c330) rfl (e := (1044, .iconst 0, 1, 0, 0, 0, 0)) (List.mem_of_getElem? (i := 704) rfl)).1
set_option maxRecDepth 100000 in
theorem hd_330_1045 : decode (sx_fi 330).2.1 1045 = .ok (.ireturn, 1) := (sx_dec (y := 330) (full := sx_c330) rfl (e := (1045, .ireturn, 1, 0, 0, 0, 0)) (List.mem_of_getElem? (i := 705) rfl)).1
set_option maxRecDepth 100000 in
theorem hd_330_1049 : decode (sx_fi 330).2.1 1049 = .ok (.iconst 1, 1) := (sx_dec (y := 330) (full := sx_c330) rfl (e := (1049, .iconst 1, 1, 0, 0, 0, 0)) (List.mem_of_getElem? (i := 709) rfl)).1
set_option maxRecDepth 100000 in
theorem hd_330_1064 : decode (sx_fi 330).2.1 1064 = .ok (.iconst 1, 1) := (sx_dec (y := 330) (full := sx_c330) rfl (e := (1064, .iconst 1, 1, 0, 0, 0, 0)) (List.mem_of_getElem? (i := 722) rfl)).1
set_option maxRecDepth 100000 in
theorem hd_330_1082 : decode (sx_fi 330).2.1 1082 = .ok (.iconst 1, 1) := (sx_dec (y := 330) (full := sx_c330) rfl (e := (1082, .iconst 1, 1, 0, 0, 0, 0)) (List.mem_of_getElem? (i := 736) rfl)).1
set_option maxRecDepth 100000 in
theorem hd_330_1092 : decode (sx_fi 330).2.1 1092 = .ok (.iconst 1, 1) := (sx_dec (y := 330) (full := sx_c330) rfl (e := (1092, .iconst 1, 1, 0, 0, 0, 0)) (List.mem_of_getElem? (i := 744) rfl)).1
set_option maxRecDepth 100000 in
theorem hd_330_1105 : decode (sx_fi 330).2.1 1105 = .ok (.iconst 1, 1) := (sx_dec (y := 330) (full := sx_c330) rfl (e := (1105, .iconst 1, 1, 0, 0, 0, 0)) (List.mem_of_getElem? (i := 753) rfl)).1
set_option maxRecDepth 100000 in
theorem hd_330_1120 : decode (sx_fi 330).2.1 1120 = .ok (.iconst 1, 1) := (sx_dec (y := 330) (full := sx_c330) rfl (e := (1120, .iconst 1, 1, 0, 0, 0, 0)) (List.mem_of_getElem? (i := 766) rfl)).1
set_option maxRecDepth 100000 in
theorem hd_330_1138 : decode (sx_fi 330).2.1 1138 = .ok (.iconst 1, 1) := (sx_dec (y := 330) (full := sx_c330) rfl (e := (1138, .iconst 1, 1, 0, 0, 0, 0)) (List.mem_of_getElem? (i := 780) rfl)).1
set_option maxRecDepth 100000 in
theorem hd_330_1153 : decode (sx_fi 330).2.1 1153 = .ok (.iconst 1, 1) := (sx_dec (y := 330) (full := sx_c330) rfl (e := (1153, .iconst 1, 1, 0, 0, 0, 0)) (List.mem_of_getElem? (i := 793) rfl)).1
set_option maxRecDepth 100000 in
theorem hd_330_1171 : decode (sx_fi 330).2.1 1171 = .ok (.iconst 1, 1) := (sx_dec (y := 330) (full := sx_c330) rfl (e := (1171, .iconst 1, 1, 0, 0, 0, 0)) (List.mem_of_getElem? (i := 807) rfl)).1
set_option maxRecDepth 100000 in
theorem hd_330_1181 : decode (sx_fi 330).2.1 1181 = .ok (.iconst 1, 1) := (sx_dec (y := 330) (full := sx_c330) rfl (e := (1181, .iconst 1, 1, 0, 0, 0, 0)) (List.mem_of_getElem? (i := 815) rfl)).1
set_option maxRecDepth 100000 in
theorem hd_330_1194 : decode (sx_fi 330).2.1 1194 = .ok (.iconst 1, 1) := (sx_dec (y := 330) (full := sx_c330) rfl (e := (1194, .iconst 1, 1, 0, 0, 0, 0)) (List.mem_of_getElem? (i := 824) rfl)).1
set_option maxRecDepth 100000 in
theorem hd_330_1204 : decode (sx_fi 330).2.1 1204 = .ok (.iconst 1, 1) := (sx_dec (y := 330) (full := sx_c330) rfl (e := (1204, .iconst 1, 1, 0, 0, 0, 0)) (List.mem_of_getElem? (i := 832) rfl)).1
set_option maxRecDepth 100000 in
theorem hd_330_1217 : decode (sx_fi 330).2.1 1217 = .ok (.iconst 1, 1) := (sx_dec (y := 330) (full := sx_c330) rfl (e := (1217, .iconst 1, 1, 0, 0, 0, 0)) (List.mem_of_getElem? (i := 841) rfl)).1
set_option maxRecDepth 100000 in
theorem hd_330_1232 : decode (sx_fi 330).2.1 1232 = .ok (.iconst 1, 1) := (sx_dec (y := 330) (full := sx_c330) rfl (e := (1232, .iconst 1, 1, 0, 0, 0, 0)) (List.mem_of_getElem? (i := 854) rfl)).1
set_option maxRecDepth 100000 in
theorem hd_330_1250 : decode (sx_fi 330).2.1 1250 = .ok (.iconst 1, 1) := (sx_dec (y := 330) (full := sx_c330) rfl (e := (1250, .iconst 1, 1, 0, 0, 0, 0)) (List.mem_of_getElem? (i := 868) rfl)).1
set_option maxRecDepth 100000 in
theorem hd_330_1265 : decode (sx_fi 330).2.1 1265 = .ok (.iconst 1, 1) := (sx_dec (y := 330) (full := sx_c330) rfl (e := (1265, .iconst 1, 1, 0, 0, 0, 0)) (List.mem_of_getElem? (i := 881) rfl)).1
set_option maxRecDepth 100000 in
theorem hd_330_1283 : decode (sx_fi 330).2.1 1283 = .ok (.iconst 1, 1) := (sx_dec (y := 330) (full := sx_c330) rfl (e := (1283, .iconst 1, 1, 0, 0, 0, 0)) (List.mem_of_getElem? (i := 895) rfl)).1
set_option maxRecDepth 100000 in
theorem hd_330_1294 : decode (sx_fi 330).2.1 1294 = .ok (.iconst 1, 1) := (sx_dec (y := 330) (full := sx_c330) rfl (e := (1294, .iconst 1, 1, 0, 0, 0, 0)) (List.mem_of_getElem? (i := 904) rfl)).1
set_option maxRecDepth 100000 in
theorem hd_330_1298 : decode (sx_fi 330).2.1 1298 = .ok (.iconst 0, 1) := (sx_dec (y := 330) (full := sx_c330) rfl (e := (1298, .iconst 0, 1, 0, 0, 0, 0)) (List.mem_of_getElem? (i := 906) rfl)).1
set_option maxRecDepth 100000 in
theorem hd_330_1306 : decode (sx_fi 330).2.1 1306 = .ok (.iconst 1, 1) := (sx_dec (y := 330) (full := sx_c330) rfl (e := (1306, .iconst 1, 1, 0, 0, 0, 0)) (List.mem_of_getElem? (i := 912) rfl)).1
set_option maxRecDepth 100000 in
theorem hd_330_1317 : decode (sx_fi 330).2.1 1317 = .ok (.iconst 1, 1) := (sx_dec (y := 330) (full := sx_c330) rfl (e := (1317, .iconst 1, 1, 0, 0, 0, 0)) (List.mem_of_getElem? (i := 921) rfl)).1
set_option maxRecDepth 100000 in
theorem hd_330_1321 : decode (sx_fi 330).2.1 1321 = .ok (.iconst 0, 1) := (sx_dec (y := 330) (full := sx_c330) rfl (e := (1321, .iconst 0, 1, 0, 0, 0, 0)) (List.mem_of_getElem? (i := 923) rfl)).1
set_option maxRecDepth 100000 in
theorem hd_330_1332 : decode (sx_fi 330).2.1 1332 = .ok (.iconst 1, 1) := (sx_dec (y := 330) (full := sx_c330) rfl (e := (1332, .iconst 1, 1, 0, 0, 0, 0)) (List.mem_of_getElem? (i := 930) rfl)).1
set_option maxRecDepth 100000 in
theorem hd_330_1352 : decode (sx_fi 330).2.1 1352 = .ok (.iconst 1, 1) := (sx_dec (y := 330) (full := sx_c330) rfl (e := (1352, .iconst 1, 1, 0, 0, 0, 0)) (List.mem_of_getElem? (i := 948) rfl)).1
set_option maxRecDepth 100000 in
theorem hd_330_1375 : decode (sx_fi 330).2.1 1375 = .ok (.iconst 1, 1) := (sx_dec (y := 330) (full := sx_c330) rfl (e := (1375, .iconst 1, 1, 0, 0, 0, 0)) (List.mem_of_getElem? (i := 967) rfl)).1
set_option maxRecDepth 100000 in
theorem hd_330_1390 : decode (sx_fi 330).2.1 1390 = .ok (.iconst 1, 1) := (sx_dec (y := 330) (full := sx_c330) rfl (e := (1390, .iconst 1, 1, 0, 0, 0, 0)) (List.mem_of_getElem? (i := 980) rfl)).1
set_option maxRecDepth 100000 in
theorem hd_330_1408 : decode (sx_fi 330).2.1 1408 = .ok (.iconst 1, 1) := (sx_dec (y := 330) (full := sx_c330) rfl (e := (1408, .iconst 1, 1, 0, 0, 0, 0)) (List.mem_of_getElem? (i := 994) rfl)).1
set_option maxRecDepth 100000 in
theorem hd_330_1423 : decode (sx_fi 330).2.1 1423 = .ok (.iconst 1, 1) := (sx_dec (y := 330) (full := sx_c330) rfl (e := (1423, .iconst 1, 1, 0, 0, 0, 0)) (List.mem_of_getElem? (i := 1007) rfl)).1
set_option maxRecDepth 100000 in
theorem hd_330_1441 : decode (sx_fi 330).2.1 1441 = .ok (.iconst 1, 1) := (sx_dec (y := 330) (full := sx_c330) rfl (e := (1441, .iconst 1, 1, 0, 0, 0, 0)) (List.mem_of_getElem? (i := 1021) rfl)).1
set_option maxRecDepth 100000 in
theorem hd_330_1461 : decode (sx_fi 330).2.1 1461 = .ok (.iconst 1, 1) := (sx_dec (y := 330) (full := sx_c330) rfl (e := (1461, .iconst 1, 1, 0, 0, 0, 0)) (List.mem_of_getElem? (i := 1039) rfl)).1
set_option maxRecDepth 100000 in
theorem hd_330_1484 : decode (sx_fi 330).2.1 1484 = .ok (.iconst 1, 1) := (sx_dec (y := 330) (full := sx_c330) rfl (e := (1484, .iconst 1, 1, 0, 0, 0, 0)) (List.mem_of_getElem? (i := 1058) rfl)).1
set_option maxRecDepth 100000 in
theorem hd_330_1504 : decode (sx_fi 330).2.1 1504 = .ok (.iconst 1, 1) := (sx_dec (y := 330) (full := sx_c330) rfl (e := (1504, .iconst 1, 1, 0, 0, 0, 0)) (List.mem_of_getElem? (i := 1076) rfl)).1
set_option maxRecDepth 100000 in
theorem hd_330_1527 : decode (sx_fi 330).2.1 1527 = .ok (.iconst 1, 1) := (sx_dec (y := 330) (full := sx_c330) rfl (e := (1527, .iconst 1, 1, 0, 0, 0, 0)) (List.mem_of_getElem? (i := 1095) rfl)).1
set_option maxRecDepth 100000 in
theorem hd_330_1557 : decode (sx_fi 330).2.1 1557 = .ok (.iconst 1, 1) := (sx_dec (y := 330) (full := sx_c330) rfl (e := (1557, .iconst 1, 1, 0, 0, 0, 0)) (List.mem_of_getElem? (i := 1123) rfl)).1
set_option maxRecDepth 100000 in
theorem hd_330_1616 : decode (sx_fi 330).2.1 1616 = .ok (.iconst 1, 1) := (sx_dec (y := 330) (full := sx_c330) rfl (e := (1616, .iconst 1, 1, 0, 0, 0, 0)) (List.mem_of_getElem? (i := 1166) rfl)).1
set_option maxRecDepth 100000 in
theorem hd_330_1626 : decode (sx_fi 330).2.1 1626 = .ok (.iconst 1, 1) := (sx_dec (y := 330) (full := sx_c330) rfl (e := (1626, .iconst 1, 1, 0, 0, 0, 0)) (List.mem_of_getElem? (i := 1174) rfl)).1
set_option maxRecDepth 100000 in
theorem hd_330_1642 : decode (sx_fi 330).2.1 1642 = .ok (.iconst 1, 1) := (sx_dec (y := 330) (full := sx_c330) rfl (e := (1642, .iconst 1, 1, 0, 0, 0, 0)) (List.mem_of_getElem? (i := 1182) rfl)).1
set_option maxRecDepth 100000 in
theorem hd_330_1643 : decode (sx_fi 330).2.1 1643 = .ok (.ireturn, 1) := (sx_dec (y := 330) (full := sx_c330) rfl (e := (1643, .ireturn, 1, 0, 0, 0, 0)) (List.mem_of_getElem? (i := 1183) rfl)).1
