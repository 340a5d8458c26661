/-! ===== printed by wip/p2/gen_hand.py: instructions that are gone by hand ===== -/
theorem hd_144_0 : decode (sx_fi 144).2.1 0 = .ok (.iload_n 0, 1) := (sx_dec (y := 144) (full := sx_c144) rfl (e := (0, .iload_n 0, 1, 0, 0, 0, 0)) (List.mem_of_getElem? (i := 0) rfl)).1
theorem hd_144_1 : decode (sx_fi 144).2.1 1 = .ok (.iload_n 1, 1) := (sx_dec (y := 144) (full := sx_c144) rfl (e := (1, .iload_n 1, 1, 0, 0, 0, 0)) (List.mem_of_getElem? (i := 1) rfl)).1
theorem hd_144_2 : decode (sx_fi 144).2.1 2 = .ok (.getstatic 1053, 3) := (sx_dec (y := 144) (full := sx_c144) rfl (e := (2, .getstatic 1053, 3, 10, 3, 0, 0)) (List.mem_of_getElem? (i := 2) rfl)).1
theorem hd_144_5 : decode (sx_fi 144).2.1 5 = .ok (.invokestatic 1059, 3) := (sx_dec (y := 144) (full := sx_c144) rfl (e := (5, .invokestatic 1059, 3, 2, 145, 0, 0)) (List.mem_of_getElem? (i := 3) rfl)).1
theorem hd_144_8 : decode (sx_fi 144).2.1 8 = .ok (.pop, 1) := (sx_dec (y := 144) (full := sx_c144) rfl (e := (8, .pop, 1, 0, 0, 0, 0)) (List.mem_of_getElem? (i := 4) rfl)).1
theorem hd_144_9 : decode (sx_fi 144).2.1 9 = .ok (.return_, 1) := (sx_dec (y := 144) (full := sx_c144) rfl (e := (9, .return_, 1, 0, 0, 0, 0)) (List.mem_of_getElem? (i := 5) rfl)).1
theorem hd_145_0 : decode (sx_fi 145).2.1 0 = .ok (.iload_n 0, 1) := (sx_dec (y := 145) (full := sx_c145) rfl (e := (0, .iload_n 0, 1, 0, 0, 0, 0)) (List.mem_of_getElem? (i := 0) rfl)).1
theorem hd_145_1 : decode (sx_fi 145).2.1 1 = .ok (.ifCond .lt 8, 3) := (sx_dec (y := 145) (full := sx_c145) rfl (e := (1, .ifCond .lt 8, 3, 0, 0, 0, 0)) (List.mem_of_getElem? (i := 1) rfl)).1
theorem hd_145_4 : decode (sx_fi 145).2.1 4 = .ok (.iload_n 0, 1) := (sx_dec (y := 145) (full := sx_c145) rfl (e := (4, .iload_n 0, 1, 0, 0, 0, 0)) (List.mem_of_getElem? (i := 2) rfl)).1
theorem hd_145_5 : decode (sx_fi 145).2.1 5 = .ok (.iload_n 1, 1) := (sx_dec (y := 145) (full := sx_c145) rfl (e := (5, .iload_n 1, 1, 0, 0, 0, 0)) (List.mem_of_getElem? (i := 3) rfl)).1
theorem hd_145_6 : decode (sx_fi 145).2.1 6 = .ok (.if_icmp .lt 10, 3) := (sx_dec (y := 145) (full := sx_c145) rfl (e := (6, .if_icmp .lt 10, 3, 0, 0, 0, 0)) (List.mem_of_getElem? (i := 4) rfl)).1
theorem hd_145_16 : decode (sx_fi 145).2.1 16 = .ok (.iload_n 0, 1) := (sx_dec (y := 145) (full := sx_c145) rfl (e := (16, .iload_n 0, 1, 0, 0, 0, 0)) (List.mem_of_getElem? (i := 10) rfl)).1
theorem hd_145_17 : decode (sx_fi 145).2.1 17 = .ok (.ireturn, 1) := (sx_dec (y := 145) (full := sx_c145) rfl (e := (17, .ireturn, 1, 0, 0, 0, 0)) (List.mem_of_getElem? (i := 11) rfl)).1
theorem hd_309_0 : decode (sx_fi 309).2.1 0 = .ok (.iload_n 0, 1) := (sx_dec (y := 309) (full := sx_c309) rfl (e := (0, .iload_n 0, 1, 0, 0, 0, 0)) (List.mem_of_getElem? (i := 0) rfl)).1
theorem hd_309_1 : decode (sx_fi 309).2.1 1 = .ok (.lookupswitch 105 #[(13, 51), (14, 65), (143, 101), (160, 79), (161, 90)], 51) := (sx_dec (y := 309) (full := sx_c309) rfl (e := (1, .lookupswitch 105 #[(13, 51), (14, 65), (143, 101), (160, 79), (161, 90)], 51, 0, 0, 0, 0)) (List.mem_of_getElem? (i := 1) rfl)).1
theorem hd_287_16 : decode (sx_fi 287).2.1 16 = .ok (.aload_n 0, 1) := (sx_dec (y := 287) (full := sx_c287) rfl (e := (16, .aload_n 0, 1, 0, 0, 0, 0)) (List.mem_of_getElem? (i := 9) rfl)).1
theorem hd_287_17 : decode (sx_fi 287).2.1 17 = .ok (.invokevirtual 282, 3) := (sx_dec (y := 287) (full := sx_c287) rfl (e := (17, .invokevirtual 282, 3, 2, 288, 0, 0)) (List.mem_of_getElem? (i := 10) rfl)).1
theorem hd_287_20 : decode (sx_fi 287).2.1 20 = .ok (.istore_n 2, 1) := (sx_dec (y := 287) (full := sx_c287) rfl (e := (20, .istore_n 2, 1, 0, 0, 0, 0)) (List.mem_of_getElem? (i := 11) rfl)).1
theorem hd_288_27 : decode (sx_fi 288).2.1 27 = .ok (.aload_n 0, 1) := (sx_dec (y := 288) (full := sx_c288) rfl (e := (27, .aload_n 0, 1, 0, 0, 0, 0)) (List.mem_of_getElem? (i := 16) rfl)).1
theorem hd_288_28 : decode (sx_fi 288).2.1 28 = .ok (.iload_n 1, 1) := (sx_dec (y := 288) (full := sx_c288) rfl (e := (28, .iload_n 1, 1, 0, 0, 0, 0)) (List.mem_of_getElem? (i := 17) rfl)).1
theorem hd_288_29 : decode (sx_fi 288).2.1 29 = .ok (.invokevirtual 279, 3) := (sx_dec (y := 288) (full := sx_c288) rfl (e := (29, .invokevirtual 279, 3, 2, 295, 0, 0)) (List.mem_of_getElem? (i := 18) rfl)).1
theorem hd_288_32 : decode (sx_fi 288).2.1 32 = .ok (.ifCond .ne 5, 3) := (sx_dec (y := 288) (full := sx_c288) rfl (e := (32, .ifCond .ne 5, 3, 0, 0, 0, 0)) (List.mem_of_getElem? (i := 19) rfl)).1
theorem hd_295_181 : decode (sx_fi 295).2.1 181 = .ok (.aload_n 0, 1) := (sx_dec (y := 295) (full := sx_c295) rfl (e := (181, .aload_n 0, 1, 0, 0, 0, 0)) (List.mem_of_getElem? (i := 93) rfl)).1
theorem hd_295_182 : decode (sx_fi 295).2.1 182 = .ok (.sipush 140, 3) := (sx_dec (y := 295) (full := sx_c295) rfl (e := (182, .sipush 140, 3, 0, 0, 0, 0)) (List.mem_of_getElem? (i := 94) rfl)).1
theorem hd_295_185 : decode (sx_fi 295).2.1 185 = .ok (.invokevirtual 269, 3) := (sx_dec (y := 295) (full := sx_c295) rfl (e := (185, .invokevirtual 269, 3, 2, 296, 0, 0)) (List.mem_of_getElem? (i := 95) rfl)).1
theorem hd_295_188 : decode (sx_fi 295).2.1 188 = .ok (.ifCond .le 21, 3) := (sx_dec (y := 295) (full := sx_c295) rfl (e := (188, .ifCond .le 21, 3, 0, 0, 0, 0)) (List.mem_of_getElem? (i := 96) rfl)).1
theorem hd_295_191 : decode (sx_fi 295).2.1 191 = .ok (.aload_n 0, 1) := (sx_dec (y := 295) (full := sx_c295) rfl (e := (191, .aload_n 0, 1, 0, 0, 0, 0)) (List.mem_of_getElem? (i := 97) rfl)).1
theorem hd_295_192 : decode (sx_fi 295).2.1 192 = .ok (.iconst 1, 1) := (sx_dec (y := 295) (full := sx_c295) rfl (e := (192, .iconst 1, 1, 0, 0, 0, 0)) (List.mem_of_getElem? (i := 98) rfl)).1
theorem hd_295_193 : decode (sx_fi 295).2.1 193 = .ok (.invokevirtual 272, 3) := (sx_dec (y := 295) (full := sx_c295) rfl (e := (193, .invokevirtual 272, 3, 2, 298, 0, 0)) (List.mem_of_getElem? (i := 99) rfl)).1
theorem hd_295_219 : decode (sx_fi 295).2.1 219 = .ok (.aload_n 0, 1) := (sx_dec (y := 295) (full := sx_c295) rfl (e := (219, .aload_n 0, 1, 0, 0, 0, 0)) (List.mem_of_getElem? (i := 111) rfl)).1
theorem hd_295_229 : decode (sx_fi 295).2.1 229 = .ok (.aload_n 0, 1) := (sx_dec (y := 295) (full := sx_c295) rfl (e := (229, .aload_n 0, 1, 0, 0, 0, 0)) (List.mem_of_getElem? (i := 115) rfl)).1
theorem hd_295_230 : decode (sx_fi 295).2.1 230 = .ok (.iconst 1, 1) := (sx_dec (y := 295) (full := sx_c295) rfl (e := (230, .iconst 1, 1, 0, 0, 0, 0)) (List.mem_of_getElem? (i := 116) rfl)).1
theorem hd_295_231 : decode (sx_fi 295).2.1 231 = .ok (.invokevirtual 272, 3) := (sx_dec (y := 295) (full := sx_c295) rfl (e := (231, .invokevirtual 272, 3, 2, 298, 0, 0)) (List.mem_of_getElem? (i := 117) rfl)).1
theorem hd_295_300 : decode (sx_fi 295).2.1 300 = .ok (.aload_n 0, 1) := (sx_dec (y := 295) (full := sx_c295) rfl (e := (300, .aload_n 0, 1, 0, 0, 0, 0)) (List.mem_of_getElem? (i := 154) rfl)).1
theorem hd_295_301 : decode (sx_fi 295).2.1 301 = .ok (.iload 4, 2) := (sx_dec (y := 295) (full := sx_c295) rfl (e := (301, .iload 4, 2, 0, 0, 0, 0)) (List.mem_of_getElem? (i := 155) rfl)).1
theorem hd_295_303 : decode (sx_fi 295).2.1 303 = .ok (.invokevirtual 272, 3) := (sx_dec (y := 295) (full := sx_c295) rfl (e := (303, .invokevirtual 272, 3, 2, 298, 0, 0)) (List.mem_of_getElem? (i := 156) rfl)).1
