/-! ===== printed by wip/gen_code.py: the methods' instructions ===== -/
theorem sx_q330_18 : (sx_c330.drop 1152).all (sx_chk 13 code) = true := by
  have h : (sx_c330.drop 1152).length ≤ 64 := by decide +kernel
  rw [← List.take_of_length_le h]
  exact sx_k330_18
theorem sx_q330_17 : (sx_c330.drop 1088).all (sx_chk 13 code) = true := sx_ck (l := sx_c330) (a := 1088) 64 sx_k330_17 sx_q330_18
theorem sx_q330_16 : (sx_c330.drop 1024).all (sx_chk 13 code) = true := sx_ck (l := sx_c330) (a := 1024) 64 sx_k330_16 sx_q330_17
theorem sx_q330_15 : (sx_c330.drop 960).all (sx_chk 13 code) = true := sx_ck (l := sx_c330) (a := 960) 64 sx_k330_15 sx_q330_16
theorem sx_q330_14 : (sx_c330.drop 896).all (sx_chk 13 code) = true := sx_ck (l := sx_c330) (a := 896) 64 sx_k330_14 sx_q330_15
theorem sx_q330_13 : (sx_c330.drop 832).all (sx_chk 13 code) = true := sx_ck (l := sx_c330) (a := 832) 64 sx_k330_13 sx_q330_14
theorem sx_q330_12 : (sx_c330.drop 768).all (sx_chk 13 code) = true := sx_ck (l := sx_c330) (a := 768) 64 sx_k330_12 sx_q330_13
theorem sx_q330_11 : (sx_c330.drop 704).all (sx_chk 13 code) = true := sx_ck (l := sx_c330) (a := 704) 64 sx_k330_11 sx_q330_12
theorem sx_q330_10 : (sx_c330.drop 640).all (sx_chk 13 code) = true := sx_ck (l := sx_c330) (a := 640) 64 sx_k330_10 sx_q330_11
theorem sx_q330_9 : (sx_c330.drop 576).all (sx_chk 13 code) = true := sx_ck (l := sx_c330) (a := 576) 64 sx_k330_9 sx_q330_10
theorem sx_q330_8 : (sx_c330.drop 512).all (sx_chk 13 code) = true := sx_ck (l := sx_c330) (a := 512) 64 sx_k330_8 sx_q330_9
theorem sx_q330_7 : (sx_c330.drop 448).all (sx_chk 13 code) = true := sx_ck (l := sx_c330) (a := 448) 64 sx_k330_7 sx_q330_8
theorem sx_q330_6 : (sx_c330.drop 384).all (sx_chk 13 code) = true := sx_ck (l := sx_c330) (a := 384) 64 sx_k330_6 sx_q330_7
theorem sx_q330_5 : (sx_c330.drop 320).all (sx_chk 13 code) = true := sx_ck (l := sx_c330) (a := 320) 64 sx_k330_5 sx_q330_6
theorem sx_q330_4 : (sx_c330.drop 256).all (sx_chk 13 code) = true := sx_ck (l := sx_c330) (a := 256) 64 sx_k330_4 sx_q330_5
theorem sx_q330_3 : (sx_c330.drop 192).all (sx_chk 13 code) = true := sx_ck (l := sx_c330) (a := 192) 64 sx_k330_3 sx_q330_4
theorem sx_q330_2 : (sx_c330.drop 128).all (sx_chk 13 code) = true := sx_ck (l := sx_c330) (a := 128) 64 sx_k330_2 sx_q330_3
theorem sx_q330_1 : (sx_c330.drop 64).all (sx_chk 13 code) = true := sx_ck (l := sx_c330) (a := 64) 64 sx_k330_1 sx_q330_2
theorem sx_q330_0 : (sx_c330.drop 0).all (sx_chk 13 code) = true := sx_ck (l := sx_c330) (a := 0) 64 sx_k330_0 sx_q330_1
theorem sx_k330 : sx_c330.all (sx_chk 13 code) = true := by
  have h := sx_q330_0
  rw [List.drop_zero] at h
  exact h
