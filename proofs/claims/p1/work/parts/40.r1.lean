/-! ===== runs of the law on a fresh object, by the kernel ===== -/
theorem sx_r_0 : sx_done (sx_itA mm_zs 13 [sx_s0 0 0 64]) = true := by decide +kernel
theorem sx_r_1 : sx_done (sx_itA mm_zs 13 [sx_s0 1 0 64]) = true := by decide +kernel
theorem sx_r_2 : sx_done (sx_itA mm_zs 13 [sx_s0 2 0 64]) = true := by decide +kernel
theorem sx_r_3 : sx_done (sx_itA mm_zs 13 [sx_s0 3 0 64]) = true := by decide +kernel
theorem sx_r_4 : sx_done (sx_itA mm_zs 13 [sx_s0 4 0 64]) = true := by decide +kernel
theorem sx_r_5 : sx_done (sx_itA mm_zs 13 [sx_s0 5 0 64]) = true := by decide +kernel
