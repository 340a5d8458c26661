/-! ===== runs of the law on a fresh object, by the kernel ===== -/
theorem sx_g_j : sx_done (sx_itA mm_zs 14 [sx_s0 6 37 38]) = true := by decide +kernel
theorem sx_u_0 : sx_done (sx_itA mm_zs 14 [sx_s1 30 31 0 2147483669]) = true := by decide +kernel
theorem sx_u_1 : sx_done (sx_itA mm_zs 14 [sx_s1 30 31 2147483669 4294967296]) = true := by decide +kernel
