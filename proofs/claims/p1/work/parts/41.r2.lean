/-! ===== runs of the law on a fresh object, by the kernel ===== -/
theorem sx_g_a : sx_done (sx_itA mm_zs 14 [sx_s0 6 38 64]) = true := by decide +kernel
theorem sx_g_b : sx_done (sx_itA mm_zs 14 [sx_s0 6 1 14]) = true := by decide +kernel
