/-! ===== runs of the law on a fresh object, by the kernel ===== -/
theorem sx_g_c : sx_done (sx_itA mm_zs 14 [sx_s0 6 0 1]) = true := by decide +kernel
theorem sx_g_d : sx_done (sx_itA mm_zs 14 [sx_s0 6 14 18]) = true := by decide +kernel
