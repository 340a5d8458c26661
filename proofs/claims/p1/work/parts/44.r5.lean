/-! ===== runs of the law on a fresh object, by the kernel ===== -/
theorem sx_g_h : sx_done (sx_itA mm_zs 14 [sx_s0 6 31 34]) = true := by decide +kernel
theorem sx_g_i : sx_done (sx_itA mm_zs 14 [sx_s0 6 35 37]) = true := by decide +kernel
