/-! ===== runs of the law on a fresh object, by the kernel ===== -/
theorem sx_g_e : sx_done (sx_itA mm_zs 14 [sx_s0 6 18 24]) = true := by decide +kernel
theorem sx_g_f : sx_done (sx_itA mm_zs 14 [sx_s0 6 24 30]) = true := by decide +kernel
