/-! ===== runs of the law on a fresh object, by the kernel ===== -/
theorem sx_t_0 : sx_done (sx_itA mm_zs 14 [sx_s1 34 35 0 2147483649]) = true := by decide +kernel
theorem sx_t_1 : sx_done (sx_itA mm_zs 14 [sx_s1 34 35 2147483649 2147483650]) = true := by decide +kernel
theorem sx_t_2 : sx_done (sx_itA mm_zs 14 [sx_s1 34 35 2147483650 2147483651]) = true := by decide +kernel
theorem sx_t_3 : sx_done (sx_itA mm_zs 14 [sx_s1 34 35 2147483651 4294967296]) = true := by decide +kernel
