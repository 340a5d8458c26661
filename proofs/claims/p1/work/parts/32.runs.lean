theorem sx_g_e : sx_done (sx_itF 5 mm_zs 14 [sx_s0 6 18 24]) = true := by decide +kernel
theorem sx_g_e2 : sx_done (sx_itF 5 mm_zs 14 [sx_s0 6 24 30]) = true := by decide +kernel
