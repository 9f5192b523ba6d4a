theorem am_p8a : am_two2 100000 40 1001 89 159 [.int 0] am_W0 = true := by decide +kernel
theorem am_p8b : am_two2 100000 40 1002 89 159 [.int 1] am_W0 = true := by decide +kernel
