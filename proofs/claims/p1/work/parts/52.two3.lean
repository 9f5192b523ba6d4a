theorem am_p34 : am_two2 100000 40 1000 115 214 [] am_W0 = true := by decide +kernel
theorem am_p17 : am_two2 100000 40 1000 98 191 [] am_W0 = true := by decide +kernel
