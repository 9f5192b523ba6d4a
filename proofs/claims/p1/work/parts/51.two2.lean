theorem am_p12 : am_two2 100000 40 1000 93 177 [] am_W0 = true := by decide +kernel
theorem am_p22 : am_two2 100000 40 1000 103 196 [] am_W0 = true := by decide +kernel
theorem am_p32 : am_two2 100000 40 1000 113 212 [] am_W0 = true := by decide +kernel
