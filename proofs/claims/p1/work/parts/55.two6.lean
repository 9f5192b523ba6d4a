theorem am_p20a : am_two2 100000 40 1000 101 179 [.int 0] am_W0 = true := by decide +kernel
