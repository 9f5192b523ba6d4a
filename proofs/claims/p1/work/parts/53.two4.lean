theorem am_p35 : (List.range 10).all (fun k => am_two2 100000 40 1000 116 215 [.int (nI k)] am_W0) = true := by decide +kernel
