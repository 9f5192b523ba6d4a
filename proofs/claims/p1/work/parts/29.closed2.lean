theorem am_op35 : (List.range 10).all (fun k => am_two 100000 40 116 215 [.int (nI k)] am_W0) = true := by decide +kernel
