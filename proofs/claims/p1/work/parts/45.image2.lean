/-! the class's image, evaluated -/
theorem am_op31c : (match am_call am_none 100000 40 112 [.ref 0] am_W0 with
  | some (some (.int r), w1) => decide (r = 1) && decide (w1.1 = am_L0 1000) && decide (w1.2 114 5 = 0)
  | _ => false) = true := by decide +kernel
