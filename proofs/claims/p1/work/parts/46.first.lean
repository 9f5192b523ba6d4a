/-! first: no one, so no one thirsts within 60 days; the class's side, evaluated -/
noncomputable def am_fst1 (x b : Nat) : Bool := match am_call am_none 100000 40 95 [.ref 0, .int (nI x), .int (nI b)] am_W0 with
  | some (some (.int r), w1) => decide (r = -1000000002) && decide (w1.1 = am_L0 1000) && decide (w1.2 115 2 = 0) && decide (w1.2 115 0 = 0)
  | _ => false
theorem am_op16c0 : ((List.range 2).all fun x => am_fst1 (x + 1) 0) = true := by decide +kernel
