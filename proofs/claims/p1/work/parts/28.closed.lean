/-! closed calls on the fresh world: two computing calls, one behind the other, answer the same -/
noncomputable def am_W0 : am_M := (am_L0 1000, am_g0)
noncomputable def am_two (F D tc tr : Nat) (as : List Value) (w : am_M) : Bool := match am_call am_none F D tc (.ref 0 :: as) w with
  | some o => (match o.1, am_call am_none F D tr (.ref 114 :: as) o.2 with
    | some (.int r), some o2 => decide (o2.1 = some (.int r))
    | _, _ => false)
  | none => false
theorem am_op12 : am_two 100000 40 93 177 [] am_W0 = true := by decide +kernel
theorem am_op22 : am_two 100000 40 103 196 [] am_W0 = true := by decide +kernel
theorem am_op32 : am_two 100000 40 113 212 [] am_W0 = true := by decide +kernel
theorem am_op34 : am_two 100000 40 115 214 [] am_W0 = true := by decide +kernel
