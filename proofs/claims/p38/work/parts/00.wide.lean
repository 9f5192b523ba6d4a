theorem am_wide (h : True) : True := by
  have := @Jvm.Stand.multianewarray2F
  exact h
