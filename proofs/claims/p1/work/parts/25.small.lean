/-! small methods: exact answers, any world -/
section AMSM
variable {X : am_X} {D : Nat} {w : am_M}
theorem am_in123 (v most : Int32) : am_CD X (D + 1) 123 [.int v, .int most] w = some (some (.int (if v < 0 then 0 else if v ≤ most then 1 else 0)), w) := by
  refine am_CD_of (M := am_N123) rfl rfl ?_
  show am_Rn X D (some .boolean) am_J123 0 [some (.int v), some (.int most)] [] w _
  simp only [am_s123_0, am_s123_1, am_s123_4, am_s123_5, am_s123_6, am_s123_9, am_s123_10, am_s123_13, am_s123_14]
  split
  · simp
  · split <;> simp
end AMSM
