/-! the errors; what stands for a number held within bounds -/
section AMER
variable {X : am_X} {D q : Nat} {G : am_G}
theorem am_e1 : am_CD X (D + 1) 118 [.ref 0, .int 1] (am_L0 q, G) = some (some (.int (-1000000001)), (am_L0 q, am_up G 105 1 (G 105 1 + 1))) := am_m118 1 (by decide)
theorem am_e2 : am_CD X (D + 1) 118 [.ref 0, .int 2] (am_L0 q, G) = some (some (.int (-1000000002)), (am_L0 q, am_up G 105 2 (G 105 2 + 1))) := am_m118 2 (by decide)
theorem am_e3 : am_CD X (D + 1) 118 [.ref 0, .int 3] (am_L0 q, G) = some (some (.int (-1000000003)), (am_L0 q, am_up G 105 3 (G 105 3 + 1))) := am_m118 3 (by decide)
theorem am_e4 : am_CD X (D + 1) 118 [.ref 0, .int 4] (am_L0 q, G) = some (some (.int (-1000000004)), (am_L0 q, am_up G 105 4 (G 105 4 + 1))) := am_m118 4 (by decide)
theorem am_e5 : am_CD X (D + 1) 118 [.ref 0, .int 5] (am_L0 q, G) = some (some (.int (-1000000005)), (am_L0 q, am_up G 105 5 (G 105 5 + 1))) := am_m118 5 (by decide)
theorem am_d1 : am_CD X (D + 1) 126 [.ref 114, .int (-1000000001)] (am_L0 q, G) = some (some (.int (-1000000001)), (am_L0 q, am_up G 119 1 (G 119 1 + 1))) := am_m126 1 (by decide)
theorem am_d2 : am_CD X (D + 1) 126 [.ref 114, .int (-1000000002)] (am_L0 q, G) = some (some (.int (-1000000002)), (am_L0 q, am_up G 119 2 (G 119 2 + 1))) := am_m126 2 (by decide)
theorem am_d3 : am_CD X (D + 1) 126 [.ref 114, .int (-1000000003)] (am_L0 q, G) = some (some (.int (-1000000003)), (am_L0 q, am_up G 119 3 (G 119 3 + 1))) := am_m126 3 (by decide)
theorem am_d4 : am_CD X (D + 1) 126 [.ref 114, .int (-1000000004)] (am_L0 q, G) = some (some (.int (-1000000004)), (am_L0 q, am_up G 119 4 (G 119 4 + 1))) := am_m126 4 (by decide)
theorem am_d5 : am_CD X (D + 1) 126 [.ref 114, .int (-1000000005)] (am_L0 q, G) = some (some (.int (-1000000005)), (am_L0 q, am_up G 119 5 (G 119 5 + 1))) := am_m126 5 (by decide)
end AMER
