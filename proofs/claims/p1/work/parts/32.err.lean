/-! what is answered while there are no PEOPLE: BEYOND -/
theorem am_np0 (v : Int32) : (decide (¬ v < 0) && decide (v < (0 : Int32))) = false := by by_cases h : v < 0 <;> simp [h]
theorem am_np1 (v : Int32) : (decide (¬ v < 0) && decide (v ≤ (0 : Int32) - 1)) = false := by
  by_cases h : v < 0
  · simp [h]
  · have h2 : ¬ v ≤ (0 : Int32) - 1 := fun h3 => h (Int32.lt_of_le_of_lt h3 (by decide))
    rw [decide_eq_false h2, Bool.and_false]
section AMER
variable {X : am_X} {D q : Nat} {G : am_G}
theorem am_e1 : am_CD X (D + 1) 118 [.ref 0, .int 1] (am_L0 q, G) = some (some (.int (-1000000001)), (am_L0 q, am_up G 105 1 (G 105 1 + 1))) := am_m118 1 (by decide)
theorem am_e2 : am_CD X (D + 1) 118 [.ref 0, .int 2] (am_L0 q, G) = some (some (.int (-1000000002)), (am_L0 q, am_up G 105 2 (G 105 2 + 1))) := am_m118 2 (by decide)
theorem am_e3 : am_CD X (D + 1) 118 [.ref 0, .int 3] (am_L0 q, G) = some (some (.int (-1000000003)), (am_L0 q, am_up G 105 3 (G 105 3 + 1))) := am_m118 3 (by decide)
theorem am_e4 : am_CD X (D + 1) 118 [.ref 0, .int 4] (am_L0 q, G) = some (some (.int (-1000000004)), (am_L0 q, am_up G 105 4 (G 105 4 + 1))) := am_m118 4 (by decide)
theorem am_e5 : am_CD X (D + 1) 118 [.ref 0, .int 5] (am_L0 q, G) = some (some (.int (-1000000005)), (am_L0 q, am_up G 105 5 (G 105 5 + 1))) := am_m118 5 (by decide)
theorem am_d1 : am_CD X (D + 1) 126 [.ref 114, .int (-1000000001)] (am_L0 q, G) = some (some (.int (-1000000001)), (am_L0 q, am_up G 119 1 (G 119 1 + 1))) := am_m126 1 (by decide)
theorem am_d2 : am_CD X (D + 1) 126 [.ref 114, .int (-1000000002)] (am_L0 q, G) = some (some (.int (-1000000002)), (am_L0 q, am_up G 119 2 (G 119 2 + 1))) := am_m126 2 (by decide)
theorem am_d3 : am_CD X (D + 1) 126 [.ref 114, .int (-1000000003)] (am_L0 q, G) = some (some (.int (-1000000003)), (am_L0 q, am_up G 119 3 (G 119 3 + 1))) := am_m126 3 (by decide)
theorem am_d4 : am_CD X (D + 1) 126 [.ref 114, .int (-1000000004)] (am_L0 q, G) = some (some (.int (-1000000004)), (am_L0 q, am_up G 119 4 (G 119 4 + 1))) := am_m126 4 (by decide)
theorem am_d5 : am_CD X (D + 1) 126 [.ref 114, .int (-1000000005)] (am_L0 q, G) = some (some (.int (-1000000005)), (am_L0 q, am_up G 119 5 (G 119 5 + 1))) := am_m126 5 (by decide)
theorem am_o82 (h : G 10 8 = 0) (a b : Int32) : am_CD X (D + 3) 82 [.ref 0, .int a, .int b] (am_L0 q, G) = some (some (.int (-1000000001)), (am_L0 q, am_up G 105 1 (G 105 1 + 1))) := by
  refine am_CD_of (M := am_N82) rfl rfl ?_
  show am_Rn _ _ ((Option.some FieldType.int)) am_J82 0 [some (.ref 0), some (.int a), some (.int b), none] [] (am_L0 q, G) _
  simp only [am_s82_0, am_s82_1, am_s82_2, am_s82_5, am_s82_8, am_s82_9, am_s82_11, am_s82_14, am_s82_17, am_s82_18, am_s82_19, am_s82_22, am_s82_23, am_s82_24, am_s82_27, am_s82_30, am_s82_31, am_s82_32, am_s82_76, am_s82_77, am_s82_80, am_s82_81, am_s82_82, am_s82_83, am_s82_84, am_s82_87, am_s82_88, am_s82_89, am_s82_90, am_s82_91, am_s82_94, am_s82_95, am_s82_96, am_s82_97, am_s82_98, am_s82_101, am_s82_102, am_s82_103, am_s82_104, am_s82_105, am_s82_108, am_s82_109, am_s82_110, am_s82_111, am_s82_112, am_s82_113, am_s82_116, am_s82_117, am_s82_118, am_s82_119, am_s82_122, am_s82_123, am_s82_124, am_s82_125, am_s82_128, am_s82_131, am_s82_132, am_s82_135, am_s82_136, am_cal_ok am_cat_0 am_v0 (am_m119 _), am_cal_ok am_cat_0 am_v0 am_e1, am_os_some, Option.toList_some, List.cons_append, List.nil_append, am_bI0, h, am_np0, if_true, true_and]
theorem am_o136 (h : G 115 2 = 0) (a b : Int32) : am_CD X (D + 3) 136 [.ref 114, .int a, .int b] (am_L0 q, G) = some (some (.int (-1000000001)), (am_L0 q, am_up G 119 1 (G 119 1 + 1))) := by
  refine am_CD_of (M := am_N136) rfl rfl ?_
  show am_Rn _ _ ((Option.some FieldType.int)) am_J136 0 [some (.ref 114), some (.int a), some (.int b)] [] (am_L0 q, G) _
  simp only [am_s136_0, am_s136_1, am_s136_2, am_s136_5, am_s136_8, am_s136_9, am_s136_10, am_s136_12, am_s136_15, am_s136_18, am_s136_19, am_s136_21, am_s136_24, am_s136_25, am_s136_26, am_s136_52, am_s136_53, am_s136_54, am_s136_57, am_s136_58, am_s136_59, am_s136_60, am_s136_63, am_s136_64, am_s136_65, am_s136_66, am_s136_69, am_s136_72, am_s136_73, am_s136_76, am_s136_77, am_s136_78, am_s136_79, am_s136_80, am_s136_81, am_s136_84, am_cal_ok am_cat_0 am_v114 (am_m132 _), am_cal_ok am_cat_0 am_v114 am_d1, am_os_some, Option.toList_some, List.cons_append, List.nil_append, am_bI0, h, am_np1, if_true, true_and]
end AMER
