/-! law, first, feed: a number out of its range -/
section AMOU
variable {X : am_X} {D q : Nat} {G : am_G}
theorem am_o90e {u a b c : Int32} (h : am_wi u 1 = false) : am_CD X (D + 4) 90 [.ref 0, .int u, .int a, .int b, .int c] (am_L0 q, G) = some (some (.int (-1000000001)), (am_L0 q, am_up G 105 1 (G 105 1 + 1))) := by
  refine am_CD_of (M := am_N90) rfl rfl ?_
  show am_Rn _ _ ((Option.some FieldType.int)) am_J90 0 [some (.ref 0), some (.int u), some (.int a), some (.int b), some (.int c)] [] (am_L0 q, G) _
  simp only [am_s90_0, am_s90_1, am_s90_2, am_s90_5, am_s90_8, am_s90_9, am_s90_10, am_s90_13, am_s90_14, am_s90_15, am_s90_18, am_s90_19, am_s90_22, am_s90_23, am_s90_24, am_s90_26, am_s90_29, am_cal_ok am_cat_0 am_rcv_f (am_m123 _ _), am_cal_ok am_cat_0 am_v0 am_e1, h, am_os_some, Option.toList_some, List.cons_append, List.nil_append, am_bI0, reduceCtorEq, if_true, if_false, ite_self, true_and]
theorem am_o157e {u a b c : Int32} (h : am_wi u 1 = false) : am_CD X (D + 4) 157 [.ref 114, .int u, .int a, .int b, .int c] (am_L0 q, G) = some (some (.int (-1000000001)), (am_L0 q, am_up G 119 1 (G 119 1 + 1))) := by
  refine am_CD_of (M := am_N157) rfl rfl ?_
  show am_Rn _ _ ((Option.some FieldType.int)) am_J157 0 [some (.ref 114), some (.int u), some (.int a), some (.int b), some (.int c)] [] (am_L0 q, G) _
  simp only [am_s157_0, am_s157_1, am_s157_2, am_s157_3, am_s157_6, am_s157_9, am_s157_10, am_s157_11, am_s157_12, am_s157_13, am_s157_15, am_s157_18, am_s157_21, am_s157_22, am_s157_24, am_s157_27, am_cal_ok am_cat_0 am_rcv_f (am_m125z _ _), am_cal_ok am_cat_0 am_v114 am_d1, h, am_os_some, Option.toList_some, List.cons_append, List.nil_append, am_bI0, reduceCtorEq, if_true, if_false, ite_self, true_and]
theorem am_o95e {x b : Int32} (h : x < 1 ∨ ¬ x ≤ 99 ∨ am_wi b 1 = false) : am_CD X (D + 4) 95 [.ref 0, .int x, .int b] (am_L0 q, G) = some (some (.int (-1000000001)), (am_L0 q, am_up G 105 1 (G 105 1 + 1))) := by
  refine am_CD_of (M := am_N95) rfl rfl ?_
  show am_Rn _ _ ((Option.some FieldType.int)) am_J95 0 [some (.ref 0), some (.int x), some (.int b), none] [] (am_L0 q, G) _
  by_cases h1 : x < 1
  · simp only [am_s95_0, am_s95_1, am_s95_2, am_s95_5, am_s95_6, am_s95_8, am_s95_11, am_s95_12, am_s95_13, am_s95_16, am_s95_19, am_s95_20, am_s95_21, am_s95_24, am_s95_25, am_s95_26, am_s95_29, am_s95_30, am_s95_33, am_s95_34, am_s95_35, am_s95_38, am_s95_39, am_s95_40, am_s95_43, am_s95_44, am_s95_45, am_s95_48, am_s95_49, am_s95_52, am_s95_53, am_s95_56, am_s95_57, am_s95_60, am_s95_61, am_s95_64, am_cal_ok am_cat_0 am_v0 am_e1, h1, am_os_some, Option.toList_some, List.cons_append, List.nil_append, am_bI0, reduceCtorEq, if_true, if_false, ite_self, true_and]
  · by_cases h2 : x ≤ 99
    · have h3 : am_wi b 1 = false := (h.resolve_left h1).resolve_left (fun e => e h2)
      simp only [am_s95_0, am_s95_1, am_s95_2, am_s95_5, am_s95_6, am_s95_8, am_s95_11, am_s95_12, am_s95_13, am_s95_16, am_s95_19, am_s95_20, am_s95_21, am_s95_24, am_s95_25, am_s95_26, am_s95_29, am_s95_30, am_s95_33, am_s95_34, am_s95_35, am_s95_38, am_s95_39, am_s95_40, am_s95_43, am_s95_44, am_s95_45, am_s95_48, am_s95_49, am_s95_52, am_s95_53, am_s95_56, am_s95_57, am_s95_60, am_s95_61, am_s95_64, am_cal_ok am_cat_0 am_rcv_f (am_m123 _ _), am_cal_ok am_cat_0 am_v0 am_e1, h1, h2, h3, am_os_some, Option.toList_some, List.cons_append, List.nil_append, am_bI0, reduceCtorEq, if_true, if_false, ite_self, true_and]
    · simp only [am_s95_0, am_s95_1, am_s95_2, am_s95_5, am_s95_6, am_s95_8, am_s95_11, am_s95_12, am_s95_13, am_s95_16, am_s95_19, am_s95_20, am_s95_21, am_s95_24, am_s95_25, am_s95_26, am_s95_29, am_s95_30, am_s95_33, am_s95_34, am_s95_35, am_s95_38, am_s95_39, am_s95_40, am_s95_43, am_s95_44, am_s95_45, am_s95_48, am_s95_49, am_s95_52, am_s95_53, am_s95_56, am_s95_57, am_s95_60, am_s95_61, am_s95_64, am_cal_ok am_cat_0 am_v0 am_e1, h1, h2, am_os_some, Option.toList_some, List.cons_append, List.nil_append, am_bI0, reduceCtorEq, if_true, if_false, ite_self, true_and]
theorem am_o182e {x b : Int32} (h : (decide (¬ x < 1) && decide (x ≤ 99)) = false ∨ am_wi b 1 = false) : am_CD X (D + 4) 182 [.ref 114, .int x, .int b] (am_L0 q, G) = some (some (.int (-1000000001)), (am_L0 q, am_up G 119 1 (G 119 1 + 1))) := by
  refine am_CD_of (M := am_N182) rfl rfl ?_
  show am_Rn _ _ ((Option.some FieldType.int)) am_J182 0 [some (.ref 114), some (.int x), some (.int b), none, none] [] (am_L0 q, G) _
  by_cases h1 : am_wi b 1 = false
  · by_cases h2 : (decide (¬ x < 1) && decide (x ≤ 99)) = false
    · simp only [am_s182_0, am_s182_1, am_s182_2, am_s182_4, am_s182_7, am_s182_19, am_s182_20, am_s182_22, am_s182_25, am_cal_ok am_cat_0 am_rcv_f (am_m125 _ _ _), am_cal_ok am_cat_0 am_v114 am_d1, h2, am_os_some, Option.toList_some, List.cons_append, List.nil_append, am_bI0, reduceCtorEq, if_true, if_false, ite_self, true_and]
    · have h2' := Bool.not_eq_false _ ▸ h2
      simp only [am_s182_0, am_s182_1, am_s182_2, am_s182_4, am_s182_7, am_s182_10, am_s182_11, am_s182_12, am_s182_13, am_s182_16, am_s182_19, am_s182_20, am_s182_22, am_s182_25, am_cal_ok am_cat_0 am_rcv_f (am_m125z _ _), am_cal_ok am_cat_0 am_rcv_f (am_m125 _ _ _), am_cal_ok am_cat_0 am_v114 am_d1, h1, am_os_some, Option.toList_some, List.cons_append, List.nil_append, am_bI0, reduceCtorEq, if_true, if_false, ite_self, true_and]
  · have h2 := h.resolve_right h1
    simp only [am_s182_0, am_s182_1, am_s182_2, am_s182_4, am_s182_7, am_s182_19, am_s182_20, am_s182_22, am_s182_25, am_cal_ok am_cat_0 am_rcv_f (am_m125 _ _ _), am_cal_ok am_cat_0 am_v114 am_d1, h2, am_os_some, Option.toList_some, List.cons_append, List.nil_append, am_bI0, reduceCtorEq, if_true, if_false, ite_self, true_and]
theorem am_o88e {l : Int64} {n : Int32} (h : n < 1 ∨ ¬ n ≤ 8) : am_CD X (D + 4) 88 [.ref 0, .long l, .int n] (am_L0 q, G) = some (some (.int (-1000000001)), (am_L0 q, am_up G 105 1 (G 105 1 + 1))) := by
  refine am_CD_of (M := am_N88) rfl rfl ?_
  show am_Rn _ _ ((Option.some FieldType.int)) am_J88 0 [some (.ref 0), some (.long l), none, some (.int n), none, none] [] (am_L0 q, G) _
  by_cases h1 : n < 1
  · simp only [am_s88_0, am_s88_1, am_s88_2, am_s88_5, am_s88_6, am_s88_8, am_s88_11, am_s88_12, am_s88_13, am_s88_16, am_s88_17, am_s88_18, am_s88_21, am_s88_24, am_s88_26, am_s88_27, am_s88_29, am_s88_31, am_s88_34, am_s88_35, am_s88_38, am_s88_39, am_s88_40, am_s88_43, am_s88_44, am_s88_45, am_s88_47, am_s88_49, am_s88_50, am_s88_53, am_s88_55, am_s88_56, am_s88_58, am_s88_60, am_s88_61, am_s88_62, am_s88_63, am_s88_66, am_s88_67, am_s88_70, am_s88_73, am_s88_76, am_s88_78, am_s88_81, am_cal_ok am_cat_0 am_v0 am_e1, h1, am_os_some, Option.toList_some, List.cons_append, List.nil_append, am_bI0, reduceCtorEq, if_true, if_false, ite_self, true_and]
  · have h2 := h.resolve_left h1
    simp only [am_s88_0, am_s88_1, am_s88_2, am_s88_5, am_s88_6, am_s88_8, am_s88_11, am_s88_12, am_s88_13, am_s88_16, am_s88_17, am_s88_18, am_s88_21, am_s88_24, am_s88_26, am_s88_27, am_s88_29, am_s88_31, am_s88_34, am_s88_35, am_s88_38, am_s88_39, am_s88_40, am_s88_43, am_s88_44, am_s88_45, am_s88_47, am_s88_49, am_s88_50, am_s88_53, am_s88_55, am_s88_56, am_s88_58, am_s88_60, am_s88_61, am_s88_62, am_s88_63, am_s88_66, am_s88_67, am_s88_70, am_s88_73, am_s88_76, am_s88_78, am_s88_81, am_cal_ok am_cat_0 am_v0 am_e1, h1, h2, am_os_some, Option.toList_some, List.cons_append, List.nil_append, am_bI0, reduceCtorEq, if_true, if_false, ite_self, true_and]
end AMOU
