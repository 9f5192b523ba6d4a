/-! law on the two given laws: class and reference -/
theorem am_cl1 (v : Int32) : (if 0 < (if v < 1 then v else (1 : Int32)) then (if v < 1 then v else 1) else (0 : Int32)) = (if v < 0 then 0 else if v ≤ 1 then v else 1) := by
  have e0 : (0 : Int32).toInt = 0 := by decide
  have e1 : (1 : Int32).toInt = 1 := by decide
  have hi : ∀ x y : Int32, x.toInt = y.toInt → x = y := fun x y h => Int32.toInt_inj.mp h
  simp only [Int32.lt_iff_toInt_lt, Int32.le_iff_toInt_le]
  repeat' split
  all_goals (first | rfl | (exfalso; omega) | (apply hi; omega))
theorem am_wi01 {v : Int32} (h : am_wi v 1 = true) : v = 0 ∨ v = 1 := by
  have e0 : (0 : Int32).toInt = 0 := by decide
  have e1 : (1 : Int32).toInt = 1 := by decide
  simp only [am_wi, Bool.and_eq_true, decide_eq_true_eq, Int32.lt_iff_toInt_lt, Int32.le_iff_toInt_le] at h
  have h' : v.toInt = 0 ∨ v.toInt = 1 := by omega
  rcases h' with h' | h'
  · left; exact Int32.toInt_inj.mp (h'.trans e0.symm)
  · right; exact Int32.toInt_inj.mp (h'.trans e1.symm)
def am_cl (v : Int32) : Int32 := if v < 0 then 0 else if v ≤ 1 then v else 1
section AMLW
variable {X : am_X} {D q : Nat} {G : am_G}
theorem am_lz10 : ((1 : Int32) = 0) = False := by decide
theorem am_lz20 : ((2 : Int32) = 0) = False := by decide
theorem am_lz00 : ((0 : Int32) ≤ 0) = True := by decide
theorem am_wi_0 : am_wi 0 1 = true := by decide
theorem am_wi_1 : am_wi 1 1 = true := by decide
theorem am_m75_0 : am_CD X (D + 1) 75 [.ref 1, .int 0] (am_L0 q, G) = some (some (.ref 2), (am_L0 q, G)) := by
  refine am_CD_of (M := am_N75) rfl rfl ?_
  show am_Rn _ _ ((Option.some (FieldType.object "WellRefuses$Law"))) am_J75 0 [some (.ref 1), some (.int 0)] [] (am_L0 q, G) _
  simp only [am_s75_0, am_s75_1, am_s75_4, am_s75_5, am_s75_8, am_s75_11, am_s75_12, am_s75_15, am_f1_0, am_f1_1, am_os_some, Option.toList_some, eq_self, if_true, if_false, true_and]
theorem am_m75_1 : am_CD X (D + 1) 75 [.ref 1, .int 1] (am_L0 q, G) = some (some (.ref 6), (am_L0 q, G)) := by
  refine am_CD_of (M := am_N75) rfl rfl ?_
  show am_Rn _ _ ((Option.some (FieldType.object "WellRefuses$Law"))) am_J75 0 [some (.ref 1), some (.int 1)] [] (am_L0 q, G) _
  simp only [am_s75_0, am_s75_1, am_s75_4, am_s75_5, am_s75_8, am_s75_11, am_s75_12, am_s75_15, am_f1_0, am_f1_1, am_lz10, am_os_some, Option.toList_some, eq_self, if_true, if_false, true_and]
theorem am_m17_2 (hz : G 2 4 = 0) (hu : G 2 0 = 0) (a b c : Int32) : am_CD X (D + 1) 17 [.ref 2, .int a, .int b, .int c] (am_L0 q, G) = some (some (.int (am_cl (a - a / 2 * 2))), (am_L0 q, G)) := by
  refine am_CD_of (M := am_N17) rfl rfl ?_
  show am_Rn _ _ ((Option.some FieldType.int)) am_J17 0 [some (.ref 2), some (.int a), some (.int b), some (.int c), none] [] (am_L0 q, G) _
  simp only [am_s17_0, am_s17_1, am_s17_4, am_s17_7, am_s17_8, am_s17_9, am_s17_10, am_s17_11, am_s17_14, am_s17_17, am_s17_18, am_s17_21, am_s17_24, am_s17_25, am_s17_26, am_s17_27, am_s17_30, am_s17_31, am_s17_32, am_s17_35, am_s17_36, am_s17_39, am_s17_40, am_s17_42, am_s17_43, am_s17_44, am_s17_46, am_s17_49, am_s17_52, am_f2_0, am_f2_4, hz, hu, am_lz00, am_lz20, am_cat_0, am_cat_1, am_os_some, eq_self, if_true, if_false, true_and, not_false_eq_true, am_nw1_i, am_nw1_r, am_nw1_n, am_cl1]
  rfl
theorem am_m17_6 (hz : G 6 4 = 0) (hu : G 6 0 = 1) (a b c : Int32) : am_CD X (D + 1) 17 [.ref 6, .int a, .int b, .int c] (am_L0 q, G) = some (some (.int (if a ≤ 3 then 0 else 1)), (am_L0 q, G)) := by
  refine am_CD_of (M := am_N17) rfl rfl ?_
  show am_Rn _ _ ((Option.some FieldType.int)) am_J17 0 [some (.ref 6), some (.int a), some (.int b), some (.int c), none] [] (am_L0 q, G) _
  have e0 : am_cl 0 = 0 := by decide
  have e1 : am_cl 1 = 1 := by decide
  by_cases h : a ≤ 3
  · simp only [am_s17_0, am_s17_1, am_s17_4, am_s17_7, am_s17_8, am_s17_9, am_s17_10, am_s17_11, am_s17_14, am_s17_17, am_s17_18, am_s17_21, am_s17_24, am_s17_25, am_s17_26, am_s17_27, am_s17_30, am_s17_31, am_s17_32, am_s17_35, am_s17_36, am_s17_39, am_s17_40, am_s17_42, am_s17_43, am_s17_44, am_s17_46, am_s17_49, am_s17_52, am_f6_0, am_f6_4, hz, hu, h, am_lz00, am_lz10, am_cat_0, am_cat_1, am_os_some, eq_self, if_true, if_false, true_and, not_false_eq_true, am_nw1_i, am_nw1_r, am_nw1_n, am_cl1]
    rfl
  · simp only [am_s17_0, am_s17_1, am_s17_4, am_s17_7, am_s17_8, am_s17_9, am_s17_10, am_s17_11, am_s17_14, am_s17_17, am_s17_18, am_s17_21, am_s17_24, am_s17_25, am_s17_26, am_s17_27, am_s17_30, am_s17_31, am_s17_32, am_s17_35, am_s17_36, am_s17_39, am_s17_40, am_s17_42, am_s17_43, am_s17_44, am_s17_46, am_s17_49, am_s17_52, am_f6_0, am_f6_4, hz, hu, h, am_lz00, am_lz10, am_cat_0, am_cat_1, am_os_some, eq_self, if_true, if_false, true_and, not_false_eq_true, am_nw1_i, am_nw1_r, am_nw1_n, am_cl1]
    rfl
theorem am_o90_0 (hz : G 2 4 = 0) (hu : G 2 0 = 0) (a b c : Int32) : am_CD X (D + 4) 90 [.ref 0, .int 0, .int a, .int b, .int c] (am_L0 q, G) = some (some (.int (am_cl (a - a / 2 * 2))), (am_L0 q, G)) := by
  refine am_CD_of (M := am_N90) rfl rfl ?_
  show am_Rn _ _ ((Option.some FieldType.int)) am_J90 0 [some (.ref 0), some (.int 0), some (.int a), some (.int b), some (.int c)] [] (am_L0 q, G) _
  simp only [am_s90_0, am_s90_1, am_s90_2, am_s90_5, am_s90_8, am_s90_9, am_s90_10, am_s90_13, am_s90_14, am_s90_15, am_s90_18, am_s90_19, am_s90_22, am_s90_23, am_s90_24, am_s90_26, am_s90_29, am_cal_ok am_cat_0 am_rcv_f (am_m123 _ _), am_f0_0, am_cal_ok am_cat_0 am_v1 am_m75_0, am_cal_ok am_cat_0 am_v2 (am_m17_2 hz hu a b c), am_wi_0, am_os_some, Option.toList_some, List.cons_append, List.nil_append, am_bI0, reduceCtorEq, if_true, if_false, ite_self, true_and]
theorem am_o90_1 (hz : G 6 4 = 0) (hu : G 6 0 = 1) (a b c : Int32) : am_CD X (D + 4) 90 [.ref 0, .int 1, .int a, .int b, .int c] (am_L0 q, G) = some (some (.int (if a ≤ 3 then 0 else 1)), (am_L0 q, G)) := by
  refine am_CD_of (M := am_N90) rfl rfl ?_
  show am_Rn _ _ ((Option.some FieldType.int)) am_J90 0 [some (.ref 0), some (.int 1), some (.int a), some (.int b), some (.int c)] [] (am_L0 q, G) _
  simp only [am_s90_0, am_s90_1, am_s90_2, am_s90_5, am_s90_8, am_s90_9, am_s90_10, am_s90_13, am_s90_14, am_s90_15, am_s90_18, am_s90_19, am_s90_22, am_s90_23, am_s90_24, am_s90_26, am_s90_29, am_cal_ok am_cat_0 am_rcv_f (am_m123 _ _), am_f0_0, am_cal_ok am_cat_0 am_v1 am_m75_1, am_cal_ok am_cat_0 am_v6 (am_m17_6 hz hu a b c), am_wi_1, am_os_some, Option.toList_some, List.cons_append, List.nil_append, am_bI0, reduceCtorEq, if_true, if_false, ite_self, true_and]
theorem am_m127 (v : Int32) {w : am_M} : am_CD X (D + 1) 127 [.int v, .int 0, .int 1] w = some (some (.int (am_cl v)), w) := by
  refine am_CD_of (M := am_N127) rfl rfl ?_
  show am_Rn _ _ ((Option.some FieldType.int)) am_J127 0 [some (.int v), some (.int 0), some (.int 1)] [] w _
  unfold am_cl
  by_cases h : v < 0
  · simp only [am_s127_0, am_s127_1, am_s127_2, am_s127_5, am_s127_6, am_s127_9, am_s127_10, am_s127_11, am_s127_14, am_s127_15, am_s127_18, am_s127_19, h, if_true, true_and]
  · by_cases h2 : v ≤ 1
    · simp only [am_s127_0, am_s127_1, am_s127_2, am_s127_5, am_s127_6, am_s127_9, am_s127_10, am_s127_11, am_s127_14, am_s127_15, am_s127_18, am_s127_19, h, h2, if_true, if_false, true_and]
    · simp only [am_s127_0, am_s127_1, am_s127_2, am_s127_5, am_s127_6, am_s127_9, am_s127_10, am_s127_11, am_s127_14, am_s127_15, am_s127_18, am_s127_19, h, h2, if_true, if_false, true_and]
theorem am_m156_0 (hL : G 115 5 < 0) (a b c : Int32) : am_CD X (D + 2) 156 [.ref 114, .int 0, .int a, .int b, .int c] (am_L0 q, G) = some (some (.int (am_cl (a - a / 2 * 2))), (am_L0 q, G)) := by
  have e5 : ((5 : Int32) + 0).toNatClampNeg = 5 := by decide +kernel
  have h5 : am_in ((5 : Int32) + 0) 281 = true := by decide +kernel
  refine am_CD_of (M := am_N156) rfl rfl ?_
  show am_Rn _ _ ((Option.some FieldType.int)) am_J156 0 [some (.ref 114), some (.int 0), some (.int a), some (.int b), some (.int c)] [] (am_L0 q, G) _
  simp only [am_s156_0, am_s156_1, am_s156_4, am_s156_5, am_s156_6, am_s156_7, am_s156_8, am_s156_11, am_s156_12, am_s156_13, am_s156_14, am_s156_15, am_s156_17, am_s156_20, am_s156_21, am_s156_22, am_s156_25, am_s156_26, am_s156_27, am_s156_30, am_s156_31, am_s156_32, am_s156_33, am_s156_34, am_s156_35, am_s156_38, am_s156_41, am_s156_42, am_s156_43, am_s156_46, am_s156_47, am_s156_50, am_s156_51, am_f114_0, am_a115, h5, e5, hL, am_lz20, am_cal_ok am_cat_0 am_rcv_f (am_m127 _), cond_true, am_os_some, Option.toList_some, List.cons_append, List.nil_append, eq_self, if_true, if_false, ite_self, true_and, not_false_eq_true]
theorem am_m156_1 (hL : G 115 6 < 0) (a b c : Int32) : am_CD X (D + 2) 156 [.ref 114, .int 1, .int a, .int b, .int c] (am_L0 q, G) = some (some (.int (if a ≤ 3 then 0 else 1)), (am_L0 q, G)) := by
  have e5 : ((5 : Int32) + 1).toNatClampNeg = 6 := by decide +kernel
  have h5 : am_in ((5 : Int32) + 1) 281 = true := by decide +kernel
  refine am_CD_of (M := am_N156) rfl rfl ?_
  show am_Rn _ _ ((Option.some FieldType.int)) am_J156 0 [some (.ref 114), some (.int 1), some (.int a), some (.int b), some (.int c)] [] (am_L0 q, G) _
  by_cases h : a ≤ 3
  · simp only [am_s156_0, am_s156_1, am_s156_4, am_s156_5, am_s156_6, am_s156_7, am_s156_8, am_s156_11, am_s156_12, am_s156_13, am_s156_14, am_s156_15, am_s156_17, am_s156_20, am_s156_21, am_s156_22, am_s156_25, am_s156_26, am_s156_27, am_s156_30, am_s156_31, am_s156_32, am_s156_33, am_s156_34, am_s156_35, am_s156_38, am_s156_41, am_s156_42, am_s156_43, am_s156_46, am_s156_47, am_s156_50, am_s156_51, am_f114_0, am_a115, h5, e5, hL, h, am_lz10, cond_true, am_os_some, Option.toList_some, List.cons_append, List.nil_append, if_true, if_false, ite_self, true_and]
  · simp only [am_s156_0, am_s156_1, am_s156_4, am_s156_5, am_s156_6, am_s156_7, am_s156_8, am_s156_11, am_s156_12, am_s156_13, am_s156_14, am_s156_15, am_s156_17, am_s156_20, am_s156_21, am_s156_22, am_s156_25, am_s156_26, am_s156_27, am_s156_30, am_s156_31, am_s156_32, am_s156_33, am_s156_34, am_s156_35, am_s156_38, am_s156_41, am_s156_42, am_s156_43, am_s156_46, am_s156_47, am_s156_50, am_s156_51, am_f114_0, am_a115, h5, e5, hL, h, am_lz10, cond_true, am_os_some, Option.toList_some, List.cons_append, List.nil_append, if_true, if_false, ite_self, true_and]
theorem am_o157_0 (hL : G 115 5 < 0) (a b c : Int32) : am_CD X (D + 4) 157 [.ref 114, .int 0, .int a, .int b, .int c] (am_L0 q, G) = some (some (.int (am_cl (a - a / 2 * 2))), (am_L0 q, G)) := by
  refine am_CD_of (M := am_N157) rfl rfl ?_
  show am_Rn _ _ ((Option.some FieldType.int)) am_J157 0 [some (.ref 114), some (.int 0), some (.int a), some (.int b), some (.int c)] [] (am_L0 q, G) _
  simp only [am_s157_0, am_s157_1, am_s157_2, am_s157_3, am_s157_6, am_s157_9, am_s157_10, am_s157_11, am_s157_12, am_s157_13, am_s157_15, am_s157_18, am_s157_21, am_s157_22, am_s157_24, am_s157_27, am_cal_ok am_cat_0 am_rcv_f (am_m125z _ _), am_cal_ok am_cat_0 am_v114 (am_m156_0 hL a b c), am_wi_0, am_os_some, Option.toList_some, List.cons_append, List.nil_append, am_bI0, reduceCtorEq, if_true, if_false, ite_self, true_and]
theorem am_o157_1 (hL : G 115 6 < 0) (a b c : Int32) : am_CD X (D + 4) 157 [.ref 114, .int 1, .int a, .int b, .int c] (am_L0 q, G) = some (some (.int (if a ≤ 3 then 0 else 1)), (am_L0 q, G)) := by
  refine am_CD_of (M := am_N157) rfl rfl ?_
  show am_Rn _ _ ((Option.some FieldType.int)) am_J157 0 [some (.ref 114), some (.int 1), some (.int a), some (.int b), some (.int c)] [] (am_L0 q, G) _
  simp only [am_s157_0, am_s157_1, am_s157_2, am_s157_3, am_s157_6, am_s157_9, am_s157_10, am_s157_11, am_s157_12, am_s157_13, am_s157_15, am_s157_18, am_s157_21, am_s157_22, am_s157_24, am_s157_27, am_cal_ok am_cat_0 am_rcv_f (am_m125z _ _), am_cal_ok am_cat_0 am_v114 (am_m156_1 hL a b c), am_wi_1, am_os_some, Option.toList_some, List.cons_append, List.nil_append, am_bI0, reduceCtorEq, if_true, if_false, ite_self, true_and]
end AMLW
