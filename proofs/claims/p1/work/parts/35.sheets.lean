/-! SHEETS are missing; other small calls -/
theorem am_wi_nI {v : Int32} {n : Nat} (hn : n < 2 ^ 31) (h : am_wi v (nI n) = true) : ∃ j, j ≤ n ∧ v = nI j := by
  unfold am_wi at h
  simp only [Bool.and_eq_true, decide_eq_true_eq] at h
  exact nI_of2 (nI_toInt hn) h.1 h.2
theorem am_tsw_out {pc : Nat} {d lo hi : Int} {offs : Array Int} {x : Int32} (h : x.toInt < lo ∨ hi < x.toInt) : am_tsw pc d lo hi offs x = some (am_jmp pc d) := by
  unfold am_tsw
  have e : (decide (x.toInt < lo) || decide (hi < x.toInt)) = true := by
    rcases h with h | h <;> simp [h]
  rw [e]
  rfl
theorem am_wi_out {v : Int32} {n : Nat} (hn : n < 2 ^ 31) (h : am_wi v (nI n) = false) : v.toInt < 0 ∨ (n : Int) < v.toInt := by
  unfold am_wi at h
  rw [Bool.and_eq_false_iff, decide_eq_false_iff_not, decide_eq_false_iff_not] at h
  rcases h with h | h
  · left
    have h2 : v < 0 := Classical.not_not.mp h
    simpa using Int32.lt_iff_toInt_lt.mp h2
  · right
    have h2 := Int32.not_le.mp h
    have h3 := Int32.lt_iff_toInt_lt.mp h2
    rwa [nI_toInt hn] at h3
section AMSH
variable {X : am_X} {D q : Nat} {G : am_G}
theorem am_rld_104 {j : Nat} (hj : j < 4) : am_rld (am_L0 q, G) 104 (nI j) = some (106 + 2 * j) := by
  unfold am_rld
  rw [am_lc104]
  simp only [List.length_cons, List.length_nil]
  rw [am_in_nI hj (by decide), nI_clamp (by omega)]
  match j, hj with
  | 0, _ => rfl
  | 1, _ => rfl
  | 2, _ => rfl
  | 3, _ => rfl
theorem am_rcv_sh {j : Nat} (hj : j < 4) {as : List Value} : am_rcv true 6 (.ref (106 + 2 * j) :: as) (am_L0 q, G) = true := by
  match j, hj with
  | 0, _ => rfl
  | 1, _ => rfl
  | 2, _ => rfl
  | 3, _ => rfl
theorem am_f_sh1 {j : Nat} (hj : j < 4) : am_fld (am_L0 q, G) (106 + 2 * j) 6 1 = some (.int (G (106 + 2 * j) 1)) := by
  match j, hj with
  | 0, _ => rfl
  | 1, _ => rfl
  | 2, _ => rfl
  | 3, _ => rfl
theorem am_m58 {j : Nat} (hj : j < 4) : am_CD X (D + 1) 58 [.ref (106 + 2 * j)] (am_L0 q, G) = some (some (.int (am_bI (decide (G (106 + 2 * j) 1 = 0)))), (am_L0 q, G)) := by
  refine am_CD_of (M := am_N58) rfl rfl ?_
  show am_Rn _ _ ((Option.some FieldType.boolean)) am_J58 0 [some (.ref (106 + 2 * j))] [] (am_L0 q, G) _
  simp only [am_s58_0, am_s58_1, am_s58_4, am_s58_7, am_s58_8, am_s58_11, am_s58_12, am_f_sh1 hj, am_os_some]
  unfold am_bI
  by_cases h : G (106 + 2 * j) 1 = 0 <;> simp [h]
theorem am_m123s {v : Int32} {w : am_M} {m : Nat} : am_CD X (D + 1) 123 [.int v, .int (nI m)] w = some (some (.int (am_bI (am_wi v (nI m)))), w) := am_m123 v (nI m)
/-- rules, put, traits, judge: no such SHEET, or it is missing -/
theorem am_o96a {a b : Int32} (h : am_wi a 3 = false ∨ am_wi b 2 = false) : am_CD X (D + 4) 96 [.ref 0, .int a, .int b] (am_L0 q, G) = some (some (.int (-1000000001)), (am_L0 q, am_up G 105 1 (G 105 1 + 1))) := by
  refine am_CD_of (M := am_N96) rfl rfl ?_
  show am_Rn _ _ ((Option.some FieldType.int)) am_J96 0 [some (.ref 0), some (.int a), some (.int b)] [] (am_L0 q, G) _
  by_cases h1 : am_wi a 3 = false
  · simp only [am_s96_0, am_s96_1, am_s96_4, am_s96_7, am_s96_8, am_s96_9, am_s96_12, am_s96_15, am_s96_16, am_s96_17, am_s96_20, am_s96_21, am_s96_22, am_s96_25, am_s96_26, am_s96_27, am_s96_30, am_s96_33, am_s96_34, am_s96_35, am_s96_38, am_s96_39, am_s96_40, am_s96_43, am_s96_44, am_s96_47, am_s96_50, am_s96_51, am_s96_54, am_s96_55, am_s96_56, am_s96_59, am_s96_60, am_s96_63, am_s96_64, am_s96_67, am_s96_70, am_s96_71, am_s96_72, am_s96_73, am_s96_76, am_s96_77, am_s96_80, am_s96_83, am_s96_84, am_s96_85, am_s96_88, am_s96_91, am_s96_94, am_s96_95, am_s96_96, am_s96_99, am_s96_102, am_s96_103, am_s96_106, am_s96_109, am_s96_110, am_s96_111, am_cal_ok am_cat_0 am_rcv_f (am_m121 _), am_cal_ok am_cat_0 am_v0 am_e1, am_os_some, Option.toList_some, List.cons_append, List.nil_append, am_bI0, h1, if_true, true_and]
  · have h2 := h.resolve_left h1
    simp only [am_s96_0, am_s96_1, am_s96_4, am_s96_7, am_s96_8, am_s96_9, am_s96_12, am_s96_15, am_s96_16, am_s96_17, am_s96_20, am_s96_21, am_s96_22, am_s96_25, am_s96_26, am_s96_27, am_s96_30, am_s96_33, am_s96_34, am_s96_35, am_s96_38, am_s96_39, am_s96_40, am_s96_43, am_s96_44, am_s96_47, am_s96_50, am_s96_51, am_s96_54, am_s96_55, am_s96_56, am_s96_59, am_s96_60, am_s96_63, am_s96_64, am_s96_67, am_s96_70, am_s96_71, am_s96_72, am_s96_73, am_s96_76, am_s96_77, am_s96_80, am_s96_83, am_s96_84, am_s96_85, am_s96_88, am_s96_91, am_s96_94, am_s96_95, am_s96_96, am_s96_99, am_s96_102, am_s96_103, am_s96_106, am_s96_109, am_s96_110, am_s96_111, am_cal_ok am_cat_0 am_rcv_f (am_m121 _), am_cal_ok am_cat_0 am_rcv_f (am_m123 _ _), am_cal_ok am_cat_0 am_v0 am_e1, am_os_some, Option.toList_some, List.cons_append, List.nil_append, am_bI0, h1, h2, if_true, if_false, ite_self, true_and]
theorem am_o96b {j : Nat} {b : Int32} (hj : j < 4) (h2 : am_wi b 2 = true) (hG : G (106 + 2 * j) 1 = 0) : am_CD X (D + 4) 96 [.ref 0, .int (nI j), .int b] (am_L0 q, G) = some (some (.int (-1000000002)), (am_L0 q, am_up G 105 2 (G 105 2 + 1))) := by
  have h1 : am_wi (nI j) 3 = true := by
    match j, hj with
    | 0, _ => decide +kernel
    | 1, _ => decide +kernel
    | 2, _ => decide +kernel
    | 3, _ => decide +kernel
  refine am_CD_of (M := am_N96) rfl rfl ?_
  show am_Rn _ _ ((Option.some FieldType.int)) am_J96 0 [some (.ref 0), some (.int (nI j)), some (.int b)] [] (am_L0 q, G) _
  simp only [am_s96_0, am_s96_1, am_s96_4, am_s96_7, am_s96_8, am_s96_9, am_s96_12, am_s96_15, am_s96_16, am_s96_17, am_s96_20, am_s96_21, am_s96_22, am_s96_25, am_s96_26, am_s96_27, am_s96_30, am_s96_33, am_s96_34, am_s96_35, am_s96_38, am_s96_39, am_s96_40, am_s96_43, am_s96_44, am_s96_47, am_s96_50, am_s96_51, am_s96_54, am_s96_55, am_s96_56, am_s96_59, am_s96_60, am_s96_63, am_s96_64, am_s96_67, am_s96_70, am_s96_71, am_s96_72, am_s96_73, am_s96_76, am_s96_77, am_s96_80, am_s96_83, am_s96_84, am_s96_85, am_s96_88, am_s96_91, am_s96_94, am_s96_95, am_s96_96, am_s96_99, am_s96_102, am_s96_103, am_s96_106, am_s96_109, am_s96_110, am_s96_111, am_f0_6, am_rld_104 hj, am_cal_ok am_cat_0 am_rcv_f (am_m121 _), am_cal_ok am_cat_0 am_rcv_f (am_m123 _ _), am_cal_ok am_cat_0 (am_rcv_sh hj) (am_m58 hj), am_cal_ok am_cat_0 am_v0 am_e2, am_os_some, Option.toList_some, List.cons_append, List.nil_append, am_bI0, h1, h2, hG, decide_true, reduceCtorEq, if_true, if_false, true_and]
theorem am_o108a {a b c : Int32} (h1 : am_wi a 3 = false) : am_CD X (D + 4) 108 [.ref 0, .int a, .int b, .int c] (am_L0 q, G) = some (some (.int (-1000000001)), (am_L0 q, am_up G 105 1 (G 105 1 + 1))) := by
  refine am_CD_of (M := am_N108) rfl rfl ?_
  show am_Rn _ _ ((Option.some FieldType.int)) am_J108 0 [some (.ref 0), some (.int a), some (.int b), some (.int c)] [] (am_L0 q, G) _
  simp only [am_s108_0, am_s108_1, am_s108_4, am_s108_7, am_s108_8, am_s108_9, am_s108_12, am_s108_13, am_s108_14, am_s108_17, am_s108_18, am_s108_19, am_s108_22, am_s108_25, am_s108_26, am_s108_27, am_s108_30, am_s108_31, am_s108_32, am_s108_35, am_s108_36, am_s108_37, am_s108_40, am_s108_41, am_s108_42, am_s108_45, am_s108_48, am_s108_49, am_s108_50, am_s108_53, am_s108_54, am_s108_55, am_s108_58, am_s108_59, am_s108_60, am_s108_61, am_s108_62, am_s108_65, am_s108_66, am_cal_ok am_cat_0 am_rcv_f (am_m121 _), am_cal_ok am_cat_0 am_v0 am_e1, am_os_some, Option.toList_some, List.cons_append, List.nil_append, am_bI0, h1, if_true, true_and]
theorem am_o110a {a : Int32} (h1 : am_wi a 3 = false) : am_CD X (D + 4) 110 [.ref 0, .int a] (am_L0 q, G) = some (some (.int (-1000000001)), (am_L0 q, am_up G 105 1 (G 105 1 + 1))) := by
  refine am_CD_of (M := am_N110) rfl rfl ?_
  show am_Rn _ _ ((Option.some FieldType.int)) am_J110 0 [some (.ref 0), some (.int a), none, none, none] [] (am_L0 q, G) _
  simp only [am_s110_0, am_s110_1, am_s110_4, am_s110_7, am_s110_8, am_s110_9, am_s110_12, am_s110_13, am_s110_14, am_s110_17, am_s110_18, am_s110_19, am_s110_20, am_s110_21, am_s110_24, am_s110_27, am_s110_28, am_s110_29, am_s110_32, am_s110_33, am_s110_34, am_s110_37, am_s110_40, am_s110_41, am_s110_42, am_s110_44, am_s110_46, am_s110_47, am_s110_50, am_s110_53, am_s110_55, am_s110_56, am_s110_59, am_s110_62, am_s110_63, am_s110_66, am_s110_68, am_s110_69, am_s110_71, am_s110_74, am_s110_77, am_s110_78, am_s110_81, am_s110_83, am_s110_84, am_s110_87, am_s110_89, am_s110_90, am_s110_91, am_s110_94, am_s110_97, am_s110_99, am_cal_ok am_cat_0 am_rcv_f (am_m121 _), am_cal_ok am_cat_0 am_v0 am_e1, am_os_some, Option.toList_some, List.cons_append, List.nil_append, am_bI0, h1, if_true, true_and]
theorem am_o111a {a : Int32} (h1 : am_wi a 3 = false) : am_CD X (D + 4) 111 [.ref 0, .int a] (am_L0 q, G) = some (some (.int (-1000000001)), (am_L0 q, am_up G 105 1 (G 105 1 + 1))) := by
  refine am_CD_of (M := am_N111) rfl rfl ?_
  show am_Rn _ _ ((Option.some FieldType.int)) am_J111 0 [some (.ref 0), some (.int a), none, none, none] [] (am_L0 q, G) _
  simp only [am_s111_0, am_s111_1, am_s111_4, am_s111_7, am_s111_8, am_s111_9, am_s111_12, am_s111_13, am_s111_14, am_s111_17, am_s111_18, am_s111_19, am_s111_20, am_s111_21, am_s111_24, am_s111_27, am_s111_28, am_s111_29, am_s111_32, am_s111_33, am_s111_34, am_s111_37, am_s111_40, am_s111_41, am_s111_42, am_s111_44, am_s111_46, am_s111_47, am_s111_50, am_s111_53, am_s111_55, am_s111_56, am_s111_59, am_s111_62, am_s111_63, am_s111_66, am_s111_68, am_s111_69, am_s111_70, am_s111_73, am_s111_75, am_s111_76, am_s111_79, am_s111_82, am_s111_85, am_s111_87, am_s111_88, am_s111_91, am_s111_94, am_s111_96, am_s111_97, am_s111_100, am_s111_103, am_s111_104, am_s111_107, am_s111_109, am_cal_ok am_cat_0 am_rcv_f (am_m121 _), am_cal_ok am_cat_0 am_v0 am_e1, am_os_some, Option.toList_some, List.cons_append, List.nil_append, am_bI0, h1, if_true, true_and]
theorem am_wi3 {j : Nat} (hj : j < 4) : am_wi (nI j) 3 = true := by
  match j, hj with
  | 0, _ => decide +kernel
  | 1, _ => decide +kernel
  | 2, _ => decide +kernel
  | 3, _ => decide +kernel
theorem am_o108b {j : Nat} {b c : Int32} (hj : j < 4) (hG : G (106 + 2 * j) 1 = 0) : am_CD X (D + 4) 108 [.ref 0, .int (nI j), .int b, .int c] (am_L0 q, G) = some (some (.int (-1000000002)), (am_L0 q, am_up G 105 2 (G 105 2 + 1))) := by
  refine am_CD_of (M := am_N108) rfl rfl ?_
  show am_Rn _ _ ((Option.some FieldType.int)) am_J108 0 [some (.ref 0), some (.int (nI j)), some (.int b), some (.int c)] [] (am_L0 q, G) _
  simp only [am_s108_0, am_s108_1, am_s108_4, am_s108_7, am_s108_8, am_s108_9, am_s108_12, am_s108_13, am_s108_14, am_s108_17, am_s108_18, am_s108_19, am_s108_22, am_s108_25, am_s108_26, am_s108_27, am_s108_30, am_s108_31, am_s108_32, am_s108_35, am_s108_36, am_s108_37, am_s108_40, am_s108_41, am_s108_42, am_s108_45, am_s108_48, am_s108_49, am_s108_50, am_s108_53, am_s108_54, am_s108_55, am_s108_58, am_s108_59, am_s108_60, am_s108_61, am_s108_62, am_s108_65, am_s108_66, am_f0_6, am_rld_104 hj, am_cal_ok am_cat_0 am_rcv_f (am_m121 _), am_cal_ok am_cat_0 (am_rcv_sh hj) (am_m58 hj), am_cal_ok am_cat_0 am_v0 am_e2, am_os_some, Option.toList_some, List.cons_append, List.nil_append, am_bI0, am_wi3 hj, hG, decide_true, reduceCtorEq, if_true, if_false, true_and]
theorem am_o110b {j : Nat} (hj : j < 4) (hG : G (106 + 2 * j) 1 = 0) : am_CD X (D + 4) 110 [.ref 0, .int (nI j)] (am_L0 q, G) = some (some (.int (-1000000002)), (am_L0 q, am_up G 105 2 (G 105 2 + 1))) := by
  refine am_CD_of (M := am_N110) rfl rfl ?_
  show am_Rn _ _ ((Option.some FieldType.int)) am_J110 0 [some (.ref 0), some (.int (nI j)), none, none, none] [] (am_L0 q, G) _
  simp only [am_s110_0, am_s110_1, am_s110_4, am_s110_7, am_s110_8, am_s110_9, am_s110_12, am_s110_13, am_s110_14, am_s110_17, am_s110_18, am_s110_19, am_s110_20, am_s110_21, am_s110_24, am_s110_27, am_s110_28, am_s110_29, am_s110_32, am_s110_33, am_s110_34, am_s110_37, am_s110_40, am_s110_41, am_s110_42, am_s110_44, am_s110_46, am_s110_47, am_s110_50, am_s110_53, am_s110_55, am_s110_56, am_s110_59, am_s110_62, am_s110_63, am_s110_66, am_s110_68, am_s110_69, am_s110_71, am_s110_74, am_s110_77, am_s110_78, am_s110_81, am_s110_83, am_s110_84, am_s110_87, am_s110_89, am_s110_90, am_s110_91, am_s110_94, am_s110_97, am_s110_99, am_f0_6, am_rld_104 hj, am_cal_ok am_cat_0 am_rcv_f (am_m121 _), am_cal_ok am_cat_0 (am_rcv_sh hj) (am_m58 hj), am_cal_ok am_cat_0 am_v0 am_e2, am_os_some, Option.toList_some, List.cons_append, List.nil_append, am_bI0, am_wi3 hj, hG, decide_true, reduceCtorEq, if_true, if_false, true_and, am_nw1_i, am_nw1_r, am_nw1_n]
theorem am_o111b {j : Nat} (hj : j < 4) (hG : G (106 + 2 * j) 1 = 0) : am_CD X (D + 4) 111 [.ref 0, .int (nI j)] (am_L0 q, G) = some (some (.int (-1000000002)), (am_L0 q, am_up G 105 2 (G 105 2 + 1))) := by
  refine am_CD_of (M := am_N111) rfl rfl ?_
  show am_Rn _ _ ((Option.some FieldType.int)) am_J111 0 [some (.ref 0), some (.int (nI j)), none, none, none] [] (am_L0 q, G) _
  simp only [am_s111_0, am_s111_1, am_s111_4, am_s111_7, am_s111_8, am_s111_9, am_s111_12, am_s111_13, am_s111_14, am_s111_17, am_s111_18, am_s111_19, am_s111_20, am_s111_21, am_s111_24, am_s111_27, am_s111_28, am_s111_29, am_s111_32, am_s111_33, am_s111_34, am_s111_37, am_s111_40, am_s111_41, am_s111_42, am_s111_44, am_s111_46, am_s111_47, am_s111_50, am_s111_53, am_s111_55, am_s111_56, am_s111_59, am_s111_62, am_s111_63, am_s111_66, am_s111_68, am_s111_69, am_s111_70, am_s111_73, am_s111_75, am_s111_76, am_s111_79, am_s111_82, am_s111_85, am_s111_87, am_s111_88, am_s111_91, am_s111_94, am_s111_96, am_s111_97, am_s111_100, am_s111_103, am_s111_104, am_s111_107, am_s111_109, am_f0_6, am_rld_104 hj, am_cal_ok am_cat_0 am_rcv_f (am_m121 _), am_cal_ok am_cat_0 (am_rcv_sh hj) (am_m58 hj), am_cal_ok am_cat_0 am_v0 am_e2, am_os_some, Option.toList_some, List.cons_append, List.nil_append, am_bI0, am_wi3 hj, hG, decide_true, reduceCtorEq, if_true, if_false, true_and, am_nw1_i, am_nw1_r, am_nw1_n]
theorem am_o215 {a : Int32} (h : am_wi a 9 = false) : am_CD X (D + 4) 215 [.ref 114, .int a] (am_L0 q, G) = some (some (.int (-1000000001)), (am_L0 q, am_up G 119 1 (G 119 1 + 1))) := by
  have h2 : a.toInt < 0 ∨ (9 : Int) < a.toInt := am_wi_out (n := 9) (by decide) h
  refine am_CD_of (M := am_N215) rfl rfl ?_
  show am_Rn _ _ ((Option.some FieldType.int)) am_J215 0 [some (.ref 114), some (.int a)] [] (am_L0 q, G) _
  simp only [am_s215_0, am_s215_1, am_s215_56, am_s215_57, am_s215_60, am_s215_61, am_s215_62, am_s215_63, am_s215_64, am_s215_67, am_s215_68, am_s215_69, am_s215_70, am_s215_71, am_s215_72, am_s215_75, am_s215_76, am_s215_77, am_s215_78, am_s215_81, am_s215_82, am_s215_83, am_s215_86, am_s215_87, am_s215_88, am_s215_91, am_s215_92, am_s215_93, am_s215_96, am_s215_97, am_s215_98, am_s215_99, am_s215_100, am_s215_103, am_s215_104, am_s215_105, am_s215_106, am_s215_107, am_s215_110, am_s215_111, am_s215_112, am_s215_115, am_s215_116, am_s215_117, am_s215_118, am_s215_119, am_s215_121, am_s215_124, am_tsw_out h2, am_os_some]
  rw [show am_jmp 1 117 = 118 from rfl]
  simp only [am_s215_0, am_s215_1, am_s215_56, am_s215_57, am_s215_60, am_s215_61, am_s215_62, am_s215_63, am_s215_64, am_s215_67, am_s215_68, am_s215_69, am_s215_70, am_s215_71, am_s215_72, am_s215_75, am_s215_76, am_s215_77, am_s215_78, am_s215_81, am_s215_82, am_s215_83, am_s215_86, am_s215_87, am_s215_88, am_s215_91, am_s215_92, am_s215_93, am_s215_96, am_s215_97, am_s215_98, am_s215_99, am_s215_100, am_s215_103, am_s215_104, am_s215_105, am_s215_106, am_s215_107, am_s215_110, am_s215_111, am_s215_112, am_s215_115, am_s215_116, am_s215_117, am_s215_118, am_s215_119, am_s215_121, am_s215_124, am_cal_ok am_cat_0 am_v114 am_d1, am_os_some, Option.toList_some, List.cons_append, List.nil_append, true_and]
end AMSH
