/-! rows that grow; tell; trace; change; law without a TEXT -/
section AMRW
variable {X : am_X} {D q : Nat} {G : am_G}
theorem am_m49_26 {k : Nat} {v : Int32} (hk : k < 50) (hs : G 26 1 = nI k) : am_CD X (D + 1) 49 [.ref 26, .int v] (am_L0 q, G) = some (none, (am_L0 q, am_up (am_up G 27 k v) 26 1 (nI k + 1))) := by
  have hc : (nI k).toNatClampNeg = k := nI_clamp (by omega)
  have h0 : ¬ nI k < 0 := nI_pos (by omega)
  have h1 : nI k < Int32.ofNat 50 := nI_lt hk (by decide)
  refine am_CD_of (M := am_N49) rfl rfl ?_
  show am_Rn _ _ none am_J49 0 [some (.ref 26), some (.int v)] [] (am_L0 q, G) _
  simp only [am_s49_0, am_s49_1, am_s49_4, am_s49_7, am_s49_8, am_s49_11, am_s49_12, am_s49_15, am_s49_16, am_s49_19, am_s49_20, am_s49_21, am_s49_24, am_s49_25, am_s49_28, am_s49_29, am_s49_30, am_s49_31, am_s49_31a, am_s49_32, am_s49_35, am_s49_36, am_s49_37, am_s49_40, am_f26_0, am_f26_1, am_p26_1, am_n27, am_t27, am_in_nI hk (by decide), hc, hs, h0, h1, am_up_get, Nat.reduceEqDiff, am_os_some, Option.toList_some, Option.toList_none, List.cons_append, List.nil_append, am_bI0, reduceCtorEq, if_true, if_false, ite_self, true_and, am_nw1_i, am_nw1_r, am_nw1_n, cond_true]
theorem am_m49_28 {k : Nat} {v : Int32} (hk : k < 20) (hs : G 28 1 = nI k) : am_CD X (D + 1) 49 [.ref 28, .int v] (am_L0 q, G) = some (none, (am_L0 q, am_up (am_up G 29 k v) 28 1 (nI k + 1))) := by
  have hc : (nI k).toNatClampNeg = k := nI_clamp (by omega)
  have h0 : ¬ nI k < 0 := nI_pos (by omega)
  have h1 : nI k < Int32.ofNat 20 := nI_lt hk (by decide)
  refine am_CD_of (M := am_N49) rfl rfl ?_
  show am_Rn _ _ none am_J49 0 [some (.ref 28), some (.int v)] [] (am_L0 q, G) _
  simp only [am_s49_0, am_s49_1, am_s49_4, am_s49_7, am_s49_8, am_s49_11, am_s49_12, am_s49_15, am_s49_16, am_s49_19, am_s49_20, am_s49_21, am_s49_24, am_s49_25, am_s49_28, am_s49_29, am_s49_30, am_s49_31, am_s49_31a, am_s49_32, am_s49_35, am_s49_36, am_s49_37, am_s49_40, am_f28_0, am_f28_1, am_p28_1, am_n29, am_t29, am_in_nI hk (by decide), hc, hs, h0, h1, am_up_get, Nat.reduceEqDiff, am_os_some, Option.toList_some, Option.toList_none, List.cons_append, List.nil_append, am_bI0, reduceCtorEq, if_true, if_false, ite_self, true_and, am_nw1_i, am_nw1_r, am_nw1_n, cond_true]
theorem am_m49_97 {k : Nat} {v : Int32} (hk : k < 50) (hs : G 97 1 = nI k) : am_CD X (D + 1) 49 [.ref 97, .int v] (am_L0 q, G) = some (none, (am_L0 q, am_up (am_up G 98 k v) 97 1 (nI k + 1))) := by
  have hc : (nI k).toNatClampNeg = k := nI_clamp (by omega)
  have h0 : ¬ nI k < 0 := nI_pos (by omega)
  have h1 : nI k < Int32.ofNat 50 := nI_lt hk (by decide)
  refine am_CD_of (M := am_N49) rfl rfl ?_
  show am_Rn _ _ none am_J49 0 [some (.ref 97), some (.int v)] [] (am_L0 q, G) _
  simp only [am_s49_0, am_s49_1, am_s49_4, am_s49_7, am_s49_8, am_s49_11, am_s49_12, am_s49_15, am_s49_16, am_s49_19, am_s49_20, am_s49_21, am_s49_24, am_s49_25, am_s49_28, am_s49_29, am_s49_30, am_s49_31, am_s49_31a, am_s49_32, am_s49_35, am_s49_36, am_s49_37, am_s49_40, am_f97_0, am_f97_1, am_p97_1, am_n98, am_t98, am_in_nI hk (by decide), hc, hs, h0, h1, am_up_get, Nat.reduceEqDiff, am_os_some, Option.toList_some, Option.toList_none, List.cons_append, List.nil_append, am_bI0, reduceCtorEq, if_true, if_false, ite_self, true_and, am_nw1_i, am_nw1_r, am_nw1_n, cond_true]
theorem am_m49_102 {k : Nat} {v : Int32} (hk : k < 40) (hs : G 102 1 = nI k) : am_CD X (D + 1) 49 [.ref 102, .int v] (am_L0 q, G) = some (none, (am_L0 q, am_up (am_up G 103 k v) 102 1 (nI k + 1))) := by
  have hc : (nI k).toNatClampNeg = k := nI_clamp (by omega)
  have h0 : ¬ nI k < 0 := nI_pos (by omega)
  have h1 : nI k < Int32.ofNat 40 := nI_lt hk (by decide)
  refine am_CD_of (M := am_N49) rfl rfl ?_
  show am_Rn _ _ none am_J49 0 [some (.ref 102), some (.int v)] [] (am_L0 q, G) _
  simp only [am_s49_0, am_s49_1, am_s49_4, am_s49_7, am_s49_8, am_s49_11, am_s49_12, am_s49_15, am_s49_16, am_s49_19, am_s49_20, am_s49_21, am_s49_24, am_s49_25, am_s49_28, am_s49_29, am_s49_30, am_s49_31, am_s49_31a, am_s49_32, am_s49_35, am_s49_36, am_s49_37, am_s49_40, am_f102_0, am_f102_1, am_p102_1, am_n103, am_t103, am_in_nI hk (by decide), hc, hs, h0, h1, am_up_get, Nat.reduceEqDiff, am_os_some, Option.toList_some, Option.toList_none, List.cons_append, List.nil_append, am_bI0, reduceCtorEq, if_true, if_false, ite_self, true_and, am_nw1_i, am_nw1_r, am_nw1_n, cond_true]
theorem am_o114 {k : Nat} {v : Int32} (hk : k < 20) (hs : G 28 1 = nI k) : am_CD X (D + 4) 114 [.ref 0, .int v] (am_L0 q, G) = some (some (.int (nI k + 1)), (am_L0 q, am_up (am_up G 29 k v) 28 1 (nI k + 1))) := by
  have h1 : nI k < 20 := nI_lt hk (by decide)
  refine am_CD_of (M := am_N114) rfl rfl ?_
  show am_Rn _ _ ((Option.some FieldType.int)) am_J114 0 [some (.ref 0), some (.int v)] [] (am_L0 q, G) _
  simp only [am_s114_0, am_s114_1, am_s114_4, am_s114_7, am_s114_10, am_s114_12, am_s114_15, am_s114_16, am_s114_17, am_s114_20, am_s114_21, am_s114_22, am_s114_25, am_s114_28, am_s114_29, am_s114_32, am_s114_33, am_s114_36, am_s114_39, am_s114_42, am_f0_0, am_f1_4, am_f28_1, am_cal_ok am_cat_0 am_v28 (am_m49_28 hk hs), hs, h1, am_up_get, Nat.reduceEqDiff, am_os_some, Option.toList_some, Option.toList_none, List.cons_append, List.nil_append, am_bI0, reduceCtorEq, if_true, if_false, ite_self, true_and, am_nw1_i, am_nw1_r, am_nw1_n, cond_true]
theorem am_o213 {k : Nat} {v : Int32} (hk : k < 20) (hs : G 115 4 = nI k) : am_CD X (D + 4) 213 [.ref 114, .int v] (am_L0 q, G) = some (some (.int (nI k + 1)), (am_L0 q, am_up (am_up G 115 (161 + k) v) 115 4 (nI k + 1))) := by
  have h1 : ¬ nI k = 20 := fun h => by
    have := (nI_eq (a := k) (b := 20) (by omega) (by decide)).mp h
    omega
  have e4 : (4 : Int32).toNatClampNeg = 4 := by decide +kernel
  have h4 : am_in 4 281 = true := by decide +kernel
  have h161 : (161 : Int32) + nI k = nI (161 + k) := nI_add 161 k
  have hc : (nI (161 + k)).toNatClampNeg = 161 + k := nI_clamp (by omega)
  have hne : ¬ (4 = 161 + k) := by omega
  refine am_CD_of (M := am_N213) rfl rfl ?_
  show am_Rn _ _ ((Option.some FieldType.int)) am_J213 0 [some (.ref 114), some (.int v)] [] (am_L0 q, G) _
  simp only [am_s213_0, am_s213_1, am_s213_4, am_s213_5, am_s213_6, am_s213_8, am_s213_11, am_s213_12, am_s213_14, am_s213_17, am_s213_18, am_s213_19, am_s213_22, am_s213_25, am_s213_26, am_s213_29, am_s213_30, am_s213_31, am_s213_32, am_s213_33, am_s213_34, am_s213_35, am_s213_38, am_s213_39, am_s213_40, am_s213_41, am_s213_42, am_s213_43, am_s213_44, am_s213_45, am_s213_48, am_s213_49, am_s213_50, am_f114_0, am_a115, am_t115, h4, e4, hs, h1, h161, hc, am_in_nI (show 161 + k < 281 by omega) (by decide), am_up_get, hne, am_os_some, Option.toList_some, Option.toList_none, List.cons_append, List.nil_append, am_bI0, reduceCtorEq, if_true, if_false, ite_self, true_and, am_nw1_i, am_nw1_r, am_nw1_n, cond_true]
theorem am_o204 (h : G 114 25 = 0) (a : Int32) : am_CD X (D + 4) 204 [.ref 114, .int a] (am_L0 q, G) = some (some (.int (-1000000002)), (am_L0 q, am_up G 119 2 (G 119 2 + 1))) := by
  refine am_CD_of (M := am_N204) rfl rfl ?_
  show am_Rn _ _ ((Option.some FieldType.int)) am_J204 0 [some (.ref 114), some (.int a)] [] (am_L0 q, G) _
  simp only [am_s204_0, am_s204_1, am_s204_2, am_s204_3, am_s204_6, am_s204_7, am_s204_8, am_s204_11, am_s204_14, am_s204_15, am_s204_18, am_s204_19, am_s204_20, am_s204_23, am_s204_24, am_s204_26, am_s204_29, am_cal_ok am_cat_0 am_rcv_f (am_m125 _ _ _), am_cal_ok am_cat_0 am_v114 am_d2, am_f114_25, h, am_np1, am_os_some, Option.toList_some, Option.toList_none, List.cons_append, List.nil_append, am_bI0, reduceCtorEq, if_true, if_false, ite_self, true_and, am_nw1_i, am_nw1_r, am_nw1_n, cond_true]
theorem am_o137 (h : G 115 2 = 0) (a b c : Int32) : am_CD X (D + 4) 137 [.ref 114, .int a, .int b, .int c] (am_L0 q, G) = some (some (.int (-1000000001)), (am_L0 q, am_up G 119 1 (G 119 1 + 1))) := by
  refine am_CD_of (M := am_N137) rfl rfl ?_
  show am_Rn _ _ ((Option.some FieldType.int)) am_J137 0 [some (.ref 114), some (.int a), some (.int b), some (.int c), none] [] (am_L0 q, G) _
  simp only [am_s137_0, am_s137_1, am_s137_4, am_s137_5, am_s137_6, am_s137_8, am_s137_11, am_s137_14, am_s137_15, am_s137_16, am_s137_19, am_s137_20, am_s137_21, am_s137_24, am_s137_27, am_s137_30, am_s137_31, am_s137_32, am_s137_35, am_s137_36, am_s137_37, am_s137_39, am_s137_42, am_s137_45, am_s137_46, am_s137_49, am_s137_50, am_s137_52, am_s137_53, am_s137_54, am_s137_57, am_s137_60, am_s137_62, am_s137_65, am_s137_66, am_s137_68, am_s137_69, am_s137_70, am_s137_71, am_s137_72, am_s137_73, am_s137_74, am_s137_75, am_s137_76, am_s137_77, am_s137_80, am_s137_83, am_s137_84, am_s137_86, am_s137_89, am_cal_ok am_cat_0 am_rcv_f (am_m125z _ _), am_cal_ok am_cat_0 am_v114 (am_m132 _), am_cal_ok am_cat_0 am_v114 am_d1, h, am_np1, am_os_some, Option.toList_some, Option.toList_none, List.cons_append, List.nil_append, am_bI0, reduceCtorEq, if_true, if_false, ite_self, true_and, am_nw1_i, am_nw1_r, am_nw1_n, cond_true]
end AMRW
