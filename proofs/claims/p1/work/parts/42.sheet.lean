/-! sheet: errors, and a new SHEET -/
theorem am_nn40 : ∀ (j : Fin 4) (k : Fin 40), (40 : Int32) * nI j.1 + nI k.1 = nI (40 * j.1 + k.1) := by decide +kernel
section AMSH
variable {X : am_X} {D q : Nat}
theorem am_l8 : ((8 : Int32) = 0) = False := by decide
theorem am_l16 : ((16 : Int32) = 0) = False := by decide
theorem am_l32 : ((32 : Int32) = 0) = False := by decide
theorem am_l168 : ((16 : Int32) = 8) = False := by decide
theorem am_l328 : ((32 : Int32) = 8) = False := by decide
theorem am_l3216 : ((32 : Int32) = 16) = False := by decide
theorem am_o107a {G : am_G} {a b n : Int32} (h : am_wi a 3 = false) : am_CD X (D + 4) 107 [.ref 0, .int a, .int b, .int n] (am_L0 q, G) = some (some (.int (-1000000001)), (am_L0 q, am_up G 105 1 (G 105 1 + 1))) := by
  refine am_CD_of (M := am_N107) rfl rfl ?_
  show am_Rn _ _ ((Option.some FieldType.int)) am_J107 0 [some (.ref 0), some (.int a), some (.int b), some (.int n)] [] (am_L0 q, G) _
  simp only [am_s107_0, am_s107_1, am_s107_4, am_s107_7, am_s107_8, am_s107_9, am_s107_12, am_s107_13, am_s107_14, am_s107_17, am_s107_18, am_s107_20, am_s107_23, am_s107_24, am_s107_26, am_s107_29, am_s107_30, am_s107_32, am_s107_35, am_s107_36, am_s107_37, am_s107_40, am_s107_41, am_s107_42, am_s107_45, am_s107_46, am_s107_49, am_s107_50, am_s107_51, am_s107_54, am_s107_55, am_s107_56, am_s107_59, am_s107_60, am_s107_62, am_s107_65, am_s107_66, am_s107_67, am_s107_70, am_s107_71, am_s107_72, am_s107_75, am_s107_76, am_s107_77, am_s107_78, am_s107_79, am_s107_82, am_s107_83, am_s107_86, am_s107_87, am_s107_90, am_s107_91, am_cal_ok am_cat_0 am_rcv_f (am_m121 _), am_cal_ok am_cat_0 am_v0 am_e1, h, am_os_some, Option.toList_some, List.cons_append, List.nil_append, am_bI0, reduceCtorEq, if_true, if_false, true_and]
theorem am_o107b {G : am_G} {a b n : Int32} (h : am_wi a 3 = true) (h0 : ¬ b = 0) (h8 : ¬ b = 8) (h16 : ¬ b = 16) (h32 : ¬ b = 32) : am_CD X (D + 4) 107 [.ref 0, .int a, .int b, .int n] (am_L0 q, G) = some (some (.int (-1000000001)), (am_L0 q, am_up G 105 1 (G 105 1 + 1))) := by
  refine am_CD_of (M := am_N107) rfl rfl ?_
  show am_Rn _ _ ((Option.some FieldType.int)) am_J107 0 [some (.ref 0), some (.int a), some (.int b), some (.int n)] [] (am_L0 q, G) _
  simp only [am_s107_0, am_s107_1, am_s107_4, am_s107_7, am_s107_8, am_s107_9, am_s107_12, am_s107_13, am_s107_14, am_s107_17, am_s107_18, am_s107_20, am_s107_23, am_s107_24, am_s107_26, am_s107_29, am_s107_30, am_s107_32, am_s107_35, am_s107_36, am_s107_37, am_s107_40, am_s107_41, am_s107_42, am_s107_45, am_s107_46, am_s107_49, am_s107_50, am_s107_51, am_s107_54, am_s107_55, am_s107_56, am_s107_59, am_s107_60, am_s107_62, am_s107_65, am_s107_66, am_s107_67, am_s107_70, am_s107_71, am_s107_72, am_s107_75, am_s107_76, am_s107_77, am_s107_78, am_s107_79, am_s107_82, am_s107_83, am_s107_86, am_s107_87, am_s107_90, am_s107_91, am_cal_ok am_cat_0 am_rcv_f (am_m121 _), am_cal_ok am_cat_0 am_v0 am_e1, h, h0, h8, h16, h32, am_os_some, Option.toList_some, List.cons_append, List.nil_append, am_bI0, reduceCtorEq, if_true, if_false, true_and]
theorem am_o107c {G : am_G} {a b n : Int32} (h : am_wi a 3 = true) (hb : b = 8 ∨ b = 16 ∨ b = 32) (hn : n < 0) : am_CD X (D + 4) 107 [.ref 0, .int a, .int b, .int n] (am_L0 q, G) = some (some (.int (-1000000003)), (am_L0 q, am_up G 105 3 (G 105 3 + 1))) := by
  refine am_CD_of (M := am_N107) rfl rfl ?_
  show am_Rn _ _ ((Option.some FieldType.int)) am_J107 0 [some (.ref 0), some (.int a), some (.int b), some (.int n)] [] (am_L0 q, G) _
  rcases hb with rfl | rfl | rfl <;> simp only [am_s107_0, am_s107_1, am_s107_4, am_s107_7, am_s107_8, am_s107_9, am_s107_12, am_s107_13, am_s107_14, am_s107_17, am_s107_18, am_s107_20, am_s107_23, am_s107_24, am_s107_26, am_s107_29, am_s107_30, am_s107_32, am_s107_35, am_s107_36, am_s107_37, am_s107_40, am_s107_41, am_s107_42, am_s107_45, am_s107_46, am_s107_49, am_s107_50, am_s107_51, am_s107_54, am_s107_55, am_s107_56, am_s107_59, am_s107_60, am_s107_62, am_s107_65, am_s107_66, am_s107_67, am_s107_70, am_s107_71, am_s107_72, am_s107_75, am_s107_76, am_s107_77, am_s107_78, am_s107_79, am_s107_82, am_s107_83, am_s107_86, am_s107_87, am_s107_90, am_s107_91, am_cal_ok am_cat_0 am_rcv_f (am_m121 _), am_cal_ok am_cat_0 am_v0 am_e3, h, hn, am_l8, am_l16, am_l32, am_l168, am_l328, am_l3216, am_os_some, Option.toList_some, List.cons_append, List.nil_append, am_bI0, reduceCtorEq, if_true, if_false, true_and]
theorem am_o107d {G : am_G} {a b n : Int32} (h : am_wi a 3 = true) (hb : b = 8 ∨ b = 16 ∨ b = 32) (hn : ¬ n < 0) (hm : ¬ n ≤ 40) : am_CD X (D + 4) 107 [.ref 0, .int a, .int b, .int n] (am_L0 q, G) = some (some (.int (-1000000001)), (am_L0 q, am_up G 105 1 (G 105 1 + 1))) := by
  refine am_CD_of (M := am_N107) rfl rfl ?_
  show am_Rn _ _ ((Option.some FieldType.int)) am_J107 0 [some (.ref 0), some (.int a), some (.int b), some (.int n)] [] (am_L0 q, G) _
  rcases hb with rfl | rfl | rfl <;> simp only [am_s107_0, am_s107_1, am_s107_4, am_s107_7, am_s107_8, am_s107_9, am_s107_12, am_s107_13, am_s107_14, am_s107_17, am_s107_18, am_s107_20, am_s107_23, am_s107_24, am_s107_26, am_s107_29, am_s107_30, am_s107_32, am_s107_35, am_s107_36, am_s107_37, am_s107_40, am_s107_41, am_s107_42, am_s107_45, am_s107_46, am_s107_49, am_s107_50, am_s107_51, am_s107_54, am_s107_55, am_s107_56, am_s107_59, am_s107_60, am_s107_62, am_s107_65, am_s107_66, am_s107_67, am_s107_70, am_s107_71, am_s107_72, am_s107_75, am_s107_76, am_s107_77, am_s107_78, am_s107_79, am_s107_82, am_s107_83, am_s107_86, am_s107_87, am_s107_90, am_s107_91, am_cal_ok am_cat_0 am_rcv_f (am_m121 _), am_cal_ok am_cat_0 am_v0 am_e1, h, hn, hm, am_l8, am_l16, am_l32, am_l168, am_l328, am_l3216, am_os_some, Option.toList_some, List.cons_append, List.nil_append, am_bI0, reduceCtorEq, if_true, if_false, true_and]
theorem am_o206a {G : am_G} {a b n : Int32} (h : am_wi a 3 = false) : am_CD X (D + 4) 206 [.ref 114, .int a, .int b, .int n] (am_L0 q, G) = some (some (.int (-1000000001)), (am_L0 q, am_up G 119 1 (G 119 1 + 1))) := by
  refine am_CD_of (M := am_N206) rfl rfl ?_
  show am_Rn _ _ ((Option.some FieldType.int)) am_J206 0 [some (.ref 114), some (.int a), some (.int b), some (.int n), none] [] (am_L0 q, G) _
  simp only [am_s206_0, am_s206_1, am_s206_4, am_s206_7, am_s206_8, am_s206_11, am_s206_12, am_s206_14, am_s206_17, am_s206_18, am_s206_20, am_s206_23, am_s206_24, am_s206_26, am_s206_29, am_s206_30, am_s206_32, am_s206_35, am_s206_36, am_s206_37, am_s206_40, am_s206_41, am_s206_44, am_s206_45, am_s206_47, am_s206_50, am_s206_51, am_s206_52, am_s206_55, am_s206_56, am_s206_58, am_s206_61, am_s206_62, am_s206_64, am_s206_67, am_s206_68, am_s206_69, am_s206_72, am_s206_73, am_s206_74, am_s206_75, am_s206_76, am_s206_79, am_s206_80, am_s206_81, am_s206_84, am_s206_85, am_s206_88, am_s206_89, am_s206_90, am_s206_91, am_s206_93, am_s206_95, am_s206_97, am_s206_100, am_s206_101, am_s206_104, am_s206_106, am_s206_107, am_s206_108, am_s206_110, am_s206_111, am_s206_112, am_s206_113, am_s206_119, am_s206_120, am_cal_ok am_cat_0 am_rcv_f (am_m183 _), am_cal_ok am_cat_0 am_v114 am_d1, h, am_os_some, Option.toList_some, List.cons_append, List.nil_append, am_bI0, reduceCtorEq, if_true, if_false, true_and]
theorem am_o206b {G : am_G} {a b n : Int32} (h : am_wi a 3 = true) (h0 : ¬ b = 0) (h8 : ¬ b = 8) (h16 : ¬ b = 16) (h32 : ¬ b = 32) : am_CD X (D + 4) 206 [.ref 114, .int a, .int b, .int n] (am_L0 q, G) = some (some (.int (-1000000001)), (am_L0 q, am_up G 119 1 (G 119 1 + 1))) := by
  refine am_CD_of (M := am_N206) rfl rfl ?_
  show am_Rn _ _ ((Option.some FieldType.int)) am_J206 0 [some (.ref 114), some (.int a), some (.int b), some (.int n), none] [] (am_L0 q, G) _
  simp only [am_s206_0, am_s206_1, am_s206_4, am_s206_7, am_s206_8, am_s206_11, am_s206_12, am_s206_14, am_s206_17, am_s206_18, am_s206_20, am_s206_23, am_s206_24, am_s206_26, am_s206_29, am_s206_30, am_s206_32, am_s206_35, am_s206_36, am_s206_37, am_s206_40, am_s206_41, am_s206_44, am_s206_45, am_s206_47, am_s206_50, am_s206_51, am_s206_52, am_s206_55, am_s206_56, am_s206_58, am_s206_61, am_s206_62, am_s206_64, am_s206_67, am_s206_68, am_s206_69, am_s206_72, am_s206_73, am_s206_74, am_s206_75, am_s206_76, am_s206_79, am_s206_80, am_s206_81, am_s206_84, am_s206_85, am_s206_88, am_s206_89, am_s206_90, am_s206_91, am_s206_93, am_s206_95, am_s206_97, am_s206_100, am_s206_101, am_s206_104, am_s206_106, am_s206_107, am_s206_108, am_s206_110, am_s206_111, am_s206_112, am_s206_113, am_s206_119, am_s206_120, am_cal_ok am_cat_0 am_rcv_f (am_m183 _), am_cal_ok am_cat_0 am_v114 am_d1, h, h0, h8, h16, h32, am_os_some, Option.toList_some, List.cons_append, List.nil_append, am_bI0, reduceCtorEq, if_true, if_false, true_and]
theorem am_o206c {G : am_G} {a b n : Int32} (h : am_wi a 3 = true) (hb : b = 8 ∨ b = 16 ∨ b = 32) (hn : n < 0) : am_CD X (D + 4) 206 [.ref 114, .int a, .int b, .int n] (am_L0 q, G) = some (some (.int (-1000000003)), (am_L0 q, am_up G 119 3 (G 119 3 + 1))) := by
  refine am_CD_of (M := am_N206) rfl rfl ?_
  show am_Rn _ _ ((Option.some FieldType.int)) am_J206 0 [some (.ref 114), some (.int a), some (.int b), some (.int n), none] [] (am_L0 q, G) _
  rcases hb with rfl | rfl | rfl <;> simp only [am_s206_0, am_s206_1, am_s206_4, am_s206_7, am_s206_8, am_s206_11, am_s206_12, am_s206_14, am_s206_17, am_s206_18, am_s206_20, am_s206_23, am_s206_24, am_s206_26, am_s206_29, am_s206_30, am_s206_32, am_s206_35, am_s206_36, am_s206_37, am_s206_40, am_s206_41, am_s206_44, am_s206_45, am_s206_47, am_s206_50, am_s206_51, am_s206_52, am_s206_55, am_s206_56, am_s206_58, am_s206_61, am_s206_62, am_s206_64, am_s206_67, am_s206_68, am_s206_69, am_s206_72, am_s206_73, am_s206_74, am_s206_75, am_s206_76, am_s206_79, am_s206_80, am_s206_81, am_s206_84, am_s206_85, am_s206_88, am_s206_89, am_s206_90, am_s206_91, am_s206_93, am_s206_95, am_s206_97, am_s206_100, am_s206_101, am_s206_104, am_s206_106, am_s206_107, am_s206_108, am_s206_110, am_s206_111, am_s206_112, am_s206_113, am_s206_119, am_s206_120, am_cal_ok am_cat_0 am_rcv_f (am_m183 _), am_cal_ok am_cat_0 am_v114 am_d3, h, hn, am_l8, am_l16, am_l32, am_l168, am_l328, am_l3216, am_os_some, Option.toList_some, List.cons_append, List.nil_append, am_bI0, reduceCtorEq, if_true, if_false, true_and]
theorem am_o206d {G : am_G} {a b n : Int32} (h : am_wi a 3 = true) (hb : b = 8 ∨ b = 16 ∨ b = 32) (hn : ¬ n < 0) (hm : ¬ n ≤ 40) : am_CD X (D + 4) 206 [.ref 114, .int a, .int b, .int n] (am_L0 q, G) = some (some (.int (-1000000001)), (am_L0 q, am_up G 119 1 (G 119 1 + 1))) := by
  refine am_CD_of (M := am_N206) rfl rfl ?_
  show am_Rn _ _ ((Option.some FieldType.int)) am_J206 0 [some (.ref 114), some (.int a), some (.int b), some (.int n), none] [] (am_L0 q, G) _
  rcases hb with rfl | rfl | rfl <;> simp only [am_s206_0, am_s206_1, am_s206_4, am_s206_7, am_s206_8, am_s206_11, am_s206_12, am_s206_14, am_s206_17, am_s206_18, am_s206_20, am_s206_23, am_s206_24, am_s206_26, am_s206_29, am_s206_30, am_s206_32, am_s206_35, am_s206_36, am_s206_37, am_s206_40, am_s206_41, am_s206_44, am_s206_45, am_s206_47, am_s206_50, am_s206_51, am_s206_52, am_s206_55, am_s206_56, am_s206_58, am_s206_61, am_s206_62, am_s206_64, am_s206_67, am_s206_68, am_s206_69, am_s206_72, am_s206_73, am_s206_74, am_s206_75, am_s206_76, am_s206_79, am_s206_80, am_s206_81, am_s206_84, am_s206_85, am_s206_88, am_s206_89, am_s206_90, am_s206_91, am_s206_93, am_s206_95, am_s206_97, am_s206_100, am_s206_101, am_s206_104, am_s206_106, am_s206_107, am_s206_108, am_s206_110, am_s206_111, am_s206_112, am_s206_113, am_s206_119, am_s206_120, am_cal_ok am_cat_0 am_rcv_f (am_m183 _), am_cal_ok am_cat_0 am_v114 am_d1, h, hn, hm, am_l8, am_l16, am_l32, am_l168, am_l328, am_l3216, am_os_some, Option.toList_some, List.cons_append, List.nil_append, am_bI0, reduceCtorEq, if_true, if_false, true_and]
/-- Arrays.fill over a SHEET's numbers -/
theorem am_t_sh {G : am_G} {j : Nat} (hj : j < 4) {i x : Int32} : am_astM (am_L0 q, G) (107 + 2 * j) i x = bif am_in i 40 then some (am_L0 q, am_up G (107 + 2 * j) i.toNatClampNeg x) else none := by
  match j, hj with
  | 0, _ => rfl
  | 1, _ => rfl
  | 2, _ => rfl
  | 3, _ => rfl
theorem am_n_sh {G : am_G} {j : Nat} (hj : j < 4) : am_len X (am_L0 q, G) (107 + 2 * j) = some 40 := by
  match j, hj with
  | 0, _ => rfl
  | 1, _ => rfl
  | 2, _ => rfl
  | 3, _ => rfl
theorem am_f_sh0 {G : am_G} {j : Nat} (hj : j < 4) : am_fld (am_L0 q, G) (106 + 2 * j) 6 0 = some (.ref (107 + 2 * j)) := by
  match j, hj with
  | 0, _ => rfl
  | 1, _ => rfl
  | 2, _ => rfl
  | 3, _ => rfl
theorem am_p_sh1 {G : am_G} {j : Nat} (hj : j < 4) {x : Int32} : am_putM (am_L0 q, G) (106 + 2 * j) 6 1 (.int x) = some (am_L0 q, am_up G (106 + 2 * j) 1 x) := by
  match j, hj with
  | 0, _ => rfl
  | 1, _ => rfl
  | 2, _ => rfl
  | 3, _ => rfl
theorem am_p_sh2 {G : am_G} {j : Nat} (hj : j < 4) {x : Int32} : am_putM (am_L0 q, G) (106 + 2 * j) 6 2 (.int x) = some (am_L0 q, am_up G (106 + 2 * j) 2 x) := by
  match j, hj with
  | 0, _ => rfl
  | 1, _ => rfl
  | 2, _ => rfl
  | 3, _ => rfl
theorem am_l218 {j : Nat} (hj : j < 4) : ∀ (d k : Nat) (G : am_G), k + d = 40 → ∃ G' : am_G, (∀ i a, i ≠ 107 + 2 * j → G' i a = G i a) ∧ am_Rn X D none am_J218 5 [some (.ref (107 + 2 * j)), some (.int 0), some (.int (nI k)), some (.int (Int32.ofNat 40))] [] (am_L0 q, G) (none, (am_L0 q, G')) := by
  intro d
  induction d with
  | zero =>
    intro k G hk
    obtain rfl : k = 40 := by omega
    refine ⟨G, fun _ _ _ => rfl, ?_⟩
    have h : ¬ nI 40 < Int32.ofNat 40 := by decide +kernel
    simp only [am_s218_0, am_s218_1, am_s218_2, am_s218_3, am_s218_4, am_s218_5, am_s218_6, am_s218_7, am_s218_10, am_s218_11, am_s218_12, am_s218_13, am_s218_14, am_s218_20, h, if_false, true_and]
  | succ d ih =>
    intro k G hk
    have h : nI k < Int32.ofNat 40 := nI_lt (show k < 40 by omega) (by decide)
    have hi : nI k + 1 = nI (k + 1) := nI_add k 1
    have hc : (nI k).toNatClampNeg = k := nI_clamp (by omega)
    obtain ⟨G', h1, hh⟩ := ih (k + 1) (am_up G (107 + 2 * j) k 0) (by omega)
    refine ⟨G', fun i a hx => by rw [h1 i a hx]; simp [am_up_get, hx], ?_⟩
    simp only [am_s218_0, am_s218_1, am_s218_2, am_s218_3, am_s218_4, am_s218_5, am_s218_6, am_s218_7, am_s218_10, am_s218_11, am_s218_12, am_s218_13, am_s218_14, am_s218_20, h, am_t_sh hj, hc, am_in_nI (show k < 40 by omega) (by decide), cond_true, am_os_some, if_true, true_and, am_nw1_i, am_nw1_r, am_nw1_n]
    rw [am_s218_17, hi]
    exact hh
theorem am_m218 {G : am_G} {j : Nat} (hj : j < 4) : ∃ G' : am_G, (∀ i a, i ≠ 107 + 2 * j → G' i a = G i a) ∧ am_CD X (D + 1) 218 [.ref (107 + 2 * j), .int 0] (am_L0 q, G) = some (none, (am_L0 q, G')) := by
  obtain ⟨G', h1, hh⟩ := am_l218 (X := X) (D := D) (q := q) hj 40 0 G rfl
  refine ⟨G', h1, ?_⟩
  refine am_CD_of (M := am_N218) rfl rfl ?_
  show am_Rn _ _ none am_J218 0 [some (.ref (107 + 2 * j)), some (.int 0), none, none] [] (am_L0 q, G) _
  simp only [am_s218_0, am_s218_1, am_s218_2, am_s218_3, am_s218_4, am_n_sh hj, am_os_some, true_and, am_nw1_i, am_nw1_r, am_nw1_n]
  exact hh
theorem am_m59 {G : am_G} {j : Nat} (hj : j < 4) (b n : Int32) : ∃ G' : am_G, (∀ i a, i < 106 ∨ 113 < i → G' i a = G i a) ∧ am_CD X (D + 2) 59 [.ref (106 + 2 * j), .int b, .int n] (am_L0 q, G) = some (none, (am_L0 q, G')) := by
  obtain ⟨G', h1, hh⟩ := am_m218 (X := X) (D := D) (q := q) (G := am_up (am_up G (106 + 2 * j) 1 b) (106 + 2 * j) 2 n) hj
  refine ⟨G', fun i a hi => ?_, ?_⟩
  · rw [h1 i a (by omega)]
    have : ¬ i = 106 + 2 * j := by omega
    simp [am_up_get, this]
  refine am_CD_of (M := am_N59) rfl rfl ?_
  show am_Rn _ _ none am_J59 0 [some (.ref (106 + 2 * j)), some (.int b), some (.int n)] [] (am_L0 q, G) _
  simp only [am_s59_0, am_s59_1, am_s59_2, am_s59_5, am_s59_6, am_s59_7, am_s59_10, am_s59_11, am_s59_14, am_s59_15, am_s59_18, am_p_sh1 hj, am_p_sh2 hj, am_f_sh0 hj, am_cal_ok am_cat_0 am_rcv_f hh, am_os_some, Option.toList_none, List.nil_append, true_and]
theorem am_o107 {G : am_G} {j : Nat} (hj : j < 4) {b n : Int32} (hb : b = 0 ∨ (b = 8 ∨ b = 16 ∨ b = 32) ∧ ¬ n < 0 ∧ n ≤ 40) : ∃ G' : am_G, (∀ i a, i < 106 ∨ 113 < i → G' i a = G i a) ∧ am_CD X (D + 4) 107 [.ref 0, .int (nI j), .int b, .int n] (am_L0 q, G) = some (some (.int 1), (am_L0 q, G')) := by
  have h := am_wi3 hj
  obtain ⟨G', h1, hh⟩ := am_m59 (X := X) (D := D + 1) (q := q) (G := G) hj b (if b = 0 then 0 else n)
  refine ⟨G', h1, ?_⟩
  refine am_CD_of (M := am_N107) rfl rfl ?_
  show am_Rn _ _ ((Option.some FieldType.int)) am_J107 0 [some (.ref 0), some (.int (nI j)), some (.int b), some (.int n)] [] (am_L0 q, G) _
  rcases hb with rfl | ⟨hb, hn, hm⟩
  · rw [if_pos rfl] at hh
    simp only [am_s107_0, am_s107_1, am_s107_4, am_s107_7, am_s107_8, am_s107_9, am_s107_12, am_s107_13, am_s107_14, am_s107_17, am_s107_18, am_s107_20, am_s107_23, am_s107_24, am_s107_26, am_s107_29, am_s107_30, am_s107_32, am_s107_35, am_s107_36, am_s107_37, am_s107_40, am_s107_41, am_s107_42, am_s107_45, am_s107_46, am_s107_49, am_s107_50, am_s107_51, am_s107_54, am_s107_55, am_s107_56, am_s107_59, am_s107_60, am_s107_62, am_s107_65, am_s107_66, am_s107_67, am_s107_70, am_s107_71, am_s107_72, am_s107_75, am_s107_76, am_s107_77, am_s107_78, am_s107_79, am_s107_82, am_s107_83, am_s107_86, am_s107_87, am_s107_90, am_s107_91, am_cal_ok am_cat_0 am_rcv_f (am_m121 _), am_f0_6, am_rld_104 hj, am_cal_ok am_cat_0 (am_rcv_sh hj) hh, h, am_os_some, Option.toList_some, Option.toList_none, List.cons_append, List.nil_append, am_bI0, reduceCtorEq, eq_self, if_true, if_false, true_and]
  · rcases hb with rfl | rfl | rfl
    all_goals
      simp only [am_l8, am_l16, am_l32, if_false] at hh
      simp only [am_s107_0, am_s107_1, am_s107_4, am_s107_7, am_s107_8, am_s107_9, am_s107_12, am_s107_13, am_s107_14, am_s107_17, am_s107_18, am_s107_20, am_s107_23, am_s107_24, am_s107_26, am_s107_29, am_s107_30, am_s107_32, am_s107_35, am_s107_36, am_s107_37, am_s107_40, am_s107_41, am_s107_42, am_s107_45, am_s107_46, am_s107_49, am_s107_50, am_s107_51, am_s107_54, am_s107_55, am_s107_56, am_s107_59, am_s107_60, am_s107_62, am_s107_65, am_s107_66, am_s107_67, am_s107_70, am_s107_71, am_s107_72, am_s107_75, am_s107_76, am_s107_77, am_s107_78, am_s107_79, am_s107_82, am_s107_83, am_s107_86, am_s107_87, am_s107_90, am_s107_91, am_cal_ok am_cat_0 am_rcv_f (am_m121 _), am_f0_6, am_rld_104 hj, am_cal_ok am_cat_0 (am_rcv_sh hj) hh, h, hn, hm, am_l8, am_l16, am_l32, am_l168, am_l328, am_l3216, am_os_some, Option.toList_some, Option.toList_none, List.cons_append, List.nil_append, am_bI0, reduceCtorEq, eq_self, if_true, if_false, true_and]
theorem am_l206 {j : Nat} (hj : j < 4) {b n : Int32} : ∀ (d k : Nat) (G : am_G), k + d = 40 → ∃ G' : am_G, (∀ i a, i ≠ 122 → G' i a = G i a) ∧ am_Rn X (D + 3) (some .int) am_J206 93 [some (.ref 114), some (.int (nI j)), some (.int b), some (.int n), some (.int (nI k))] [] (am_L0 q, G) (some (.int 1), (am_L0 q, G')) := by
  intro d
  induction d with
  | zero =>
    intro k G hk
    obtain rfl : k = 40 := by omega
    refine ⟨G, fun _ _ _ => rfl, ?_⟩
    have h : ¬ nI 40 < 40 := by decide +kernel
    simp only [am_s206_0, am_s206_1, am_s206_4, am_s206_7, am_s206_8, am_s206_11, am_s206_12, am_s206_14, am_s206_17, am_s206_18, am_s206_20, am_s206_23, am_s206_24, am_s206_26, am_s206_29, am_s206_30, am_s206_32, am_s206_35, am_s206_36, am_s206_37, am_s206_40, am_s206_41, am_s206_44, am_s206_45, am_s206_47, am_s206_50, am_s206_51, am_s206_52, am_s206_55, am_s206_56, am_s206_58, am_s206_61, am_s206_62, am_s206_64, am_s206_67, am_s206_68, am_s206_69, am_s206_72, am_s206_73, am_s206_74, am_s206_75, am_s206_76, am_s206_79, am_s206_80, am_s206_81, am_s206_84, am_s206_85, am_s206_88, am_s206_89, am_s206_90, am_s206_91, am_s206_93, am_s206_95, am_s206_97, am_s206_100, am_s206_101, am_s206_104, am_s206_106, am_s206_107, am_s206_108, am_s206_110, am_s206_111, am_s206_112, am_s206_113, am_s206_119, am_s206_120, h, if_false, true_and]
  | succ d ih =>
    intro k G hk
    have h : nI k < 40 := nI_lt (show k < 40 by omega) (by decide)
    have hi : nI k + 1 = nI (k + 1) := nI_add k 1
    have ha := am_nn40 ⟨j, hj⟩ ⟨k, by omega⟩
    simp only at ha
    have hc : (nI (40 * j + k)).toNatClampNeg = 40 * j + k := nI_clamp (by omega)
    obtain ⟨G', h1, hh⟩ := ih (k + 1) (am_up G 122 (40 * j + k) 0) (by omega)
    refine ⟨G', fun i a hx => by rw [h1 i a hx]; simp [am_up_get, hx], ?_⟩
    simp only [am_s206_0, am_s206_1, am_s206_4, am_s206_7, am_s206_8, am_s206_11, am_s206_12, am_s206_14, am_s206_17, am_s206_18, am_s206_20, am_s206_23, am_s206_24, am_s206_26, am_s206_29, am_s206_30, am_s206_32, am_s206_35, am_s206_36, am_s206_37, am_s206_40, am_s206_41, am_s206_44, am_s206_45, am_s206_47, am_s206_50, am_s206_51, am_s206_52, am_s206_55, am_s206_56, am_s206_58, am_s206_61, am_s206_62, am_s206_64, am_s206_67, am_s206_68, am_s206_69, am_s206_72, am_s206_73, am_s206_74, am_s206_75, am_s206_76, am_s206_79, am_s206_80, am_s206_81, am_s206_84, am_s206_85, am_s206_88, am_s206_89, am_s206_90, am_s206_91, am_s206_93, am_s206_95, am_s206_97, am_s206_100, am_s206_101, am_s206_104, am_s206_106, am_s206_107, am_s206_108, am_s206_110, am_s206_111, am_s206_112, am_s206_113, am_s206_119, am_s206_120, h, am_f114_21, am_t122, ha, hc, am_in_nI (show 40 * j + k < 160 by omega) (by decide), cond_true, am_os_some, if_true, true_and, am_nw1_i, am_nw1_r, am_nw1_n]
    rw [am_s206_116, hi]
    exact hh
theorem am_o206 {G : am_G} {j : Nat} (hj : j < 4) {b n : Int32} (hb : b = 0 ∨ (b = 8 ∨ b = 16 ∨ b = 32) ∧ ¬ n < 0 ∧ n ≤ 40) : ∃ G' : am_G, (∀ i a, i < 120 ∨ 122 < i → G' i a = G i a) ∧ am_CD X (D + 4) 206 [.ref 114, .int (nI j), .int b, .int n] (am_L0 q, G) = some (some (.int 1), (am_L0 q, G')) := by
  have h := am_wi3 hj
  have hc : (nI j).toNatClampNeg = j := nI_clamp (by omega)
  obtain ⟨G', h1, hh⟩ := am_l206 (X := X) (D := D) (q := q) hj (b := b) (n := n) 40 0 (am_up (am_up G 120 j b) 121 j (if b = 0 then 0 else n)) rfl
  refine ⟨G', fun i a hi => ?_, ?_⟩
  · rw [h1 i a (by omega)]
    have h120 : ¬ i = 120 := by omega
    have h121 : ¬ i = 121 := by omega
    simp [am_up_get, h120, h121]
  refine am_CD_of (M := am_N206) rfl rfl ?_
  show am_Rn _ _ ((Option.some FieldType.int)) am_J206 0 [some (.ref 114), some (.int (nI j)), some (.int b), some (.int n), none] [] (am_L0 q, G) _
  rcases hb with rfl | ⟨hb, hn, hm⟩
  · rw [if_pos rfl] at hh
    simp only [am_s206_0, am_s206_1, am_s206_4, am_s206_7, am_s206_8, am_s206_11, am_s206_12, am_s206_14, am_s206_17, am_s206_18, am_s206_20, am_s206_23, am_s206_24, am_s206_26, am_s206_29, am_s206_30, am_s206_32, am_s206_35, am_s206_36, am_s206_37, am_s206_40, am_s206_41, am_s206_44, am_s206_45, am_s206_47, am_s206_50, am_s206_51, am_s206_52, am_s206_55, am_s206_56, am_s206_58, am_s206_61, am_s206_62, am_s206_64, am_s206_67, am_s206_68, am_s206_69, am_s206_72, am_s206_73, am_s206_74, am_s206_75, am_s206_76, am_s206_79, am_s206_80, am_s206_81, am_s206_84, am_s206_85, am_s206_88, am_s206_89, am_s206_90, am_s206_91, am_s206_95, am_s206_97, am_s206_100, am_s206_101, am_s206_104, am_s206_106, am_s206_107, am_s206_108, am_s206_110, am_s206_111, am_s206_112, am_s206_113, am_s206_119, am_s206_120, am_cal_ok am_cat_0 am_rcv_f (am_m183 _), am_f114_19, am_f114_20, am_t120, am_t121, hc, am_in_nI hj (by decide), h, cond_true, am_os_some, Option.toList_some, Option.toList_none, List.cons_append, List.nil_append, am_bI0, reduceCtorEq, eq_self, if_true, if_false, true_and, am_nw1_i, am_nw1_r, am_nw1_n]
    exact hh
  · rcases hb with rfl | rfl | rfl
    all_goals
      simp only [am_l8, am_l16, am_l32, if_false] at hh
      simp only [am_s206_0, am_s206_1, am_s206_4, am_s206_7, am_s206_8, am_s206_11, am_s206_12, am_s206_14, am_s206_17, am_s206_18, am_s206_20, am_s206_23, am_s206_24, am_s206_26, am_s206_29, am_s206_30, am_s206_32, am_s206_35, am_s206_36, am_s206_37, am_s206_40, am_s206_41, am_s206_44, am_s206_45, am_s206_47, am_s206_50, am_s206_51, am_s206_52, am_s206_55, am_s206_56, am_s206_58, am_s206_61, am_s206_62, am_s206_64, am_s206_67, am_s206_68, am_s206_69, am_s206_72, am_s206_73, am_s206_74, am_s206_75, am_s206_76, am_s206_79, am_s206_80, am_s206_81, am_s206_84, am_s206_85, am_s206_88, am_s206_89, am_s206_90, am_s206_91, am_s206_95, am_s206_97, am_s206_100, am_s206_101, am_s206_104, am_s206_106, am_s206_107, am_s206_108, am_s206_110, am_s206_111, am_s206_112, am_s206_113, am_s206_119, am_s206_120, am_cal_ok am_cat_0 am_rcv_f (am_m183 _), am_f114_19, am_f114_20, am_t120, am_t121, hc, am_in_nI hj (by decide), h, hn, hm, am_l8, am_l16, am_l32, am_l168, am_l328, am_l3216, cond_true, am_os_some, Option.toList_some, Option.toList_none, List.cons_append, List.nil_append, am_bI0, reduceCtorEq, eq_self, if_true, if_false, true_and, am_nw1_i, am_nw1_r, am_nw1_n]
      exact hh
end AMSH
