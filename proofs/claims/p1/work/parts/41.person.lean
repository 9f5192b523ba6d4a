/-! person, while there is no one -/
theorem am_n47a : ∀ m : Fin 8, (47 : Int32) + 8 * 0 + nI m.1 = nI (47 + m.1) := by decide +kernel
theorem am_n47b : ∀ m : Fin 8, (47 : Int32) + 8 * nI m.1 + 0 = nI (47 + 8 * m.1) := by decide +kernel
section AMPE
variable {X : am_X} {D q : Nat}
theorem am_lz100 : ((10 : Int32) = 0) = False := by decide
theorem am_in08 : am_in 0 8 = true := by decide +kernel
theorem am_cn0 : (0 : Int32).toNatClampNeg = 0 := by decide +kernel
theorem am_m23 {G : am_G} (km : Int32) : am_CD X (D + 1) 23 [.ref 10, .int 0, .int km] (am_L0 q, G) = some (none, (am_L0 q, am_up (am_up G 11 0 (km / 10)) 12 0 (km - km / 10 * 10))) := by
  refine am_CD_of (M := am_N23) rfl rfl ?_
  show am_Rn _ _ none am_J23 0 [some (.ref 10), some (.int 0), some (.int km)] [] (am_L0 q, G) _
  simp only [am_s23_0, am_s23_1, am_s23_4, am_s23_5, am_s23_6, am_s23_8, am_s23_9, am_s23_10, am_s23_11, am_s23_14, am_s23_15, am_s23_16, am_s23_18, am_s23_19, am_s23_20, am_f10_2, am_f10_3, am_t11, am_t12, am_in08, am_cn0, am_lz100, cond_true, am_os_some, true_and, not_false_eq_true]
theorem am_m22 {G : am_G} (hs : G 10 8 = 0) (km tr : Int32) : ∃ G' : am_G, (∀ i j, i ≠ 10 → i ≠ 11 → i ≠ 12 → i ≠ 13 → G' i j = G i j) ∧ am_CD X (D + 2) 22 [.ref 10, .int km, .int tr] (am_L0 q, G) = some (some (.int 0), (am_L0 q, G')) := by
  have h1 : ¬ (0 : Int32) < 0 := by decide
  have h2 : (0 : Int32) < 8 := by decide
  refine ⟨am_up (am_up (am_up (am_up G 11 0 (km / 10)) 12 0 (km - km / 10 * 10)) 13 0 tr) 10 8 (0 + 1), fun i j a b c d => by simp [am_up_get, a, b, c, d], ?_⟩
  refine am_CD_of (M := am_N22) rfl rfl ?_
  show am_Rn _ _ ((Option.some FieldType.int)) am_J22 0 [some (.ref 10), some (.int km), some (.int tr), none] [] (am_L0 q, G) _
  simp only [am_s22_0, am_s22_1, am_s22_4, am_s22_5, am_s22_6, am_s22_9, am_s22_10, am_s22_12, am_s22_15, am_s22_16, am_s22_17, am_s22_18, am_s22_19, am_s22_20, am_s22_23, am_s22_24, am_s22_27, am_s22_28, am_s22_29, am_s22_30, am_s22_31, am_s22_31a, am_s22_32, am_s22_35, am_s22_36, am_s22_37, am_s22_40, am_s22_41, am_f10_8, am_f10_4, am_p10_8, am_t13, am_in08, am_cn0, hs, h1, h2, am_cal_ok am_cat_0 am_v10 (am_m23 _), am_up_get, Nat.reduceEqDiff, cond_true, am_os_some, Option.toList_some, Option.toList_none, List.cons_append, List.nil_append, if_true, if_false, true_and, am_nw1_i, am_nw1_r, am_nw1_n]
theorem am_o81 {G : am_G} (hs : G 10 8 = 0) {km tr : Int32} (hk : am_wi km 69 = true) (ht : am_wi tr 15 = true) : ∃ G' : am_G, (∀ i j, i ≠ 10 → i ≠ 11 → i ≠ 12 → i ≠ 13 → G' i j = G i j) ∧ am_CD X (D + 4) 81 [.ref 0, .int km, .int tr] (am_L0 q, G) = some (some (.int 0), (am_L0 q, G')) := by
  obtain ⟨G', e1, e2⟩ := am_m22 (X := X) (D := D + 1) (q := q) hs km tr
  have h2 : (0 : Int32) < 8 := by decide
  refine ⟨G', e1, ?_⟩
  refine am_CD_of (M := am_N81) rfl rfl ?_
  show am_Rn _ _ ((Option.some FieldType.int)) am_J81 0 [some (.ref 0), some (.int km), some (.int tr)] [] (am_L0 q, G) _
  simp only [am_s81_0, am_s81_1, am_s81_4, am_s81_7, am_s81_8, am_s81_10, am_s81_13, am_s81_16, am_s81_17, am_s81_18, am_s81_21, am_s81_22, am_s81_23, am_s81_26, am_s81_29, am_s81_32, am_s81_34, am_s81_37, am_s81_38, am_s81_39, am_s81_42, am_s81_43, am_s81_44, am_s81_47, am_s81_50, am_s81_51, am_s81_52, am_s81_55, am_cal_ok am_cat_0 am_rcv_f (am_m122 _), am_cal_ok am_cat_0 am_rcv_f (am_m123 _ _), am_f0_0, am_f1_2, am_f10_8, hs, h2, hk, ht, am_cal_ok am_cat_0 am_v10 e2, am_os_some, Option.toList_some, List.cons_append, List.nil_append, am_bI0, reduceCtorEq, if_true, if_false, true_and]
theorem am_o81e {G : am_G} {km tr : Int32} (h : am_wi km 69 = false ∨ am_wi tr 15 = false) : am_CD X (D + 4) 81 [.ref 0, .int km, .int tr] (am_L0 q, G) = some (some (.int (-1000000001)), (am_L0 q, am_up G 105 1 (G 105 1 + 1))) := by
  refine am_CD_of (M := am_N81) rfl rfl ?_
  show am_Rn _ _ ((Option.some FieldType.int)) am_J81 0 [some (.ref 0), some (.int km), some (.int tr)] [] (am_L0 q, G) _
  by_cases hk : am_wi km 69 = false
  · simp only [am_s81_0, am_s81_1, am_s81_4, am_s81_7, am_s81_8, am_s81_10, am_s81_13, am_s81_16, am_s81_17, am_s81_18, am_s81_21, am_s81_22, am_s81_23, am_s81_26, am_s81_29, am_s81_32, am_s81_34, am_s81_37, am_s81_38, am_s81_39, am_s81_42, am_s81_43, am_s81_44, am_s81_47, am_s81_50, am_s81_51, am_s81_52, am_s81_55, am_cal_ok am_cat_0 am_rcv_f (am_m122 _), am_cal_ok am_cat_0 am_v0 am_e1, hk, am_os_some, Option.toList_some, List.cons_append, List.nil_append, am_bI0, reduceCtorEq, if_true, if_false, true_and]
  · have ht := h.resolve_left hk
    simp only [am_s81_0, am_s81_1, am_s81_4, am_s81_7, am_s81_8, am_s81_10, am_s81_13, am_s81_16, am_s81_17, am_s81_18, am_s81_21, am_s81_22, am_s81_23, am_s81_26, am_s81_29, am_s81_32, am_s81_34, am_s81_37, am_s81_38, am_s81_39, am_s81_42, am_s81_43, am_s81_44, am_s81_47, am_s81_50, am_s81_51, am_s81_52, am_s81_55, am_cal_ok am_cat_0 am_rcv_f (am_m122 _), am_cal_ok am_cat_0 am_rcv_f (am_m123 _ _), am_cal_ok am_cat_0 am_v0 am_e1, hk, ht, am_os_some, Option.toList_some, List.cons_append, List.nil_append, am_bI0, reduceCtorEq, if_true, if_false, true_and]
theorem am_o135e {G : am_G} {km tr : Int32} (h : am_wi km 69 = false ∨ am_wi tr 15 = false) : am_CD X (D + 4) 135 [.ref 114, .int km, .int tr] (am_L0 q, G) = some (some (.int (-1000000001)), (am_L0 q, am_up G 119 1 (G 119 1 + 1))) := by
  refine am_CD_of (M := am_N135) rfl rfl ?_
  show am_Rn _ _ ((Option.some FieldType.int)) am_J135 0 [some (.ref 114), some (.int km), some (.int tr), none, none] [] (am_L0 q, G) _
  by_cases hk : am_wi km 69 = false
  · simp only [am_s135_0, am_s135_1, am_s135_2, am_s135_4, am_s135_7, am_s135_20, am_s135_21, am_s135_23, am_s135_26, am_cal_ok am_cat_0 am_rcv_f (am_m125z _ _), am_cal_ok am_cat_0 am_v114 am_d1, hk, am_os_some, Option.toList_some, List.cons_append, List.nil_append, am_bI0, reduceCtorEq, if_true, if_false, true_and]
  · have ht := h.resolve_left hk
    simp only [am_s135_0, am_s135_1, am_s135_2, am_s135_4, am_s135_7, am_s135_10, am_s135_11, am_s135_12, am_s135_14, am_s135_17, am_s135_20, am_s135_21, am_s135_23, am_s135_26, am_cal_ok am_cat_0 am_rcv_f (am_m125z _ _), am_cal_ok am_cat_0 am_v114 am_d1, hk, ht, am_os_some, Option.toList_some, List.cons_append, List.nil_append, am_bI0, reduceCtorEq, if_true, if_false, true_and]
theorem am_m131 {G : am_G} {w v : Int32} {k : Nat} (hc : ((7 : Int32) + 5 * 0 + w).toNatClampNeg = k) (hi : am_in ((7 : Int32) + 5 * 0 + w) 281 = true) : am_CD X (D + 1) 131 [.ref 114, .int 0, .int w, .int v] (am_L0 q, G) = some (none, (am_L0 q, am_up G 115 k v)) := by
  refine am_CD_of (M := am_N131) rfl rfl ?_
  show am_Rn _ _ none am_J131 0 [some (.ref 114), some (.int 0), some (.int w), some (.int v)] [] (am_L0 q, G) _
  simp only [am_s131_0, am_s131_1, am_s131_4, am_s131_6, am_s131_7, am_s131_8, am_s131_9, am_s131_10, am_s131_11, am_s131_12, am_s131_13, am_s131_14, am_f114_0, am_t115, hc, hi, cond_true, am_os_some, true_and]
theorem am_l135 {km tr : Int32} : ∀ (d k : Nat) (G : am_G), k + d = 8 → ∃ G' : am_G, (∀ i j, i ≠ 115 → G' i j = G i j) ∧ am_Rn X (D + 3) (some .int) am_J135 96 [some (.ref 114), some (.int km), some (.int tr), some (.int 0), some (.int (nI k))] [] (am_L0 q, G) (some (.int 0), (am_L0 q, G')) := by
  have e2 : (2 : Int32).toNatClampNeg = 2 := by decide +kernel
  have h2 : am_in 2 281 = true := by decide +kernel
  intro d
  induction d with
  | zero =>
    intro k G hk
    obtain rfl : k = 8 := by omega
    refine ⟨am_up G 115 2 (G 115 2 + 1), fun i j h => by simp [am_up_get, h], ?_⟩
    have h : ¬ nI 8 < 8 := by decide +kernel
    simp only [am_s135_0, am_s135_1, am_s135_2, am_s135_4, am_s135_7, am_s135_10, am_s135_11, am_s135_12, am_s135_14, am_s135_17, am_s135_20, am_s135_21, am_s135_23, am_s135_26, am_s135_27, am_s135_28, am_s135_31, am_s135_32, am_s135_33, am_s135_35, am_s135_38, am_s135_39, am_s135_41, am_s135_44, am_s135_45, am_s135_46, am_s135_49, am_s135_50, am_s135_51, am_s135_52, am_s135_53, am_s135_54, am_s135_55, am_s135_56, am_s135_58, am_s135_59, am_s135_62, am_s135_63, am_s135_64, am_s135_65, am_s135_66, am_s135_68, am_s135_69, am_s135_72, am_s135_73, am_s135_74, am_s135_75, am_s135_76, am_s135_79, am_s135_80, am_s135_81, am_s135_82, am_s135_83, am_s135_86, am_s135_87, am_s135_88, am_s135_89, am_s135_90, am_s135_93, am_s135_94, am_s135_96, am_s135_98, am_s135_100, am_s135_103, am_s135_104, am_s135_107, am_s135_109, am_s135_111, am_s135_112, am_s135_113, am_s135_114, am_s135_116, am_s135_117, am_s135_118, am_s135_119, am_s135_120, am_s135_123, am_s135_125, am_s135_127, am_s135_129, am_s135_130, am_s135_131, am_s135_132, am_s135_133, am_s135_134, am_s135_135, am_s135_141, am_s135_142, am_s135_145, am_s135_146, am_s135_147, am_s135_148, am_s135_149, am_s135_150, am_s135_151, am_s135_152, h, am_f114_0, am_a115, am_t115, h2, e2, cond_true, am_os_some, reduceCtorEq, if_true, if_false, true_and]
  | succ d ih =>
    intro k G hk
    have h : nI k < 8 := nI_lt (show k < 8 by omega) (by decide)
    have hi : nI k + 1 = nI (k + 1) := nI_add k 1
    have ha := am_n47a ⟨k, by omega⟩
    have hb := am_n47b ⟨k, by omega⟩
    simp only at ha hb
    have ca : (nI (47 + k)).toNatClampNeg = 47 + k := nI_clamp (by omega)
    have cb : (nI (47 + 8 * k)).toNatClampNeg = 47 + 8 * k := nI_clamp (by omega)
    obtain ⟨G', h1, hh⟩ := ih (k + 1) (am_up (am_up G 115 (47 + k) 0) 115 (47 + 8 * k) 0) (by omega)
    refine ⟨G', fun i j hx => by rw [h1 i j hx]; simp [am_up_get, hx], ?_⟩
    simp only [am_s135_0, am_s135_1, am_s135_2, am_s135_4, am_s135_7, am_s135_10, am_s135_11, am_s135_12, am_s135_14, am_s135_17, am_s135_20, am_s135_21, am_s135_23, am_s135_26, am_s135_27, am_s135_28, am_s135_31, am_s135_32, am_s135_33, am_s135_35, am_s135_38, am_s135_39, am_s135_41, am_s135_44, am_s135_45, am_s135_46, am_s135_49, am_s135_50, am_s135_51, am_s135_52, am_s135_53, am_s135_54, am_s135_55, am_s135_56, am_s135_58, am_s135_59, am_s135_62, am_s135_63, am_s135_64, am_s135_65, am_s135_66, am_s135_68, am_s135_69, am_s135_72, am_s135_73, am_s135_74, am_s135_75, am_s135_76, am_s135_79, am_s135_80, am_s135_81, am_s135_82, am_s135_83, am_s135_86, am_s135_87, am_s135_88, am_s135_89, am_s135_90, am_s135_93, am_s135_94, am_s135_96, am_s135_98, am_s135_100, am_s135_103, am_s135_104, am_s135_107, am_s135_109, am_s135_111, am_s135_112, am_s135_113, am_s135_114, am_s135_116, am_s135_117, am_s135_118, am_s135_119, am_s135_120, am_s135_123, am_s135_125, am_s135_127, am_s135_129, am_s135_130, am_s135_131, am_s135_132, am_s135_133, am_s135_134, am_s135_135, am_s135_141, am_s135_142, am_s135_145, am_s135_146, am_s135_147, am_s135_148, am_s135_149, am_s135_150, am_s135_151, am_s135_152, h, am_f114_0, am_t115, ha, hb, ca, cb, am_in_nI (show 47 + k < 281 by omega) (by decide), am_in_nI (show 47 + 8 * k < 281 by omega) (by decide), cond_true, am_os_some, reduceCtorEq, if_true, if_false, true_and, am_nw1_i, am_nw1_r, am_nw1_n]
    rw [am_s135_138, hi]
    exact hh
theorem am_o135 {G : am_G} (hs : G 115 2 = 0) {km tr : Int32} (hk : am_wi km 69 = true) (ht : am_wi tr 15 = true) : ∃ G' : am_G, (∀ i j, i ≠ 115 → G' i j = G i j) ∧ am_CD X (D + 4) 135 [.ref 114, .int km, .int tr] (am_L0 q, G) = some (some (.int 0), (am_L0 q, G')) := by
  have e2 : (2 : Int32).toNatClampNeg = 2 := by decide +kernel
  have h2 : am_in 2 281 = true := by decide +kernel
  have n8 : ((0 : Int32) = 8) = False := by decide
  obtain ⟨G', e1, ee⟩ := am_l135 (X := X) (D := D) (q := q) (km := km) (tr := tr) 8 0 (am_up (am_up (am_up (am_up (am_up G 115 7 (km / 10)) 115 8 (km - km / 10 * 10)) 115 9 tr) 115 10 0) 115 11 0) rfl
  refine ⟨G', fun i j h => by rw [e1 i j h]; simp [am_up_get, h], ?_⟩
  refine am_CD_of (M := am_N135) rfl rfl ?_
  show am_Rn _ _ ((Option.some FieldType.int)) am_J135 0 [some (.ref 114), some (.int km), some (.int tr), none, none] [] (am_L0 q, G) _
  simp only [am_s135_0, am_s135_1, am_s135_2, am_s135_4, am_s135_7, am_s135_10, am_s135_11, am_s135_12, am_s135_14, am_s135_17, am_s135_20, am_s135_21, am_s135_23, am_s135_26, am_s135_27, am_s135_28, am_s135_31, am_s135_32, am_s135_33, am_s135_35, am_s135_38, am_s135_39, am_s135_41, am_s135_44, am_s135_45, am_s135_46, am_s135_49, am_s135_50, am_s135_51, am_s135_52, am_s135_53, am_s135_54, am_s135_55, am_s135_56, am_s135_58, am_s135_59, am_s135_62, am_s135_63, am_s135_64, am_s135_65, am_s135_66, am_s135_68, am_s135_69, am_s135_72, am_s135_73, am_s135_74, am_s135_75, am_s135_76, am_s135_79, am_s135_80, am_s135_81, am_s135_82, am_s135_83, am_s135_86, am_s135_87, am_s135_88, am_s135_89, am_s135_90, am_s135_93, am_s135_94, am_s135_98, am_s135_100, am_s135_103, am_s135_104, am_s135_107, am_s135_109, am_s135_111, am_s135_112, am_s135_113, am_s135_114, am_s135_116, am_s135_117, am_s135_118, am_s135_119, am_s135_120, am_s135_123, am_s135_125, am_s135_127, am_s135_129, am_s135_130, am_s135_131, am_s135_132, am_s135_133, am_s135_134, am_s135_135, am_s135_141, am_s135_142, am_s135_145, am_s135_146, am_s135_147, am_s135_148, am_s135_149, am_s135_150, am_s135_151, am_s135_152, am_cal_ok am_cat_0 am_rcv_f (am_m125z _ _), am_f114_0, am_a115, h2, e2, hs, n8, hk, ht, am_lz100,
    am_cal_ok am_cat_0 am_v114 (am_m131 (w := 0) (k := 7) (by decide +kernel) (by decide +kernel)), am_cal_ok am_cat_0 am_v114 (am_m131 (w := 1) (k := 8) (by decide +kernel) (by decide +kernel)), am_cal_ok am_cat_0 am_v114 (am_m131 (w := 2) (k := 9) (by decide +kernel) (by decide +kernel)), am_cal_ok am_cat_0 am_v114 (am_m131 (w := 3) (k := 10) (by decide +kernel) (by decide +kernel)), am_cal_ok am_cat_0 am_v114 (am_m131 (w := 4) (k := 11) (by decide +kernel) (by decide +kernel)),
    cond_true, am_os_some, Option.toList_some, Option.toList_none, List.cons_append, List.nil_append, am_bI0, reduceCtorEq, if_true, if_false, true_and, not_false_eq_true, am_nw1_i, am_nw1_r, am_nw1_n]
  exact ee
end AMPE
