/-! days, loose: no one -/
theorem am_n60 : ∀ m : Fin 61, 1 ≤ m.1 → ¬ nI m.1 < 1 ∧ nI m.1 ≤ 60 ∧ nI m.1 ≤ 9999 - (0 : Int32) ∧ (0 : Int32) + nI m.1 ≤ 9999 := by decide +kernel
theorem am_nle40 : ∀ m : Fin 41, 1 ≤ m.1 → nI m.1 ≤ 40 := by decide +kernel
section AMDY
variable {X : am_X} {D q : Nat}
theorem am_l30 {n : Nat} (hn : n ≤ 60) : ∀ (d k : Nat) (G : am_G) (z : Option Value), k + d = n → G 10 8 = 0 → ∃ G' : am_G, (∀ i a, i ≠ 10 → G' i a = G i a) ∧ G' 10 8 = 0 ∧ am_Rn X D none am_J30 2 [some (.ref 10), some (.int (nI n)), some (.int (-1)), some (.int (nI k)), z] [] (am_L0 q, G) (none, (am_L0 q, G')) := by
  intro d
  induction d with
  | zero =>
    intro k G z hk hs
    obtain rfl : k = n := by omega
    refine ⟨G, fun _ _ _ => rfl, hs, ?_⟩
    have h : ¬ nI k < nI k := Int32.lt_irrefl
    simp only [am_s30_0, am_s30_1, am_s30_2, am_s30_3, am_s30_4, am_s30_7, am_s30_8, am_s30_10, am_s30_12, am_s30_13, am_s30_16, am_s30_19, am_s30_20, am_s30_22, am_s30_23, am_s30_26, am_s30_29, am_s30_32, am_s30_33, am_s30_35, am_s30_37, am_s30_38, am_s30_41, am_s30_44, am_s30_45, am_s30_47, am_s30_50, am_s30_53, am_s30_56, am_s30_57, am_s30_57a, am_s30_58, am_s30_61, am_s30_62, am_s30_63, am_s30_66, am_s30_72, h, if_false, true_and]
  | succ d ih =>
    intro k G z hk hs
    have h : nI k < nI n := nI_lt (by omega) (by omega)
    have hi : nI k + 1 = nI (k + 1) := nI_add k 1
    obtain ⟨G', h1, h2, hh⟩ := ih (k + 1) (am_up G 10 9 (G 10 9 + 1)) (some (.int 0)) (by omega) (by simp [am_up_get, hs])
    refine ⟨G', fun i a hx => by rw [h1 i a hx]; simp [am_up_get, hx], h2, ?_⟩
    simp only [am_s30_0, am_s30_1, am_s30_2, am_s30_3, am_s30_4, am_s30_7, am_s30_8, am_s30_10, am_s30_12, am_s30_13, am_s30_16, am_s30_19, am_s30_20, am_s30_22, am_s30_23, am_s30_26, am_s30_29, am_s30_32, am_s30_33, am_s30_35, am_s30_37, am_s30_38, am_s30_41, am_s30_44, am_s30_45, am_s30_47, am_s30_50, am_s30_53, am_s30_56, am_s30_57, am_s30_57a, am_s30_58, am_s30_61, am_s30_62, am_s30_63, am_s30_66, am_s30_72, h, hs, am_f10_8, am_f10_9, am_p10_9, am_i00, am_os_some, if_true, if_false, true_and, am_nw1_i, am_nw1_r, am_nw1_n]
    rw [am_s30_69, hi]
    exact hh
theorem am_m30g {n : Nat} {G : am_G} (hn : n ≤ 60) (hs : G 10 8 = 0) : ∃ G' : am_G, (∀ i a, i ≠ 10 → G' i a = G i a) ∧ G' 10 8 = 0 ∧ am_CD X (D + 1) 30 [.ref 10, .int (nI n), .int (-1)] (am_L0 q, G) = some (none, (am_L0 q, G')) := by
  obtain ⟨G', h1, h2, hh⟩ := am_l30 (X := X) (D := D) (q := q) hn n 0 G none (by omega) hs
  refine ⟨G', h1, h2, ?_⟩
  refine am_CD_of (M := am_N30) rfl rfl ?_
  show am_Rn _ _ none am_J30 0 [some (.ref 10), some (.int (nI n)), some (.int (-1)), none, none] [] (am_L0 q, G) _
  simp only [am_s30_0, am_s30_1, true_and, am_nw1_i, am_nw1_r, am_nw1_n]
  exact hh
theorem am_m28 {G : am_G} (hs : G 10 8 = 0) : am_CD X (D + 1) 28 [.ref 10] (am_L0 q, G) = some (some (.int 0), (am_L0 q, G)) := by
  refine am_CD_of (M := am_N28) rfl rfl ?_
  show am_Rn _ _ ((Option.some FieldType.int)) am_J28 0 [some (.ref 10), none, none] [] (am_L0 q, G) _
  simp only [am_s28_0, am_s28_1, am_s28_2, am_s28_3, am_s28_4, am_s28_5, am_s28_6, am_s28_9, am_s28_12, am_s28_13, am_s28_14, am_s28_17, am_s28_18, am_s28_19, am_s28_20, am_s28_21, am_s28_24, am_s28_27, am_s28_28, am_f10_8, hs, am_i00, am_os_some, if_false, true_and, am_nw1_i, am_nw1_r, am_nw1_n]
theorem am_m78 {G : am_G} (hs : G 10 8 = 0) : am_CD X (D + 1) 78 [.ref 1] (am_L0 q, G) = some (none, (am_L0 q, G)) := by
  refine am_CD_of (M := am_N78) rfl rfl ?_
  show am_Rn _ _ none am_J78 0 [some (.ref 1), none, none] [] (am_L0 q, G) _
  simp only [am_s78_0, am_s78_1, am_s78_2, am_s78_3, am_s78_4, am_s78_7, am_s78_10, am_s78_13, am_s78_14, am_s78_17, am_s78_18, am_s78_19, am_s78_21, am_s78_22, am_s78_25, am_s78_26, am_s78_29, am_s78_32, am_s78_33, am_s78_34, am_s78_35, am_s78_36, am_s78_37, am_s78_39, am_s78_40, am_s78_41, am_s78_42, am_s78_43, am_s78_44, am_s78_45, am_s78_48, am_s78_51, am_f1_2, am_f10_8, hs, am_i00, am_os_some, if_false, true_and, am_nw1_i, am_nw1_r, am_nw1_n]
theorem am_o91n {n : Nat} {G : am_G} (h1 : 1 ≤ n) (hn : n ≤ 60) (hs : G 10 8 = 0) (hd : G 10 9 = 0) : ∃ G' : am_G, (∀ i a, i ≠ 10 → G' i a = G i a) ∧ am_CD X (D + 4) 91 [.ref 0, .int (nI n)] (am_L0 q, G) = some (some (.int 0), (am_L0 q, G')) := by
  obtain ⟨G', e1, e2, hh⟩ := am_m30g (X := X) (D := D + 2) (q := q) hn hs
  obtain ⟨b1, b2, b3, -⟩ := am_n60 ⟨n, by omega⟩ h1
  refine ⟨G', e1, ?_⟩
  refine am_CD_of (M := am_N91) rfl rfl ?_
  show am_Rn _ _ ((Option.some FieldType.int)) am_J91 0 [some (.ref 0), some (.int (nI n))] [] (am_L0 q, G) _
  simp only [am_s91_0, am_s91_1, am_s91_2, am_s91_5, am_s91_6, am_s91_8, am_s91_11, am_s91_12, am_s91_13, am_s91_16, am_s91_17, am_s91_18, am_s91_21, am_s91_22, am_s91_25, am_s91_28, am_s91_31, am_s91_32, am_s91_35, am_s91_36, am_s91_37, am_s91_40, am_s91_41, am_s91_42, am_s91_45, am_s91_48, am_s91_49, am_s91_50, am_s91_53, am_s91_54, am_s91_57, am_s91_60, am_s91_63, b1, b2, b3, hd, am_f0_0, am_f1_2, am_f10_9, am_cal_ok am_cat_0 am_v10 hh, am_cal_ok am_cat_0 am_v10 (am_m28 e2), am_os_some, Option.toList_some, Option.toList_none, List.cons_append, List.nil_append, if_true, if_false, true_and]
theorem am_l92 {n : Nat} (hn : n ≤ 40) : ∀ (d k : Nat) (G : am_G), k + d = n → G 10 8 = 0 → ∃ G' : am_G, (∀ i a, i ≠ 10 → G' i a = G i a) ∧ am_Rn X (D + 3) (some .int) am_J92 43 [some (.ref 0), some (.int (nI n)), some (.int (nI k))] [] (am_L0 q, G) (some (.int 0), (am_L0 q, G')) := by
  intro d
  induction d with
  | zero =>
    intro k G hk hs
    obtain rfl : k = n := by omega
    refine ⟨G, fun _ _ _ => rfl, ?_⟩
    have h : ¬ nI k < nI k := Int32.lt_irrefl
    simp only [am_s92_0, am_s92_1, am_s92_2, am_s92_5, am_s92_6, am_s92_8, am_s92_11, am_s92_12, am_s92_13, am_s92_16, am_s92_17, am_s92_18, am_s92_21, am_s92_22, am_s92_25, am_s92_28, am_s92_31, am_s92_32, am_s92_35, am_s92_36, am_s92_37, am_s92_40, am_s92_41, am_s92_42, am_s92_43, am_s92_44, am_s92_45, am_s92_48, am_s92_49, am_s92_52, am_s92_55, am_s92_56, am_s92_59, am_s92_62, am_s92_63, am_s92_64, am_s92_67, am_s92_73, am_s92_74, am_s92_77, am_s92_80, am_s92_83, h, am_f0_0, am_f1_2, am_cal_ok am_cat_0 am_v10 (am_m28 hs), am_os_some, Option.toList_some, Option.toList_none, List.cons_append, List.nil_append, if_false, true_and]
  | succ d ih =>
    intro k G hk hs
    have h : nI k < nI n := nI_lt (by omega) (by omega)
    have hi : nI k + 1 = nI (k + 1) := nI_add k 1
    obtain ⟨G1, g1, g2, g3⟩ := am_m30g (X := X) (D := D + 2) (q := q) (n := 1) (by decide) hs
    have g3' : am_CD X (D + 2 + 1) 30 [.ref 10, .int 1, .int (-1)] (am_L0 q, G) = some (none, (am_L0 q, G1)) := g3
    obtain ⟨G', h1, hh⟩ := ih (k + 1) G1 (by omega) g2
    refine ⟨G', fun i a hx => by rw [h1 i a hx, g1 i a hx], ?_⟩
    simp only [am_s92_0, am_s92_1, am_s92_2, am_s92_5, am_s92_6, am_s92_8, am_s92_11, am_s92_12, am_s92_13, am_s92_16, am_s92_17, am_s92_18, am_s92_21, am_s92_22, am_s92_25, am_s92_28, am_s92_31, am_s92_32, am_s92_35, am_s92_36, am_s92_37, am_s92_40, am_s92_41, am_s92_42, am_s92_43, am_s92_44, am_s92_45, am_s92_48, am_s92_49, am_s92_52, am_s92_55, am_s92_56, am_s92_59, am_s92_62, am_s92_63, am_s92_64, am_s92_67, am_s92_73, am_s92_74, am_s92_77, am_s92_80, am_s92_83, h, am_f0_0, am_f1_2, am_cal_ok am_cat_0 am_v1 (am_m78 hs), am_cal_ok am_cat_0 am_v10 g3', am_os_some, Option.toList_some, Option.toList_none, List.cons_append, List.nil_append, if_true, true_and, am_nw1_i, am_nw1_r, am_nw1_n]
    rw [am_s92_70, hi]
    exact hh
theorem am_o92n {n : Nat} {G : am_G} (h1 : 1 ≤ n) (hn : n ≤ 40) (hs : G 10 8 = 0) (hd : G 10 9 = 0) : ∃ G' : am_G, (∀ i a, i ≠ 10 → G' i a = G i a) ∧ am_CD X (D + 4) 92 [.ref 0, .int (nI n)] (am_L0 q, G) = some (some (.int 0), (am_L0 q, G')) := by
  obtain ⟨G', e1, hh⟩ := am_l92 (X := X) (D := D) (q := q) hn n 0 G (by omega) hs
  obtain ⟨b1, b2, b3, -⟩ := am_n60 ⟨n, by omega⟩ h1
  have b4 := am_nle40 ⟨n, by omega⟩ h1
  refine ⟨G', e1, ?_⟩
  refine am_CD_of (M := am_N92) rfl rfl ?_
  show am_Rn _ _ ((Option.some FieldType.int)) am_J92 0 [some (.ref 0), some (.int (nI n)), none] [] (am_L0 q, G) _
  simp only [am_s92_0, am_s92_1, am_s92_2, am_s92_5, am_s92_6, am_s92_8, am_s92_17, am_s92_18, am_s92_21, am_s92_22, am_s92_25, am_s92_28, am_s92_31, am_s92_32, am_s92_41, am_s92_42, b1, b4, b3, hd, am_f0_0, am_f1_2, am_f10_9, am_os_some, if_true, if_false, true_and, am_nw1_i, am_nw1_r, am_nw1_n]
  exact hh
theorem am_l167 {n : Nat} (hn : n ≤ 60) : ∀ (d k : Nat) (G : am_G), k + d = n → G 115 2 = 0 → ∃ G' : am_G, (∀ i a, i ≠ 115 → G' i a = G i a) ∧ G' 115 2 = 0 ∧ am_Rn X (D + 1) none am_J167 2 [some (.ref 114), some (.int (nI n)), some (.int (nI k))] [] (am_L0 q, G) (none, (am_L0 q, G')) := by
  intro d
  induction d with
  | zero =>
    intro k G hk hs
    obtain rfl : k = n := by omega
    refine ⟨G, fun _ _ _ => rfl, hs, ?_⟩
    have h : ¬ nI k < nI k := Int32.lt_irrefl
    simp only [am_s167_0, am_s167_1, am_s167_2, am_s167_3, am_s167_4, am_s167_7, am_s167_8, am_s167_11, am_s167_17, h, if_false, true_and]
  | succ d ih =>
    intro k G hk hs
    have h : nI k < nI n := nI_lt (by omega) (by omega)
    have hi : nI k + 1 = nI (k + 1) := nI_add k 1
    obtain ⟨G', h1, h2, hh⟩ := ih (k + 1) (am_up G 115 0 (G 115 0 + 1)) (by omega) (by simp [am_up_get, hs])
    refine ⟨G', fun i a hx => by rw [h1 i a hx]; simp [am_up_get, hx], h2, ?_⟩
    simp only [am_s167_0, am_s167_1, am_s167_2, am_s167_3, am_s167_4, am_s167_7, am_s167_8, am_s167_11, am_s167_17, h, am_cal_ok am_cat_0 am_v114 (am_m166 hs), am_os_some, Option.toList_none, List.nil_append, if_true, true_and, am_nw1_i, am_nw1_r, am_nw1_n]
    rw [am_s167_14, hi]
    exact hh
theorem am_m167 {n : Nat} {G : am_G} (hn : n ≤ 60) (hs : G 115 2 = 0) : ∃ G' : am_G, (∀ i a, i ≠ 115 → G' i a = G i a) ∧ G' 115 2 = 0 ∧ am_CD X (D + 2) 167 [.ref 114, .int (nI n)] (am_L0 q, G) = some (none, (am_L0 q, G')) := by
  obtain ⟨G', h1, h2, hh⟩ := am_l167 (X := X) (D := D) (q := q) hn n 0 G (by omega) hs
  refine ⟨G', h1, h2, ?_⟩
  refine am_CD_of (M := am_N167) rfl rfl ?_
  show am_Rn _ _ none am_J167 0 [some (.ref 114), some (.int (nI n)), none] [] (am_L0 q, G) _
  simp only [am_s167_0, am_s167_1, true_and, am_nw1_i, am_nw1_r, am_nw1_n]
  exact hh
theorem am_m168 {G : am_G} (hs : G 115 2 = 0) (x : Int32) : am_CD X (D + 1) 168 [.ref 114, .int x] (am_L0 q, G) = some (some (.int 0), (am_L0 q, G)) := by
  have e2 : (2 : Int32).toNatClampNeg = 2 := by decide +kernel
  have h2 : am_in 2 281 = true := by decide +kernel
  refine am_CD_of (M := am_N168) rfl rfl ?_
  show am_Rn _ _ ((Option.some FieldType.int)) am_J168 0 [some (.ref 114), some (.int x), none, none] [] (am_L0 q, G) _
  simp only [am_s168_0, am_s168_1, am_s168_2, am_s168_3, am_s168_4, am_s168_5, am_s168_6, am_s168_9, am_s168_10, am_s168_11, am_s168_14, am_s168_15, am_s168_16, am_s168_17, am_s168_18, am_s168_21, am_s168_22, am_s168_23, am_s168_26, am_s168_29, am_s168_30, am_f114_0, am_a115, h2, e2, hs, am_i00, cond_true, am_os_some, if_false, true_and, am_nw1_i, am_nw1_r, am_nw1_n]
theorem am_o169n {n : Nat} {G : am_G} (h1 : 1 ≤ n) (hn : n ≤ 60) (hs : G 115 2 = 0) (hd : G 115 0 = 0) : ∃ G' : am_G, am_CD X (D + 4) 169 [.ref 114, .int (nI n)] (am_L0 q, G) = some (some (.int 0), (am_L0 q, G')) := by
  have h0 : am_in 0 281 = true := by decide +kernel
  obtain ⟨G', e1, e2, hh⟩ := am_m167 (X := X) (D := D + 1) (q := q) hn hs
  obtain ⟨b1, b2, -, b3⟩ := am_n60 ⟨n, by omega⟩ h1
  refine ⟨G', ?_⟩
  refine am_CD_of (M := am_N169) rfl rfl ?_
  show am_Rn _ _ ((Option.some FieldType.int)) am_J169 0 [some (.ref 114), some (.int (nI n))] [] (am_L0 q, G) _
  have b : (decide (¬ nI n < 1) && decide (nI n ≤ 60)) = true := by simp only [b1, b2]; decide
  simp only [am_s169_0, am_s169_1, am_s169_2, am_s169_4, am_s169_7, am_s169_10, am_s169_11, am_s169_13, am_s169_16, am_s169_17, am_s169_18, am_s169_21, am_s169_22, am_s169_23, am_s169_24, am_s169_25, am_s169_28, am_s169_31, am_s169_32, am_s169_34, am_s169_37, am_s169_38, am_s169_39, am_s169_40, am_s169_43, am_s169_44, am_s169_45, am_s169_48, am_cal_ok am_cat_0 am_rcv_f (am_m125 _ _ _), b, b3, hd, am_f114_0, am_a115, h0, am_cn0, am_cal_ok am_cat_0 am_v114 hh, am_cal_ok am_cat_0 am_v114 (am_m168 e2 _), am_os_some, Option.toList_some, Option.toList_none, List.cons_append, List.nil_append, am_bI0, reduceCtorEq, cond_true, if_true, if_false, true_and]
theorem am_l171 {n : Nat} (hn : n ≤ 40) : ∀ (d k : Nat) (G : am_G) (z : Option Value), k + d = n → G 115 2 = 0 → ∃ G' : am_G, am_Rn X (D + 3) (some .int) am_J171 40 [some (.ref 114), some (.int (nI n)), some (.int (nI k)), z, none] [] (am_L0 q, G) (some (.int 0), (am_L0 q, G')) := by
  have e2 : (2 : Int32).toNatClampNeg = 2 := by decide +kernel
  have h2 : am_in 2 281 = true := by decide +kernel
  intro d
  induction d with
  | zero =>
    intro k G z hk hs
    obtain rfl : k = n := by omega
    refine ⟨G, ?_⟩
    have h : ¬ nI k < nI k := Int32.lt_irrefl
    simp only [am_s171_0, am_s171_1, am_s171_2, am_s171_4, am_s171_7, am_s171_10, am_s171_11, am_s171_13, am_s171_16, am_s171_17, am_s171_18, am_s171_21, am_s171_22, am_s171_23, am_s171_24, am_s171_25, am_s171_28, am_s171_31, am_s171_32, am_s171_34, am_s171_37, am_s171_38, am_s171_39, am_s171_40, am_s171_41, am_s171_42, am_s171_45, am_s171_46, am_s171_47, am_s171_48, am_s171_49, am_s171_52, am_s171_53, am_s171_54, am_s171_57, am_s171_58, am_s171_61, am_s171_63, am_s171_64, am_s171_65, am_s171_66, am_s171_68, am_s171_70, am_s171_71, am_s171_74, am_s171_75, am_s171_76, am_s171_77, am_s171_80, am_s171_81, am_s171_83, am_s171_85, am_s171_86, am_s171_87, am_s171_88, am_s171_89, am_s171_90, am_s171_93, am_s171_94, am_s171_95, am_s171_96, am_s171_99, am_s171_102, am_s171_105, am_s171_108, am_s171_109, am_s171_112, am_s171_118, am_s171_119, am_s171_120, am_s171_123, h, am_cal_ok am_cat_0 am_v114 (am_m168 hs _), am_os_some, Option.toList_some, Option.toList_none, List.cons_append, List.nil_append, if_false, true_and]
  | succ d ih =>
    intro k G z hk hs
    have h : nI k < nI n := nI_lt (by omega) (by omega)
    have hi : nI k + 1 = nI (k + 1) := nI_add k 1
    obtain ⟨G', hh⟩ := ih (k + 1) (am_up G 115 0 (G 115 0 + 1)) (some (.int 0)) (by omega) (by simp [am_up_get, hs])
    refine ⟨G', ?_⟩
    simp only [am_s171_0, am_s171_1, am_s171_2, am_s171_4, am_s171_7, am_s171_10, am_s171_11, am_s171_13, am_s171_16, am_s171_17, am_s171_18, am_s171_21, am_s171_22, am_s171_23, am_s171_24, am_s171_25, am_s171_28, am_s171_31, am_s171_32, am_s171_34, am_s171_37, am_s171_38, am_s171_39, am_s171_40, am_s171_41, am_s171_42, am_s171_45, am_s171_46, am_s171_47, am_s171_48, am_s171_49, am_s171_52, am_s171_53, am_s171_54, am_s171_57, am_s171_58, am_s171_61, am_s171_63, am_s171_64, am_s171_65, am_s171_66, am_s171_68, am_s171_70, am_s171_71, am_s171_74, am_s171_75, am_s171_76, am_s171_77, am_s171_80, am_s171_81, am_s171_83, am_s171_85, am_s171_86, am_s171_87, am_s171_88, am_s171_89, am_s171_90, am_s171_93, am_s171_94, am_s171_95, am_s171_96, am_s171_99, am_s171_102, am_s171_105, am_s171_108, am_s171_109, am_s171_112, am_s171_118, am_s171_119, am_s171_120, am_s171_123, h, hs, am_f114_0, am_a115, h2, e2, am_i00, am_cal_ok am_cat_0 am_v114 (am_m166 hs), cond_true, am_os_some, Option.toList_some, Option.toList_none, List.cons_append, List.nil_append, if_true, if_false, true_and, am_nw1_i, am_nw1_r, am_nw1_n]
    rw [am_s171_115, hi]
    exact hh
theorem am_o171n {n : Nat} {G : am_G} (h1 : 1 ≤ n) (hn : n ≤ 40) (hs : G 115 2 = 0) (hd : G 115 0 = 0) : ∃ G' : am_G, am_CD X (D + 4) 171 [.ref 114, .int (nI n)] (am_L0 q, G) = some (some (.int 0), (am_L0 q, G')) := by
  have h0 : am_in 0 281 = true := by decide +kernel
  obtain ⟨G', hh⟩ := am_l171 (X := X) (D := D) (q := q) hn n 0 G none (by omega) hs
  obtain ⟨b1, b2, -, b3⟩ := am_n60 ⟨n, by omega⟩ h1
  have b4 := am_nle40 ⟨n, by omega⟩ h1
  refine ⟨G', ?_⟩
  refine am_CD_of (M := am_N171) rfl rfl ?_
  show am_Rn _ _ ((Option.some FieldType.int)) am_J171 0 [some (.ref 114), some (.int (nI n)), none, none, none] [] (am_L0 q, G) _
  have b : (decide (¬ nI n < 1) && decide (nI n ≤ 40)) = true := by simp only [b1, b4]; decide
  simp only [am_s171_0, am_s171_1, am_s171_2, am_s171_4, am_s171_7, am_s171_17, am_s171_18, am_s171_21, am_s171_22, am_s171_23, am_s171_24, am_s171_25, am_s171_28, am_s171_38, am_s171_39, am_cal_ok am_cat_0 am_rcv_f (am_m125 _ _ _), b, b3, hd, am_f114_0, am_a115, h0, am_cn0, am_os_some, Option.toList_some, Option.toList_none, List.cons_append, List.nil_append, am_bI0, reduceCtorEq, cond_true, if_true, if_false, true_and, am_nw1_i, am_nw1_r, am_nw1_n]
  exact hh
end AMDY
