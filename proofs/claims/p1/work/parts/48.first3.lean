/-! first, the reference's side -/
section AMFK
variable {X : am_X} {D q : Nat}
theorem am_l128g {a b : Nat} (ha : ∀ G i, am_ald X (am_L0 q, G) a i = bif am_in i 281 then some (G a i.toNatClampNeg) else none) (hb : ∀ G i x, am_astM (am_L0 q, G) b i x = bif am_in i 281 then some (am_L0 q, am_up G b i.toNatClampNeg x) else none) : ∀ (d k : Nat) (G : am_G), k + d = 281 → ∃ G' : am_G, (∀ i j, i ≠ b → G' i j = G i j) ∧ am_Rn X D none am_J128 2 [some (.ref 114), some (.ref a), some (.ref b), some (.int (nI k))] [] (am_L0 q, G) (none, (am_L0 q, G')) := by
  intro d
  induction d with
  | zero =>
    intro k G hk
    obtain rfl : k = 281 := by omega
    refine ⟨G, fun _ _ _ => rfl, ?_⟩
    have h : ¬ nI 281 < 281 := by decide +kernel
    simp only [am_s128_0, am_s128_1, am_s128_2, am_s128_3, am_s128_6, am_s128_9, am_s128_10, am_s128_11, am_s128_12, am_s128_13, am_s128_14, am_s128_15, am_s128_21, h, if_false, true_and]
  | succ d ih =>
    intro k G hk
    have h : nI k < 281 := nI_lt (show k < 281 by omega) (by decide)
    have hi : nI k + 1 = nI (k + 1) := nI_add k 1
    have hc : (nI k).toNatClampNeg = k := nI_clamp (by omega)
    obtain ⟨G', h1, hh⟩ := ih (k + 1) (am_up G b k (G a k)) (by omega)
    refine ⟨G', fun i j hx => by rw [h1 i j hx]; simp [am_up_get, hx], ?_⟩
    simp only [am_s128_0, am_s128_1, am_s128_2, am_s128_3, am_s128_6, am_s128_9, am_s128_10, am_s128_11, am_s128_12, am_s128_13, am_s128_14, am_s128_15, am_s128_21, h, ha, hb, hc, am_in_nI (show k < 281 by omega) (by decide), cond_true, am_os_some, if_true, true_and, am_nw1_i, am_nw1_r, am_nw1_n]
    rw [am_s128_18, hi]
    exact hh
theorem am_m128g {G : am_G} {a b : Nat} (ha : ∀ G i, am_ald X (am_L0 q, G) a i = bif am_in i 281 then some (G a i.toNatClampNeg) else none) (hb : ∀ G i x, am_astM (am_L0 q, G) b i x = bif am_in i 281 then some (am_L0 q, am_up G b i.toNatClampNeg x) else none) : ∃ G' : am_G, (∀ i j, i ≠ b → G' i j = G i j) ∧ am_CD X (D + 1) 128 [.ref 114, .ref a, .ref b] (am_L0 q, G) = some (none, (am_L0 q, G')) := by
  obtain ⟨G', h1, hh⟩ := am_l128g (X := X) (D := D) ha hb 281 0 G rfl
  refine ⟨G', h1, ?_⟩
  refine am_CD_of (M := am_N128) rfl rfl ?_
  show am_Rn _ _ none am_J128 0 [some (.ref 114), some (.ref a), some (.ref b), none] [] (am_L0 q, G) _
  simp only [am_s128_0, am_s128_1, true_and, am_nw1_i, am_nw1_r, am_nw1_n]
  exact hh
theorem am_m181 {G : am_G} (hs : G 115 2 = 0) (x : Int32) : am_CD X (D + 1) 181 [.ref 114, .int x] (am_L0 q, G) = some (some (.int 0), (am_L0 q, G)) := by
  have e2 : (2 : Int32).toNatClampNeg = 2 := by decide +kernel
  have h2 : am_in 2 281 = true := by decide +kernel
  refine am_CD_of (M := am_N181) rfl rfl ?_
  show am_Rn _ _ ((Option.some FieldType.int)) am_J181 0 [some (.ref 114), some (.int x), none] [] (am_L0 q, G) _
  simp only [am_s181_0, am_s181_1, am_s181_2, am_s181_3, am_s181_4, am_s181_7, am_s181_8, am_s181_9, am_s181_12, am_s181_13, am_s181_14, am_s181_15, am_s181_18, am_s181_19, am_s181_22, am_s181_25, am_s181_28, am_s181_29, am_f114_0, am_a115, h2, e2, hs, am_i00, cond_true, am_os_some, if_false, true_and, am_nw1_i, am_nw1_r, am_nw1_n]
theorem am_m166 {G : am_G} (hs : G 115 2 = 0) : am_CD X (D + 1) 166 [.ref 114] (am_L0 q, G) = some (none, (am_L0 q, am_up G 115 0 (G 115 0 + 1))) := by
  have e2 : (2 : Int32).toNatClampNeg = 2 := by decide +kernel
  have h2 : am_in 2 281 = true := by decide +kernel
  have h0 : am_in 0 281 = true := by decide +kernel
  refine am_CD_of (M := am_N166) rfl rfl ?_
  show am_Rn _ _ none am_J166 0 [some (.ref 114), none, none] [] (am_L0 q, G) _
  simp only [am_s166_0, am_s166_1, am_s166_2, am_s166_3, am_s166_4, am_s166_7, am_s166_8, am_s166_9, am_s166_12, am_s166_13, am_s166_14, am_s166_17, am_s166_20, am_s166_21, am_s166_22, am_s166_23, am_s166_24, am_s166_25, am_s166_26, am_s166_29, am_s166_30, am_s166_31, am_s166_34, am_s166_35, am_s166_36, am_s166_39, am_s166_42, am_s166_45, am_s166_48, am_s166_49, am_s166_50, am_s166_53, am_s166_56, am_s166_59, am_s166_60, am_s166_61, am_s166_62, am_s166_63, am_s166_66, am_s166_67, am_s166_68, am_s166_71, am_s166_72, am_s166_73, am_s166_74, am_s166_77, am_s166_78, am_s166_79, am_s166_82, am_s166_83, am_s166_84, am_s166_85, am_s166_86, am_s166_87, am_s166_88, am_s166_91, am_s166_92, am_s166_95, am_s166_96, am_s166_99, am_s166_100, am_s166_101, am_s166_102, am_s166_103, am_s166_106, am_s166_107, am_s166_108, am_s166_109, am_s166_112, am_s166_113, am_s166_114, am_s166_115, am_s166_117, am_s166_120, am_s166_123, am_s166_124, am_s166_127, am_s166_130, am_s166_133, am_s166_134, am_s166_137, am_s166_138, am_s166_139, am_s166_140, am_s166_141, am_s166_142, am_s166_143, am_f114_0, am_a115, am_t115, h2, e2, h0, am_cn0, hs, am_i00, cond_true, am_os_some, if_false, true_and, am_nw1_i, am_nw1_r, am_nw1_n]
theorem am_l182 {x b : Int32} : ∀ (d k : Nat) (G : am_G), k + d = 61 → G 115 2 = 0 → ∃ G' : am_G, am_Rn X (D + 2) (some .int) am_J182 40 [some (.ref 114), some (.int x), some (.int b), some (.int (nI k)), none] [] (am_L0 q, G) (some (.int (-1000000002)), (am_L0 q, G')) := by
  have e2 : (2 : Int32).toNatClampNeg = 2 := by decide +kernel
  have h2 : am_in 2 281 = true := by decide +kernel
  intro d
  induction d with
  | zero =>
    intro k G hk hs
    obtain rfl : k = 61 := by omega
    have h : ¬ nI 61 ≤ 60 := by decide +kernel
    obtain ⟨G', _, hh⟩ := am_m128g (X := X) (D := D + 1) (q := q) (G := G) (a := 117) (b := 115) (fun _ _ => rfl) (fun _ _ _ => rfl)
    refine ⟨am_up G' 119 2 (G' 119 2 + 1), ?_⟩
    simp only [am_s182_0, am_s182_1, am_s182_2, am_s182_4, am_s182_7, am_s182_10, am_s182_11, am_s182_12, am_s182_13, am_s182_16, am_s182_19, am_s182_20, am_s182_22, am_s182_25, am_s182_26, am_s182_27, am_s182_28, am_s182_31, am_s182_32, am_s182_35, am_s182_38, am_s182_39, am_s182_40, am_s182_41, am_s182_43, am_s182_46, am_s182_47, am_s182_48, am_s182_51, am_s182_52, am_s182_55, am_s182_56, am_s182_57, am_s182_60, am_s182_61, am_s182_64, am_s182_70, am_s182_71, am_s182_72, am_s182_75, am_s182_77, am_s182_78, am_s182_79, am_s182_82, am_s182_83, am_s182_86, am_s182_89, am_s182_90, am_s182_92, am_s182_95, am_s182_96, am_s182_98, am_s182_101, am_s182_102, am_s182_103, am_s182_106, am_s182_107, am_s182_110, am_s182_112, h, am_f114_0, am_f114_2, am_cal_ok am_cat_0 am_v114 (am_m181 hs x), am_cal_ok am_cat_0 am_v114 hh, am_cal_ok am_cat_0 am_v114 am_d2, am_os_some, Option.toList_some, Option.toList_none, List.cons_append, List.nil_append, if_false, true_and, am_nw1_i, am_nw1_r, am_nw1_n]
  | succ d ih =>
    intro k G hk hs
    have h : nI k ≤ 60 := by
      have : ∀ m : Fin 61, nI m.1 ≤ 60 := by decide +kernel
      exact this ⟨k, by omega⟩
    have hi : nI k + 1 = nI (k + 1) := nI_add k 1
    obtain ⟨G', hh⟩ := ih (k + 1) (am_up G 115 0 (G 115 0 + 1)) (by omega) (by simp [am_up_get, hs])
    refine ⟨G', ?_⟩
    simp only [am_s182_0, am_s182_1, am_s182_2, am_s182_4, am_s182_7, am_s182_10, am_s182_11, am_s182_12, am_s182_13, am_s182_16, am_s182_19, am_s182_20, am_s182_22, am_s182_25, am_s182_26, am_s182_27, am_s182_28, am_s182_31, am_s182_32, am_s182_35, am_s182_38, am_s182_39, am_s182_40, am_s182_41, am_s182_43, am_s182_46, am_s182_47, am_s182_48, am_s182_51, am_s182_52, am_s182_55, am_s182_56, am_s182_57, am_s182_60, am_s182_61, am_s182_64, am_s182_70, am_s182_71, am_s182_72, am_s182_75, am_s182_77, am_s182_78, am_s182_79, am_s182_82, am_s182_83, am_s182_86, am_s182_89, am_s182_90, am_s182_92, am_s182_95, am_s182_96, am_s182_98, am_s182_101, am_s182_102, am_s182_103, am_s182_106, am_s182_107, am_s182_110, am_s182_112, h, am_f114_0, am_a115, h2, e2, hs, am_cal_ok am_cat_0 am_v114 (am_m181 hs x), am_cal_ok am_cat_0 am_v114 (am_m166 hs), cond_true, am_os_some, Option.toList_some, Option.toList_none, List.cons_append, List.nil_append, if_true, true_and, am_nw1_i, am_nw1_r, am_nw1_n]
    rw [am_s182_67, hi]
    exact hh
theorem am_o182 {G : am_G} {x b : Int32} (hs : G 115 2 = 0) (hx : (decide (¬ x < 1) && decide (x ≤ 99)) = true) (hb : am_wi b 1 = true) : ∃ G' : am_G, am_CD X (D + 4) 182 [.ref 114, .int x, .int b] (am_L0 q, G) = some (some (.int (-1000000002)), (am_L0 q, G')) := by
  obtain ⟨G1, e1, h1⟩ := am_m128g (X := X) (D := D + 2) (q := q) (G := G) (a := 115) (b := 117) (fun _ _ => rfl) (fun _ _ _ => rfl)
  obtain ⟨G2, h2⟩ := am_l182 (X := X) (D := D + 1) (q := q) (x := x) (b := b) 61 0 G1 rfl (by rw [e1 115 2 (by decide), hs])
  refine ⟨G2, ?_⟩
  refine am_CD_of (M := am_N182) rfl rfl ?_
  show am_Rn _ _ ((Option.some FieldType.int)) am_J182 0 [some (.ref 114), some (.int x), some (.int b), none, none] [] (am_L0 q, G) _
  simp only [am_s182_0, am_s182_1, am_s182_2, am_s182_4, am_s182_7, am_s182_10, am_s182_11, am_s182_12, am_s182_13, am_s182_16, am_s182_19, am_s182_20, am_s182_22, am_s182_25, am_s182_26, am_s182_27, am_s182_28, am_s182_31, am_s182_32, am_s182_35, am_s182_38, am_s182_39, am_s182_41, am_s182_43, am_s182_46, am_s182_47, am_s182_48, am_s182_51, am_s182_52, am_s182_55, am_s182_56, am_s182_57, am_s182_60, am_s182_61, am_s182_64, am_s182_70, am_s182_71, am_s182_72, am_s182_75, am_s182_77, am_s182_78, am_s182_79, am_s182_82, am_s182_83, am_s182_86, am_s182_89, am_s182_90, am_s182_92, am_s182_95, am_s182_96, am_s182_98, am_s182_101, am_s182_102, am_s182_103, am_s182_106, am_s182_107, am_s182_110, am_s182_112, am_cal_ok am_cat_0 am_rcv_f (am_m125z _ _), am_cal_ok am_cat_0 am_rcv_f (am_m125 _ _ _), am_f114_0, am_f114_2, am_cal_ok am_cat_0 am_v114 h1, hx, hb, am_os_some, Option.toList_some, Option.toList_none, List.cons_append, List.nil_append, am_bI0, reduceCtorEq, if_true, if_false, true_and, am_nw1_i, am_nw1_r, am_nw1_n]
  exact h2
end AMFK
