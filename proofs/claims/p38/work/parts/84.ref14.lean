/-! THE REFERENCE: tell, ofPerson -/
section AMRE4
variable {X : am_X} {D q : Nat}
theorem am_r213 {v : Int32} {s : am_St} (hs : am_oks s) : am_rO 213 [.int v] s (am_O114 v s) := by
  unfold am_O114
  have hm := hs.1.2.2.2.2.2.2
  by_cases h1 : 20 ≤ s.1.2.2.2.2.1.2
  · rw [if_pos h1]
    refine am_rO_err (k := 4) (r := -1000000004) (by decide) am_ec4.symm fun X q G hc => am_CD_of (M := am_N213) rfl rfl ?_
    have hn : G 115 2 = nI (s.1.1 13 0) := hc.1.1.2.1
    have k4 : G 115 4 = nI s.1.2.2.2.2.1.2 := hc.1.2.2.2.2.1.1
    have h2 : (nI s.1.2.2.2.2.1.2 = 20) = True := by rw [show s.1.2.2.2.2.1.2 = 20 by omega]; decide
    show am_Rn _ _ ((Option.some FieldType.int)) am_J213 0 [some (.ref 114), some (.int v)] [] (am_L0 q, G) _
    simp only [am_s213_0, am_s213_1, am_s213_4, am_s213_5, am_s213_6, am_s213_8, am_s213_11, am_s213_12, am_s213_14, am_s213_17, am_s213_18, am_s213_19, am_s213_22, am_s213_25, am_s213_26, am_s213_29, am_s213_30, am_s213_31, am_s213_32, am_s213_33, am_s213_34, am_s213_35, am_s213_38, am_s213_39, am_s213_40, am_s213_41, am_s213_42, am_s213_43, am_s213_44, am_s213_45, am_s213_48, am_s213_49, am_s213_50, am_r115_4, k4, h2, am_cal_ok am_cat_0 am_v114 (am_d1 (D := 98)), am_cal_ok am_cat_0 am_v114 (am_d2 (D := 98)), am_cal_ok am_cat_0 am_v114 (am_d3 (D := 98)), am_cal_ok am_cat_0 am_v114 (am_d4 (D := 98)), am_cal_ok am_cat_0 am_v114 (am_d5 (D := 98)), am_cal_ok am_cat_0 am_rcv_f (am_y125 _ _), am_cal_ok am_cat_0 am_rcv_f (am_m183 (D := 97) _), am_bI0, am_f114_0, am_er_f, am_sy_f, Bool.false_and, Bool.and_false, reduceCtorEq, not_false_eq_true, not_true_eq_false, eq_self, am_os_some, Option.toList_some, Option.toList_none, List.cons_append, List.nil_append, if_true, if_false, true_and, am_nw1_i, am_nw1_r, am_nw1_n, cond_true]
  · rw [if_neg h1]
    intro N xs q G hc
    have k4 : G 115 4 = nI s.1.2.2.2.2.1.2 := hc.1.2.2.2.2.1.1
    generalize hM : s.1.2.2.2.2.1.2 = m at k4 h1 hm
    have h2 : ¬ nI m = 20 := fun e => by have := (nI_eq (b := 20) (by omega) (by decide)).mp e; omega
    have s1 : nI m + 1 = nI (m + 1) := nI_add _ 1
    have s161 : (161 : Int32) + nI m = nI (161 + m) := nI_add 161 m
    have fr : ∀ i j, i ≠ 115 → am_up (am_up G 115 (161 + m) v) 115 4 (nI (m + 1)) i j = G i j := fun i j h => by rw [am_up_get, if_neg h, am_up_get, if_neg h]
    have f1 : ∀ j, j ≠ 4 → j ≠ 161 + m → am_ru (am_ru (G 115) (161 + m) v) 4 (nI (m + 1)) j = G 115 j := fun j x y => by rw [am_ru_get, if_neg x, am_ru_get, if_neg y]
    have k4' : am_up G 115 (161 + m) v 115 4 = nI m := by rw [am_up_get, if_pos rfl, if_neg (by omega)]; exact k4
    refine ⟨am_up (am_up G 115 (161 + m) v) 115 4 (nI (m + 1)), fun i j hi => fr i j (by omega), am_rfl_W hc (fun i j _ b _ _ _ _ _ => fr i j b) ?_, am_CD_of (M := am_N213) rfl rfl ?_⟩
    · rw [am_up_row, am_up_row]
      obtain ⟨a1, a2, a3, ⟨a4, a5⟩, ⟨a6, a7⟩, a8⟩ := hc.1
      have h50 := hs.1.2.2.2.2.1
      refine ⟨⟨by rw [f1 _ (by omega) (by omega)]; exact a1.1, by rw [f1 _ (by omega) (by omega)]; exact a1.2.1, fun p f hp hq => by rw [f1 _ (by omega) (by omega)]; exact a1.2.2.1 p f hp hq, fun a b ha hb => by rw [f1 _ (by omega) (by omega)]; exact a1.2.2.2 a b ha hb⟩, ?_, ?_, ⟨by rw [f1 _ (by omega) (by omega)]; exact a4, fun j hj => by have hj' : j < s.1.2.2.2.1.2 := hj; rw [f1 _ (by omega) (by omega)]; exact a5 j hj⟩, ⟨by rw [am_ru_get, if_pos rfl], fun j hj => ?_⟩, by rw [f1 _ (by omega) (by omega)]; exact a8⟩
      · rcases a2 with ⟨h1, h2⟩ | ⟨B, n, h1, h2, h3, h4⟩
        · exact Or.inl ⟨h1, by rw [f1 _ (by omega) (by omega)]; exact h2⟩
        · exact Or.inr ⟨B, n, h1, by rw [f1 _ (by omega) (by omega)]; exact h2, fun j hj => by rw [f1 _ (by omega) (by omega)]; exact h3 j hj, h4⟩
      · rcases a3 with ⟨h1, h2⟩ | ⟨B, n, h1, h2, h3, h4⟩
        · exact Or.inl ⟨h1, by rw [f1 _ (by omega) (by omega)]; exact h2⟩
        · exact Or.inr ⟨B, n, h1, by rw [f1 _ (by omega) (by omega)]; exact h2, fun j hj => by rw [f1 _ (by omega) (by omega)]; exact h3 j hj, h4⟩
      · have hj' : j < m + 1 := hj
        show am_ru (am_ru (G 115) (161 + m) v) 4 (nI (m + 1)) (161 + j) = if j = m then v else s.1.2.2.2.2.1.1 j
        rw [am_ru_get, if_neg (by omega), am_ru_get]
        by_cases c : j = m
        · rw [if_pos (by omega), if_pos c]
        · rw [if_neg (by omega), if_neg c]
          exact a7 j (by rw [hM]; omega)
    · show am_Rn _ _ ((Option.some FieldType.int)) am_J213 0 [some (.ref 114), some (.int v)] [] (am_L0 q, G) _
      simp only [am_s213_0, am_s213_1, am_s213_4, am_s213_5, am_s213_6, am_s213_8, am_s213_11, am_s213_12, am_s213_14, am_s213_17, am_s213_18, am_s213_19, am_s213_22, am_s213_25, am_s213_26, am_s213_29, am_s213_30, am_s213_31, am_s213_32, am_s213_33, am_s213_34, am_s213_35, am_s213_38, am_s213_39, am_s213_40, am_s213_41, am_s213_42, am_s213_43, am_s213_44, am_s213_45, am_s213_48, am_s213_49, am_s213_50, am_r115_4, am_w115_4, k4, k4', h2, s161, am_w115 (show 161 + m < 281 by omega), s1, am_up_get, Nat.reduceEqDiff, am_cal_ok am_cat_0 am_v114 (am_d1 (D := 98)), am_cal_ok am_cat_0 am_v114 (am_d2 (D := 98)), am_cal_ok am_cat_0 am_v114 (am_d3 (D := 98)), am_cal_ok am_cat_0 am_v114 (am_d4 (D := 98)), am_cal_ok am_cat_0 am_v114 (am_d5 (D := 98)), am_cal_ok am_cat_0 am_rcv_f (am_y125 _ _), am_cal_ok am_cat_0 am_rcv_f (am_m183 (D := 97) _), am_bI0, am_f114_0, am_er_f, am_sy_f, Bool.false_and, Bool.and_false, reduceCtorEq, not_false_eq_true, not_true_eq_false, eq_self, am_os_some, Option.toList_some, Option.toList_none, List.cons_append, List.nil_append, if_true, if_false, true_and, am_nw1_i, am_nw1_r, am_nw1_n, cond_true]
end AMRE4
