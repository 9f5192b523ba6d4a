/-! THE REFERENCE: image, restore -/
section AMRD3
variable {X : am_X} {D q : Nat}
theorem am_is6 : am_is4 116 := Or.inr (Or.inl rfl)
theorem am_r211 {s : am_St} (hs : am_oks s) : am_rO 211 [] s (am_O112 s) := by
  intro N xs q G hc
  obtain ⟨G1, a1, b1, g1⟩ := am_m128 (X := am_X0 N xs) (D := 98) (q := q) (G := G) am_is5 am_is6 (by decide)
  obtain ⟨h1, h2, h3, h4, h5, h6, h7, h8⟩ := hc
  have k5 : G1 114 5 = nI s.2.2.1 := by rw [a1 114 5 (by decide)]; exact h4
  have hi : nI s.2.2.1 + 1 = nI (s.2.2.1 + 1) := nI_add _ 1
  have F : ∀ i j, i ≠ 114 → am_up (am_up G1 114 4 1) 114 5 (nI (s.2.2.1 + 1)) i j = G1 i j := fun i j h => by rw [am_up_get, if_neg h, am_up_get, if_neg h]
  have F4 : ∀ j, j ≠ 4 → j ≠ 5 → am_up (am_up G1 114 4 1) 114 5 (nI (s.2.2.1 + 1)) 114 j = G 114 j := fun j x y => by rw [am_up_get, if_pos rfl, if_neg y, am_up_get, if_pos rfl, if_neg x, a1 114 j (by decide)]
  have R : ∀ i, i ≠ 114 → i ≠ 116 → am_up (am_up G1 114 4 1) 114 5 (nI (s.2.2.1 + 1)) i = G i := fun i x y => funext fun j => by rw [F i j x, a1 i j y]
  refine ⟨am_up (am_up G1 114 4 1) 114 5 (nI (s.2.2.1 + 1)), fun i j hi => by rw [F i j (by omega), a1 i j (by omega)], ⟨?_, fun _ => ?_, ?_, ?_, fun k hk => ?_, ?_, ?_, fun j hj => ?_⟩, am_CD_of (M := am_N211) rfl rfl ?_⟩
  · rw [R 115 (by decide) (by decide)]; exact h1
  · refine am_rw8_ext (W := s.1) h1 hs.1 fun j hj => ?_
    rw [F 116 j (by decide), b1 j hj]
  · show am_up (am_up G1 114 4 1) 114 5 (nI (s.2.2.1 + 1)) 114 4 = if s.2.2.1 + 1 = 0 then 0 else 1
    rw [if_neg (by omega), am_up_get, if_pos rfl, if_neg (by decide), am_up_get, if_pos rfl, if_pos rfl]
  · show am_up (am_up G1 114 4 1) 114 5 (nI (s.2.2.1 + 1)) 114 5 = nI (s.2.2.1 + 1)
    rw [am_up_get, if_pos rfl, if_pos rfl]
  · rw [R 119 (by decide) (by decide)]; exact h5 k hk
  · rw [F4 15 (by decide) (by decide)]; exact h6
  · rw [F4 25 (by decide) (by decide), R 125 (by decide) (by decide)]; exact h7
  · obtain ⟨a, b, c⟩ := h8 j hj
    unfold am_rsh
    rw [R 120 (by decide) (by decide), R 121 (by decide) (by decide), R 122 (by decide) (by decide)]
    exact ⟨a, b, c⟩
  · show am_Rn _ _ ((Option.some FieldType.int)) am_J211 0 [some (.ref 114)] [] (am_L0 q, G) _
    simp only [am_s211_0, am_s211_1, am_s211_2, am_s211_5, am_s211_6, am_s211_9, am_s211_12, am_s211_13, am_s211_14, am_s211_17, am_s211_18, am_s211_18a, am_s211_19, am_s211_22, am_s211_23, am_s211_24, am_s211_27, am_s211_28, am_s211_31, am_f114_0, am_f114_1, am_cal_ok am_cat_0 am_v114 (g1), am_p114_4_1, am_f114_5, am_p114_5, am_up_get, Nat.reduceEqDiff, k5, hi, am_cal_ok am_cat_0 am_v114 (am_d1 (D := 98)), am_cal_ok am_cat_0 am_v114 (am_d2 (D := 98)), am_cal_ok am_cat_0 am_v114 (am_d3 (D := 98)), am_cal_ok am_cat_0 am_v114 (am_d4 (D := 98)), am_cal_ok am_cat_0 am_v114 (am_d5 (D := 98)), am_cal_ok am_cat_0 am_rcv_f (am_y125 _ _), am_cal_ok am_cat_0 am_rcv_f (am_m183 (D := 97) _), am_bI0, am_f114_0, am_er_f, am_sy_f, Bool.false_and, Bool.and_false, reduceCtorEq, not_false_eq_true, not_true_eq_false, eq_self, am_os_some, Option.toList_some, Option.toList_none, List.cons_append, List.nil_append, if_true, if_false, true_and, am_nw1_i, am_nw1_r, am_nw1_n, cond_true]
    rfl
theorem am_r212 {s : am_St} (hs : am_oks s) : am_rO 212 [] s (am_O113 s) := by
  unfold am_O113
  by_cases h1 : s.2.2.1 = 0
  · rw [if_pos h1]
    refine am_rO_err (k := 2) (r := -1000000002) (by decide) am_ec2.symm fun X q G hc => am_CD_of (M := am_N212) rfl rfl ?_
    have hn : G 115 2 = nI (s.1.1 13 0) := hc.1.1.2.1
    have k4 : G 114 4 = 0 := hc.2.2.1.trans (by rw [if_pos h1])
    show am_Rn _ _ ((Option.some FieldType.int)) am_J212 0 [some (.ref 114)] [] (am_L0 q, G) _
    simp only [am_s212_0, am_s212_1, am_s212_4, am_s212_7, am_s212_8, am_s212_10, am_s212_13, am_s212_14, am_s212_15, am_s212_16, am_s212_19, am_s212_20, am_s212_23, am_s212_26, am_s212_27, am_s212_30, am_s212_31, am_s212_32, am_f114_4, k4, am_cal_ok am_cat_0 am_v114 (am_d1 (D := 98)), am_cal_ok am_cat_0 am_v114 (am_d2 (D := 98)), am_cal_ok am_cat_0 am_v114 (am_d3 (D := 98)), am_cal_ok am_cat_0 am_v114 (am_d4 (D := 98)), am_cal_ok am_cat_0 am_v114 (am_d5 (D := 98)), am_cal_ok am_cat_0 am_rcv_f (am_y125 _ _), am_cal_ok am_cat_0 am_rcv_f (am_m183 (D := 97) _), am_bI0, am_f114_0, am_er_f, am_sy_f, Bool.false_and, Bool.and_false, reduceCtorEq, not_false_eq_true, not_true_eq_false, eq_self, am_os_some, Option.toList_some, Option.toList_none, List.cons_append, List.nil_append, if_true, if_false, true_and, am_nw1_i, am_nw1_r, am_nw1_n, cond_true]
  · rw [if_neg h1]
    intro N xs q G hc
    have k4 : G 114 4 = 1 := hc.2.2.1.trans (by rw [if_neg h1])
    have e10 : ((1 : Int32) = 0) = False := by decide
    obtain ⟨G1, a1, b1, g1⟩ := am_m128 (X := am_X0 N xs) (D := 98) (q := q) (G := G) am_is6 am_is5 (by decide)
    have hk := hc.2.1 h1
    have r1 := am_rw8_ext hk hs.2.1 b1
    have k0 : G1 115 0 = nI (s.2.1.1 13 1) := r1.1.1
    refine ⟨G1, fun i j hi => a1 i j (by omega), am_rfl_W hc (fun i j _ b _ _ _ _ _ => a1 i j b) r1, am_CD_of (M := am_N212) rfl rfl ?_⟩
    show am_Rn _ _ ((Option.some FieldType.int)) am_J212 0 [some (.ref 114)] [] (am_L0 q, G) _
    simp only [am_s212_0, am_s212_1, am_s212_4, am_s212_7, am_s212_8, am_s212_10, am_s212_13, am_s212_14, am_s212_15, am_s212_16, am_s212_19, am_s212_20, am_s212_23, am_s212_26, am_s212_27, am_s212_30, am_s212_31, am_s212_32, am_f114_4, k4, e10, am_f114_1, am_cal_ok am_cat_0 am_v114 (g1), am_r115_0, k0, am_cal_ok am_cat_0 am_v114 (am_d1 (D := 98)), am_cal_ok am_cat_0 am_v114 (am_d2 (D := 98)), am_cal_ok am_cat_0 am_v114 (am_d3 (D := 98)), am_cal_ok am_cat_0 am_v114 (am_d4 (D := 98)), am_cal_ok am_cat_0 am_v114 (am_d5 (D := 98)), am_cal_ok am_cat_0 am_rcv_f (am_y125 _ _), am_cal_ok am_cat_0 am_rcv_f (am_m183 (D := 97) _), am_bI0, am_f114_0, am_er_f, am_sy_f, Bool.false_and, Bool.and_false, reduceCtorEq, not_false_eq_true, not_true_eq_false, eq_self, am_os_some, Option.toList_some, Option.toList_none, List.cons_append, List.nil_append, if_true, if_false, true_and, am_nw1_i, am_nw1_r, am_nw1_n, cond_true]
end AMRD3
