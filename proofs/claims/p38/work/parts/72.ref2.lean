/-! THE REFERENCE: change, as, fills, drinks, seed, trace, told, tell, image, restore -/
theorem am_lepr {n : Nat} (hn : n < 2 ^ 30) (v : Int32) : am_wi v (nI n - 1) = am_ip n v := by
  unfold am_wi am_ip
  match n, hn with
  | 0, _ =>
    have e : nI 0 - 1 = -1 := by decide
    rw [e]
    by_cases h : v < 0
    · simp [h]
    · have h1 : ¬ v ≤ -1 := fun h2 => h (Int32.lt_of_le_of_lt h2 (by decide))
      have h3 : ¬ v < nI 0 := h
      simp [h, h1, h3]
  | n + 1, hn =>
    rw [nI_pred]
    by_cases h : v < 0
    · simp [h]
    · obtain ⟨k, hk, rfl⟩ := nI_of h
      have e : (nI k ≤ nI n) = (nI k < nI (n + 1)) := propext ((nI_leI hk (by omega)).trans (Nat.lt_succ_iff.symm.trans (nI_ltI hk (by omega)).symm))
      simp only [e]
theorem am_rp_ext {R R' : am_Ro} {S : am_S} (h : am_rp R S) (hf : ∀ j, j < 281 → R' j = R j) : am_rp R' S := ⟨by rw [hf 0 (by decide)]; exact h.1, by rw [hf 2 (by decide)]; exact h.2.1, fun p f hp hq => by rw [hf _ (by omega)]; exact h.2.2.1 p f hp hq, fun a b ha hb => by rw [hf _ (by omega)]; exact h.2.2.2 a b ha hb⟩
theorem am_rx_ext {R R' : am_Ro} {u : Nat} {T : am_T} (h : am_rx R u T) (hu : u < 2) (hf : ∀ j, j < 281 → R' j = R j) : am_rx R' u T := by
  rcases h with ⟨h1, h2⟩ | ⟨B, n, h1, h2, h3, h4⟩
  · exact Or.inl ⟨h1, by rw [hf _ (by omega)]; exact h2⟩
  · exact Or.inr ⟨B, n, h1, by rw [hf _ (by omega)]; exact h2, fun j hj => by rw [hf _ (by omega)]; exact h3 j hj, h4⟩
theorem am_rw8_ext {R R' : am_Ro} {W : am_We} (h : am_rw8 R W) (hw : am_wwf W) (hf : ∀ j, j < 281 → R' j = R j) : am_rw8 R' W := by
  have h50 := hw.2.2.2.2.1
  have h20 := hw.2.2.2.2.2.2
  obtain ⟨a1, a2, a3, ⟨a4, a5⟩, ⟨a6, a7⟩, a8⟩ := h
  exact ⟨am_rp_ext a1 hf, am_rx_ext a2 (by decide) hf, am_rx_ext a3 (by decide) hf, ⟨by rw [hf 3 (by decide)]; exact a4, fun j hj => by rw [hf _ (by omega)]; exact a5 j hj⟩, ⟨by rw [hf 4 (by decide)]; exact a6, fun j hj => by rw [hf _ (by omega)]; exact a7 j hj⟩, by rw [hf 1 (by decide)]; exact a8⟩
section AMR2
variable {X : am_X} {D q : Nat} {G : am_G} {S : am_S}
/-- change -/
theorem am_r137 {a b c : Int32} {s : am_St} (hs : am_oks s) : am_rO 137 [.int a, .int b, .int c] s (am_O83 a b c s) := by
  unfold am_O83
  have h8 := hs.1.1.1
  cases h2 : am_wi b 2 with
  | false =>
    rw [Bool.and_false, if_pos rfl]
    have b0 : ¬ b = 0 := fun e => by subst e; revert h2; decide
    have b1 : ¬ b = 1 := fun e => by subst e; revert h2; decide
    have b2 : ¬ b = 2 := fun e => by subst e; revert h2; decide
    have z00 : ((0 : Int32) = 0) = True := by decide
    cases h1 : am_ip (s.1.1 13 0) a
    all_goals
      refine am_rO_err (k := 1) (r := -1000000001) (by decide) am_ec1.symm fun X q G hc => am_CD_of (M := am_N137) rfl rfl ?_
      have hn : G 115 2 = nI (s.1.1 13 0) := hc.1.1.2.1
      show am_Rn _ _ ((Option.some FieldType.int)) am_J137 0 [some (.ref 114), some (.int a), some (.int b), some (.int c), none] [] (am_L0 q, G) _
      simp only [am_s137_0, am_s137_1, am_s137_4, am_s137_5, am_s137_6, am_s137_8, am_s137_11, am_s137_14, am_s137_15, am_s137_16, am_s137_19, am_s137_20, am_s137_21, am_s137_24, am_s137_27, am_s137_30, am_s137_31, am_s137_32, am_s137_35, am_s137_36, am_s137_37, am_s137_39, am_s137_42, am_s137_45, am_s137_46, am_s137_49, am_s137_50, am_s137_52, am_s137_53, am_s137_54, am_s137_57, am_s137_60, am_s137_62, am_s137_65, am_s137_66, am_s137_68, am_s137_69, am_s137_70, am_s137_71, am_s137_72, am_s137_73, am_s137_74, am_s137_75, am_s137_76, am_s137_77, am_s137_80, am_s137_83, am_s137_84, am_s137_86, am_s137_89, am_cal_ok am_cat_0 am_v114 (am_y132 (D := 97) h8 hn _), h1, b0, b1, b2, am_cal_ok am_cat_0 am_v114 (am_d1 (D := 98)), am_cal_ok am_cat_0 am_v114 (am_d2 (D := 98)), am_cal_ok am_cat_0 am_v114 (am_d3 (D := 98)), am_cal_ok am_cat_0 am_v114 (am_d4 (D := 98)), am_cal_ok am_cat_0 am_v114 (am_d5 (D := 98)), am_cal_ok am_cat_0 am_rcv_f (am_y125 _ _), am_cal_ok am_cat_0 am_rcv_f (am_m183 (D := 97) _), am_bI0, am_f114_0, am_er_f, am_sy_f, Bool.false_and, Bool.and_false, reduceCtorEq, not_false_eq_true, not_true_eq_false, eq_self, am_os_some, Option.toList_some, Option.toList_none, List.cons_append, List.nil_append, if_true, if_false, true_and, am_nw1_i, am_nw1_r, am_nw1_n, cond_true]
  | true =>
    have e10 : ((1 : Int32) = 0) = False := by decide
    have e20 : (nI 2 = 0) = False := by decide
    have e21 : (nI 2 = 1) = False := by decide
    have e22 : (nI 2 = 2) = True := by decide
    have n10 : (nI 1 = 0) = False := by decide
    have n11 : (nI 1 = 1) = True := by decide
    have n00 : (nI 0 = 0) = True := by decide
    have m0 : am_mx (nI 0) = 15 := by decide
    have m1 : am_mx (nI 1) = 999 := by decide
    have m2 : am_mx (nI 2) = 99 := by decide
    cases h1 : am_ip (s.1.1 13 0) a with
    | false =>
      rw [Bool.false_and, if_pos rfl]
      obtain ⟨b1, b2⟩ := am_wi_nI (n := 2) (by decide) h2
      generalize b.toNatClampNeg = w at b1 b2
      subst b2
      match w, b1 with
      | 0, _ =>
        refine am_rO_err (k := 1) (r := -1000000001) (by decide) am_ec1.symm fun X q G hc => am_CD_of (M := am_N137) rfl rfl ?_
        have hn : G 115 2 = nI (s.1.1 13 0) := hc.1.1.2.1
        show am_Rn _ _ ((Option.some FieldType.int)) am_J137 0 [some (.ref 114), some (.int a), some (.int (nI 0)), some (.int c), none] [] (am_L0 q, G) _
        simp only [am_s137_0, am_s137_1, am_s137_4, am_s137_5, am_s137_6, am_s137_8, am_s137_11, am_s137_14, am_s137_15, am_s137_16, am_s137_19, am_s137_20, am_s137_21, am_s137_24, am_s137_27, am_s137_30, am_s137_31, am_s137_32, am_s137_35, am_s137_36, am_s137_37, am_s137_39, am_s137_42, am_s137_45, am_s137_46, am_s137_49, am_s137_50, am_s137_52, am_s137_53, am_s137_54, am_s137_57, am_s137_60, am_s137_62, am_s137_65, am_s137_66, am_s137_68, am_s137_69, am_s137_70, am_s137_71, am_s137_72, am_s137_73, am_s137_74, am_s137_75, am_s137_76, am_s137_77, am_s137_80, am_s137_83, am_s137_84, am_s137_86, am_s137_89, am_cal_ok am_cat_0 am_v114 (am_y132 (D := 97) h8 hn _), h1, n00, am_cal_ok am_cat_0 am_v114 (am_d1 (D := 98)), am_cal_ok am_cat_0 am_v114 (am_d2 (D := 98)), am_cal_ok am_cat_0 am_v114 (am_d3 (D := 98)), am_cal_ok am_cat_0 am_v114 (am_d4 (D := 98)), am_cal_ok am_cat_0 am_v114 (am_d5 (D := 98)), am_cal_ok am_cat_0 am_rcv_f (am_y125 _ _), am_cal_ok am_cat_0 am_rcv_f (am_m183 (D := 97) _), am_bI0, am_f114_0, am_er_f, am_sy_f, Bool.false_and, Bool.and_false, reduceCtorEq, not_false_eq_true, not_true_eq_false, eq_self, am_os_some, Option.toList_some, Option.toList_none, List.cons_append, List.nil_append, if_true, if_false, true_and, am_nw1_i, am_nw1_r, am_nw1_n, cond_true]
      | 1, _ =>
        refine am_rO_err (k := 1) (r := -1000000001) (by decide) am_ec1.symm fun X q G hc => am_CD_of (M := am_N137) rfl rfl ?_
        have hn : G 115 2 = nI (s.1.1 13 0) := hc.1.1.2.1
        show am_Rn _ _ ((Option.some FieldType.int)) am_J137 0 [some (.ref 114), some (.int a), some (.int (nI 1)), some (.int c), none] [] (am_L0 q, G) _
        simp only [am_s137_0, am_s137_1, am_s137_4, am_s137_5, am_s137_6, am_s137_8, am_s137_11, am_s137_14, am_s137_15, am_s137_16, am_s137_19, am_s137_20, am_s137_21, am_s137_24, am_s137_27, am_s137_30, am_s137_31, am_s137_32, am_s137_35, am_s137_36, am_s137_37, am_s137_39, am_s137_42, am_s137_45, am_s137_46, am_s137_49, am_s137_50, am_s137_52, am_s137_53, am_s137_54, am_s137_57, am_s137_60, am_s137_62, am_s137_65, am_s137_66, am_s137_68, am_s137_69, am_s137_70, am_s137_71, am_s137_72, am_s137_73, am_s137_74, am_s137_75, am_s137_76, am_s137_77, am_s137_80, am_s137_83, am_s137_84, am_s137_86, am_s137_89, am_cal_ok am_cat_0 am_v114 (am_y132 (D := 97) h8 hn _), h1, n10, n11, am_cal_ok am_cat_0 am_v114 (am_d1 (D := 98)), am_cal_ok am_cat_0 am_v114 (am_d2 (D := 98)), am_cal_ok am_cat_0 am_v114 (am_d3 (D := 98)), am_cal_ok am_cat_0 am_v114 (am_d4 (D := 98)), am_cal_ok am_cat_0 am_v114 (am_d5 (D := 98)), am_cal_ok am_cat_0 am_rcv_f (am_y125 _ _), am_cal_ok am_cat_0 am_rcv_f (am_m183 (D := 97) _), am_bI0, am_f114_0, am_er_f, am_sy_f, Bool.false_and, Bool.and_false, reduceCtorEq, not_false_eq_true, not_true_eq_false, eq_self, am_os_some, Option.toList_some, Option.toList_none, List.cons_append, List.nil_append, if_true, if_false, true_and, am_nw1_i, am_nw1_r, am_nw1_n, cond_true]
      | 2, _ =>
        cases hv : am_wi c 99
        all_goals
          refine am_rO_err (k := 1) (r := -1000000001) (by decide) am_ec1.symm fun X q G hc => am_CD_of (M := am_N137) rfl rfl ?_
          have hn : G 115 2 = nI (s.1.1 13 0) := hc.1.1.2.1
          show am_Rn _ _ ((Option.some FieldType.int)) am_J137 0 [some (.ref 114), some (.int a), some (.int (nI 2)), some (.int c), none] [] (am_L0 q, G) _
          simp only [am_s137_0, am_s137_1, am_s137_4, am_s137_5, am_s137_6, am_s137_8, am_s137_11, am_s137_14, am_s137_15, am_s137_16, am_s137_19, am_s137_20, am_s137_21, am_s137_24, am_s137_27, am_s137_30, am_s137_31, am_s137_32, am_s137_35, am_s137_36, am_s137_37, am_s137_39, am_s137_42, am_s137_45, am_s137_46, am_s137_49, am_s137_50, am_s137_52, am_s137_53, am_s137_54, am_s137_57, am_s137_60, am_s137_62, am_s137_65, am_s137_66, am_s137_68, am_s137_69, am_s137_70, am_s137_71, am_s137_72, am_s137_73, am_s137_74, am_s137_75, am_s137_76, am_s137_77, am_s137_80, am_s137_83, am_s137_84, am_s137_86, am_s137_89, am_cal_ok am_cat_0 am_v114 (am_y132 (D := 97) h8 hn _), h1, e20, e21, e22, hv, e10, am_cal_ok am_cat_0 am_v114 (am_d1 (D := 98)), am_cal_ok am_cat_0 am_v114 (am_d2 (D := 98)), am_cal_ok am_cat_0 am_v114 (am_d3 (D := 98)), am_cal_ok am_cat_0 am_v114 (am_d4 (D := 98)), am_cal_ok am_cat_0 am_v114 (am_d5 (D := 98)), am_cal_ok am_cat_0 am_rcv_f (am_y125 _ _), am_cal_ok am_cat_0 am_rcv_f (am_m183 (D := 97) _), am_bI0, am_f114_0, am_er_f, am_sy_f, Bool.false_and, Bool.and_false, reduceCtorEq, not_false_eq_true, not_true_eq_false, eq_self, am_os_some, Option.toList_some, Option.toList_none, List.cons_append, List.nil_append, if_true, if_false, true_and, am_nw1_i, am_nw1_r, am_nw1_n, cond_true]
    | true =>
      rw [if_neg (by decide)]
      obtain ⟨a1, a2⟩ := am_ip_nI h8 h1
      obtain ⟨b1, b2⟩ := am_wi_nI (n := 2) (by decide) h2
      generalize a.toNatClampNeg = p at a1 a2
      generalize b.toNatClampNeg = w at b1 b2
      subst a2 b2
      have p8 : p < 8 := by omega
      cases h3 : am_wi c (am_mx (nI w)) with
      | false =>
        rw [if_pos rfl]
        match w, b1, h3 with
        | 0, _, h3 =>
          rw [m0] at h3
          refine am_rO_err (k := 1) (r := -1000000001) (by decide) am_ec1.symm fun X q G hc => am_CD_of (M := am_N137) rfl rfl ?_
          have hn : G 115 2 = nI (s.1.1 13 0) := hc.1.1.2.1
          show am_Rn _ _ ((Option.some FieldType.int)) am_J137 0 [some (.ref 114), some (.int (nI p)), some (.int (nI 0)), some (.int c), none] [] (am_L0 q, G) _
          simp only [am_s137_0, am_s137_1, am_s137_4, am_s137_5, am_s137_6, am_s137_8, am_s137_11, am_s137_14, am_s137_15, am_s137_16, am_s137_19, am_s137_20, am_s137_21, am_s137_24, am_s137_27, am_s137_30, am_s137_31, am_s137_32, am_s137_35, am_s137_36, am_s137_37, am_s137_39, am_s137_42, am_s137_45, am_s137_46, am_s137_49, am_s137_50, am_s137_52, am_s137_53, am_s137_54, am_s137_57, am_s137_60, am_s137_62, am_s137_65, am_s137_66, am_s137_68, am_s137_69, am_s137_70, am_s137_71, am_s137_72, am_s137_73, am_s137_74, am_s137_75, am_s137_76, am_s137_77, am_s137_80, am_s137_83, am_s137_84, am_s137_86, am_s137_89, am_cal_ok am_cat_0 am_v114 (am_y132 (D := 97) h8 hn _), h1, h3, n00, am_cal_ok am_cat_0 am_v114 (am_d1 (D := 98)), am_cal_ok am_cat_0 am_v114 (am_d2 (D := 98)), am_cal_ok am_cat_0 am_v114 (am_d3 (D := 98)), am_cal_ok am_cat_0 am_v114 (am_d4 (D := 98)), am_cal_ok am_cat_0 am_v114 (am_d5 (D := 98)), am_cal_ok am_cat_0 am_rcv_f (am_y125 _ _), am_cal_ok am_cat_0 am_rcv_f (am_m183 (D := 97) _), am_bI0, am_f114_0, am_er_f, am_sy_f, Bool.false_and, Bool.and_false, reduceCtorEq, not_false_eq_true, not_true_eq_false, eq_self, am_os_some, Option.toList_some, Option.toList_none, List.cons_append, List.nil_append, if_true, if_false, true_and, am_nw1_i, am_nw1_r, am_nw1_n, cond_true]
        | 1, _, h3 =>
          rw [m1] at h3
          refine am_rO_err (k := 1) (r := -1000000001) (by decide) am_ec1.symm fun X q G hc => am_CD_of (M := am_N137) rfl rfl ?_
          have hn : G 115 2 = nI (s.1.1 13 0) := hc.1.1.2.1
          show am_Rn _ _ ((Option.some FieldType.int)) am_J137 0 [some (.ref 114), some (.int (nI p)), some (.int (nI 1)), some (.int c), none] [] (am_L0 q, G) _
          simp only [am_s137_0, am_s137_1, am_s137_4, am_s137_5, am_s137_6, am_s137_8, am_s137_11, am_s137_14, am_s137_15, am_s137_16, am_s137_19, am_s137_20, am_s137_21, am_s137_24, am_s137_27, am_s137_30, am_s137_31, am_s137_32, am_s137_35, am_s137_36, am_s137_37, am_s137_39, am_s137_42, am_s137_45, am_s137_46, am_s137_49, am_s137_50, am_s137_52, am_s137_53, am_s137_54, am_s137_57, am_s137_60, am_s137_62, am_s137_65, am_s137_66, am_s137_68, am_s137_69, am_s137_70, am_s137_71, am_s137_72, am_s137_73, am_s137_74, am_s137_75, am_s137_76, am_s137_77, am_s137_80, am_s137_83, am_s137_84, am_s137_86, am_s137_89, am_cal_ok am_cat_0 am_v114 (am_y132 (D := 97) h8 hn _), h1, h3, n10, n11, am_cal_ok am_cat_0 am_v114 (am_d1 (D := 98)), am_cal_ok am_cat_0 am_v114 (am_d2 (D := 98)), am_cal_ok am_cat_0 am_v114 (am_d3 (D := 98)), am_cal_ok am_cat_0 am_v114 (am_d4 (D := 98)), am_cal_ok am_cat_0 am_v114 (am_d5 (D := 98)), am_cal_ok am_cat_0 am_rcv_f (am_y125 _ _), am_cal_ok am_cat_0 am_rcv_f (am_m183 (D := 97) _), am_bI0, am_f114_0, am_er_f, am_sy_f, Bool.false_and, Bool.and_false, reduceCtorEq, not_false_eq_true, not_true_eq_false, eq_self, am_os_some, Option.toList_some, Option.toList_none, List.cons_append, List.nil_append, if_true, if_false, true_and, am_nw1_i, am_nw1_r, am_nw1_n, cond_true]
        | 2, _, h3 =>
          rw [m2] at h3
          refine am_rO_err (k := 1) (r := -1000000001) (by decide) am_ec1.symm fun X q G hc => am_CD_of (M := am_N137) rfl rfl ?_
          have hn : G 115 2 = nI (s.1.1 13 0) := hc.1.1.2.1
          show am_Rn _ _ ((Option.some FieldType.int)) am_J137 0 [some (.ref 114), some (.int (nI p)), some (.int (nI 2)), some (.int c), none] [] (am_L0 q, G) _
          simp only [am_s137_0, am_s137_1, am_s137_4, am_s137_5, am_s137_6, am_s137_8, am_s137_11, am_s137_14, am_s137_15, am_s137_16, am_s137_19, am_s137_20, am_s137_21, am_s137_24, am_s137_27, am_s137_30, am_s137_31, am_s137_32, am_s137_35, am_s137_36, am_s137_37, am_s137_39, am_s137_42, am_s137_45, am_s137_46, am_s137_49, am_s137_50, am_s137_52, am_s137_53, am_s137_54, am_s137_57, am_s137_60, am_s137_62, am_s137_65, am_s137_66, am_s137_68, am_s137_69, am_s137_70, am_s137_71, am_s137_72, am_s137_73, am_s137_74, am_s137_75, am_s137_76, am_s137_77, am_s137_80, am_s137_83, am_s137_84, am_s137_86, am_s137_89, am_cal_ok am_cat_0 am_v114 (am_y132 (D := 97) h8 hn _), h1, h3, e20, e21, e22, am_cal_ok am_cat_0 am_v114 (am_d1 (D := 98)), am_cal_ok am_cat_0 am_v114 (am_d2 (D := 98)), am_cal_ok am_cat_0 am_v114 (am_d3 (D := 98)), am_cal_ok am_cat_0 am_v114 (am_d4 (D := 98)), am_cal_ok am_cat_0 am_v114 (am_d5 (D := 98)), am_cal_ok am_cat_0 am_rcv_f (am_y125 _ _), am_cal_ok am_cat_0 am_rcv_f (am_m183 (D := 97) _), am_bI0, am_f114_0, am_er_f, am_sy_f, Bool.false_and, Bool.and_false, reduceCtorEq, not_false_eq_true, not_true_eq_false, eq_self, am_os_some, Option.toList_some, Option.toList_none, List.cons_append, List.nil_append, if_true, if_false, true_and, am_nw1_i, am_nw1_r, am_nw1_n, cond_true]
      | true =>
        rw [if_neg (by decide)]
        intro N xs q G hc
        have hn : G 115 2 = nI (s.1.1 13 0) := hc.1.1.2.1
        have cc : c = nI c.toNatClampNeg := by
          match w, b1, h3 with
          | 0, _, h3 => rw [m0] at h3; exact (am_wi_nI (n := 15) (by decide) h3).2
          | 1, _, h3 => rw [m1] at h3; exact (am_wi_nI (n := 999) (by decide) h3).2
          | 2, _, h3 => rw [m2] at h3; exact (am_wi_nI (n := 99) (by decide) h3).2
        generalize c.toNatClampNeg = v at cc
        subst cc
        have kk := hc.1.1.2.2.1 p (2 + w) p8 (by omega)
        have ix : 7 + 5 * p + (2 + w) = 7 + 5 * p + 2 + w := by omega
        have fr : ∀ i j, i ≠ 115 → am_up G 115 (7 + 5 * p + (2 + w)) (nI v) i j = G i j := fun i j h => by rw [am_up_get, if_neg h]
        have g134 := am_m134 (X := am_X0 N xs) (D := 98) (q := q) (G := G) (v := nI v) (show 7 + 5 * p + 2 + w < 281 by omega)
        rw [← ix, kk] at g134
        rw [ix] at g134
        have a2 : nI (7 + 5 * p) + 2 = nI (7 + 5 * p + 2) := nI_add (7 + 5 * p) 2
        refine ⟨am_up G 115 (7 + 5 * p + (2 + w)) (nI v), fun i j hi => fr i j (by omega), am_rfl_W hc (fun i j _ h _ _ _ _ _ => fr i j h) (by rw [am_up_row]; exact am_rw8_S hc.1 (am_rk_up (by omega)) (am_rp_up hc.1.1 (by omega) p8)), am_CD_of (M := am_N137) rfl rfl ?_⟩
        rw [ix]
        show am_Rn _ _ ((Option.some FieldType.int)) am_J137 0 [some (.ref 114), some (.int (nI p)), some (.int (nI w)), some (.int (nI v)), none] [] (am_L0 q, G) _
        match w, b1, h3, g134 with
        | 0, _, h3, g134 =>
          rw [m0] at h3
          have a3 : nI (7 + 5 * p + 2) + nI 0 = nI (7 + 5 * p + 2 + 0) := nI_add _ _
          simp only [am_s137_0, am_s137_1, am_s137_4, am_s137_5, am_s137_6, am_s137_8, am_s137_11, am_s137_14, am_s137_15, am_s137_16, am_s137_19, am_s137_20, am_s137_21, am_s137_24, am_s137_27, am_s137_30, am_s137_31, am_s137_32, am_s137_35, am_s137_36, am_s137_37, am_s137_39, am_s137_42, am_s137_45, am_s137_46, am_s137_49, am_s137_50, am_s137_52, am_s137_53, am_s137_54, am_s137_57, am_s137_60, am_s137_62, am_s137_65, am_s137_66, am_s137_68, am_s137_69, am_s137_70, am_s137_71, am_s137_72, am_s137_73, am_s137_74, am_s137_75, am_s137_76, am_s137_77, am_s137_80, am_s137_83, am_s137_84, am_s137_86, am_s137_89, am_cal_ok am_cat_0 am_v114 (am_y132 (D := 97) h8 hn _), h1, h3, n00, am_mul5, am_ad7, a2, a3, am_cal_ok am_cat_0 am_v114 (g134), am_cal_ok am_cat_0 am_v114 (am_d1 (D := 98)), am_cal_ok am_cat_0 am_v114 (am_d2 (D := 98)), am_cal_ok am_cat_0 am_v114 (am_d3 (D := 98)), am_cal_ok am_cat_0 am_v114 (am_d4 (D := 98)), am_cal_ok am_cat_0 am_v114 (am_d5 (D := 98)), am_cal_ok am_cat_0 am_rcv_f (am_y125 _ _), am_cal_ok am_cat_0 am_rcv_f (am_m183 (D := 97) _), am_bI0, am_f114_0, am_er_f, am_sy_f, Bool.false_and, Bool.and_false, reduceCtorEq, not_false_eq_true, not_true_eq_false, eq_self, am_os_some, Option.toList_some, Option.toList_none, List.cons_append, List.nil_append, if_true, if_false, true_and, am_nw1_i, am_nw1_r, am_nw1_n, cond_true]
        | 1, _, h3, g134 =>
          rw [m1] at h3
          have a3 : nI (7 + 5 * p + 2) + nI 1 = nI (7 + 5 * p + 2 + 1) := nI_add _ _
          simp only [am_s137_0, am_s137_1, am_s137_4, am_s137_5, am_s137_6, am_s137_8, am_s137_11, am_s137_14, am_s137_15, am_s137_16, am_s137_19, am_s137_20, am_s137_21, am_s137_24, am_s137_27, am_s137_30, am_s137_31, am_s137_32, am_s137_35, am_s137_36, am_s137_37, am_s137_39, am_s137_42, am_s137_45, am_s137_46, am_s137_49, am_s137_50, am_s137_52, am_s137_53, am_s137_54, am_s137_57, am_s137_60, am_s137_62, am_s137_65, am_s137_66, am_s137_68, am_s137_69, am_s137_70, am_s137_71, am_s137_72, am_s137_73, am_s137_74, am_s137_75, am_s137_76, am_s137_77, am_s137_80, am_s137_83, am_s137_84, am_s137_86, am_s137_89, am_cal_ok am_cat_0 am_v114 (am_y132 (D := 97) h8 hn _), h1, h3, n10, n11, am_mul5, am_ad7, a2, a3, am_cal_ok am_cat_0 am_v114 (g134), am_cal_ok am_cat_0 am_v114 (am_d1 (D := 98)), am_cal_ok am_cat_0 am_v114 (am_d2 (D := 98)), am_cal_ok am_cat_0 am_v114 (am_d3 (D := 98)), am_cal_ok am_cat_0 am_v114 (am_d4 (D := 98)), am_cal_ok am_cat_0 am_v114 (am_d5 (D := 98)), am_cal_ok am_cat_0 am_rcv_f (am_y125 _ _), am_cal_ok am_cat_0 am_rcv_f (am_m183 (D := 97) _), am_bI0, am_f114_0, am_er_f, am_sy_f, Bool.false_and, Bool.and_false, reduceCtorEq, not_false_eq_true, not_true_eq_false, eq_self, am_os_some, Option.toList_some, Option.toList_none, List.cons_append, List.nil_append, if_true, if_false, true_and, am_nw1_i, am_nw1_r, am_nw1_n, cond_true]
        | 2, _, h3, g134 =>
          rw [m2] at h3
          have a3 : nI (7 + 5 * p + 2) + nI 2 = nI (7 + 5 * p + 2 + 2) := nI_add _ _
          simp only [am_s137_0, am_s137_1, am_s137_4, am_s137_5, am_s137_6, am_s137_8, am_s137_11, am_s137_14, am_s137_15, am_s137_16, am_s137_19, am_s137_20, am_s137_21, am_s137_24, am_s137_27, am_s137_30, am_s137_31, am_s137_32, am_s137_35, am_s137_36, am_s137_37, am_s137_39, am_s137_42, am_s137_45, am_s137_46, am_s137_49, am_s137_50, am_s137_52, am_s137_53, am_s137_54, am_s137_57, am_s137_60, am_s137_62, am_s137_65, am_s137_66, am_s137_68, am_s137_69, am_s137_70, am_s137_71, am_s137_72, am_s137_73, am_s137_74, am_s137_75, am_s137_76, am_s137_77, am_s137_80, am_s137_83, am_s137_84, am_s137_86, am_s137_89, am_cal_ok am_cat_0 am_v114 (am_y132 (D := 97) h8 hn _), h1, h3, e20, e21, e22, e10, am_mul5, am_ad7, a2, a3, am_cal_ok am_cat_0 am_v114 (g134), am_cal_ok am_cat_0 am_v114 (am_d1 (D := 98)), am_cal_ok am_cat_0 am_v114 (am_d2 (D := 98)), am_cal_ok am_cat_0 am_v114 (am_d3 (D := 98)), am_cal_ok am_cat_0 am_v114 (am_d4 (D := 98)), am_cal_ok am_cat_0 am_v114 (am_d5 (D := 98)), am_cal_ok am_cat_0 am_rcv_f (am_y125 _ _), am_cal_ok am_cat_0 am_rcv_f (am_m183 (D := 97) _), am_bI0, am_f114_0, am_er_f, am_sy_f, Bool.false_and, Bool.and_false, reduceCtorEq, not_false_eq_true, not_true_eq_false, eq_self, am_os_some, Option.toList_some, Option.toList_none, List.cons_append, List.nil_append, if_true, if_false, true_and, am_nw1_i, am_nw1_r, am_nw1_n, cond_true]
/-- as -/
theorem am_l143 {p a b : Nat} (ha : a ≤ 6) (hb : b ≤ 6) (o : Option Value × am_M) : am_Rn X 99 (some .int) am_J143 32 [some (.ref 114), some (.int (nI p)), some (.int (nI b)), some (.int (nI a))] [] (am_L0 q, G) o = am_Rn X 99 (some .int) am_J143 49 [some (.ref 114), some (.int (nI p)), some (.int (nI b)), some (.int (if am_und a b = true then nI b else -1))] [] (am_L0 q, G) o := by
  have hs : ∀ c, c ≤ 6 → am_Rn X 99 (some .int) am_J143 32 [some (.ref 114), some (.int (nI p)), some (.int (nI b)), some (.int (nI c))] [] (am_L0 q, G) o = if c = b then am_Rn X 99 (some .int) am_J143 49 [some (.ref 114), some (.int (nI p)), some (.int (nI b)), some (.int (nI c))] [] (am_L0 q, G) o else am_Rn X 99 (some .int) am_J143 32 [some (.ref 114), some (.int (nI p)), some (.int (nI b)), some (.int (am_above c))] [] (am_L0 q, G) o := by
    intro c hc
    have h1 : ¬ nI c < 0 := nI_pos (by omega)
    have h4 : (nI c = nI b) = (c = b) := propext (nI_eq (by omega) (by omega))
    by_cases e : c = b
    · rw [if_pos e]
      subst e
      simp only [am_s143_32, am_s143_33, am_s143_36, am_s143_37, am_s143_38, am_s143_41, am_s143_42, am_s143_45, h1, not_true_eq_false, eq_self, am_os_some, Option.toList_some, Option.toList_none, List.cons_append, List.nil_append, if_true, if_false, true_and, am_nw1_i, am_nw1_r, am_nw1_n, cond_true]
    · rw [if_neg e]
      refine Eq.trans ?_ am_s143_46
      simp only [am_s143_32, am_s143_33, am_s143_36, am_s143_37, am_s143_38, am_s143_41, am_s143_42, am_s143_45, h1, h4, e, am_cal_ok am_cat_0 am_rcv_f (am_m142 (D := 98) hc), not_false_eq_true, eq_self, am_os_some, Option.toList_some, Option.toList_none, List.cons_append, List.nil_append, if_true, if_false, true_and, am_nw1_i, am_nw1_r, am_nw1_n, cond_true]
  have he : am_Rn X 99 (some .int) am_J143 32 [some (.ref 114), some (.int (nI p)), some (.int (nI b)), some (.int (-1))] [] (am_L0 q, G) o = am_Rn X 99 (some .int) am_J143 49 [some (.ref 114), some (.int (nI p)), some (.int (nI b)), some (.int (-1))] [] (am_L0 q, G) o := by
    have h3 : ((-1 : Int32) < 0) = True := by decide
    simp only [am_s143_32, am_s143_33, h3, eq_self, am_os_some, Option.toList_some, Option.toList_none, List.cons_append, List.nil_append, if_true, if_false, true_and, am_nw1_i, am_nw1_r, am_nw1_n, cond_true]
  match a, ha with
  | 0, _ =>
    rw [hs 0 (by decide)]
    by_cases e0 : 0 = b
    · subst e0; simp [am_und]
    · rw [if_neg e0, show am_above 0 = -1 from rfl, he]
      have hu : am_und 0 b = false := by unfold am_und; simp [Ne.symm e0]
      rw [hu]; rfl
  | 1, _ =>
    rw [hs 1 (by decide)]
    by_cases e0 : 1 = b
    · subst e0; simp [am_und]
    · rw [if_neg e0, show am_above 1 = nI 0 from rfl, hs 0 (by decide)]
      by_cases e1 : 0 = b
      · subst e1; simp [am_und]
      · rw [if_neg e1, show am_above 0 = -1 from rfl, he]
        have hu : am_und 1 b = false := by unfold am_und; simp [Ne.symm e0, Ne.symm e1]
        rw [hu]; rfl
  | 2, _ =>
    rw [hs 2 (by decide)]
    by_cases e0 : 2 = b
    · subst e0; simp [am_und]
    · rw [if_neg e0, show am_above 2 = nI 0 from rfl, hs 0 (by decide)]
      by_cases e1 : 0 = b
      · subst e1; simp [am_und]
      · rw [if_neg e1, show am_above 0 = -1 from rfl, he]
        have hu : am_und 2 b = false := by unfold am_und; simp [Ne.symm e0, Ne.symm e1]
        rw [hu]; rfl
  | 3, _ =>
    rw [hs 3 (by decide)]
    by_cases e0 : 3 = b
    · subst e0; simp [am_und]
    · rw [if_neg e0, show am_above 3 = nI 0 from rfl, hs 0 (by decide)]
      by_cases e1 : 0 = b
      · subst e1; simp [am_und]
      · rw [if_neg e1, show am_above 0 = -1 from rfl, he]
        have hu : am_und 3 b = false := by unfold am_und; simp [Ne.symm e0, Ne.symm e1]
        rw [hu]; rfl
  | 4, _ =>
    rw [hs 4 (by decide)]
    by_cases e0 : 4 = b
    · subst e0; simp [am_und]
    · rw [if_neg e0, show am_above 4 = nI 1 from rfl, hs 1 (by decide)]
      by_cases e1 : 1 = b
      · subst e1; simp [am_und]
      · rw [if_neg e1, show am_above 1 = nI 0 from rfl, hs 0 (by decide)]
        by_cases e2 : 0 = b
        · subst e2; simp [am_und]
        · rw [if_neg e2, show am_above 0 = -1 from rfl, he]
          have hu : am_und 4 b = false := by unfold am_und; simp [Ne.symm e0, Ne.symm e1, Ne.symm e2]
          rw [hu]; rfl
  | 5, _ =>
    rw [hs 5 (by decide)]
    by_cases e0 : 5 = b
    · subst e0; simp [am_und]
    · rw [if_neg e0, show am_above 5 = nI 2 from rfl, hs 2 (by decide)]
      by_cases e1 : 2 = b
      · subst e1; simp [am_und]
      · rw [if_neg e1, show am_above 2 = nI 0 from rfl, hs 0 (by decide)]
        by_cases e2 : 0 = b
        · subst e2; simp [am_und]
        · rw [if_neg e2, show am_above 0 = -1 from rfl, he]
          have hu : am_und 5 b = false := by unfold am_und; simp [Ne.symm e0, Ne.symm e1, Ne.symm e2]
          rw [hu]; rfl
  | 6, _ =>
    rw [hs 6 (by decide)]
    by_cases e0 : 6 = b
    · subst e0; simp [am_und]
    · rw [if_neg e0, show am_above 6 = nI 3 from rfl, hs 3 (by decide)]
      by_cases e1 : 3 = b
      · subst e1; simp [am_und]
      · rw [if_neg e1, show am_above 3 = nI 0 from rfl, hs 0 (by decide)]
        by_cases e2 : 0 = b
        · subst e2; simp [am_und]
        · rw [if_neg e2, show am_above 0 = -1 from rfl, he]
          have hu : am_und 6 b = false := by unfold am_und; simp [Ne.symm e0, Ne.symm e1, Ne.symm e2]
          rw [hu]; rfl
theorem am_r143 {a b : Int32} {s : am_St} (hs : am_oks s) : am_rO 143 [.int a, .int b] s (am_O87 a b s) := by
  unfold am_O87
  have h8 := hs.1.1.1
  cases h1 : am_ip (s.1.1 13 0) a with
  | false =>
    refine am_rO_err (k := 1) (r := -1000000001) (by decide) am_ec1.symm fun X q G hc => am_CD_of (M := am_N143) rfl rfl ?_
    have hn : G 115 2 = nI (s.1.1 13 0) := hc.1.1.2.1
    show am_Rn _ _ ((Option.some FieldType.int)) am_J143 0 [some (.ref 114), some (.int a), some (.int b), none] [] (am_L0 q, G) _
    simp only [am_s143_0, am_s143_1, am_s143_2, am_s143_5, am_s143_8, am_s143_9, am_s143_10, am_s143_12, am_s143_15, am_s143_18, am_s143_19, am_s143_21, am_s143_24, am_s143_25, am_s143_26, am_s143_27, am_s143_28, am_s143_31, am_cal_ok am_cat_0 am_v114 (am_y132 (D := 97) h8 hn _), h1, am_cal_ok am_cat_0 am_v114 (am_d1 (D := 98)), am_cal_ok am_cat_0 am_v114 (am_d2 (D := 98)), am_cal_ok am_cat_0 am_v114 (am_d3 (D := 98)), am_cal_ok am_cat_0 am_v114 (am_d4 (D := 98)), am_cal_ok am_cat_0 am_v114 (am_d5 (D := 98)), am_cal_ok am_cat_0 am_rcv_f (am_y125 _ _), am_cal_ok am_cat_0 am_rcv_f (am_m183 (D := 97) _), am_bI0, am_f114_0, am_er_f, am_sy_f, Bool.false_and, Bool.and_false, reduceCtorEq, not_false_eq_true, not_true_eq_false, eq_self, am_os_some, Option.toList_some, Option.toList_none, List.cons_append, List.nil_append, if_true, if_false, true_and, am_nw1_i, am_nw1_r, am_nw1_n, cond_true]
  | true =>
    cases h2 : am_wi b 6 with
    | false =>
      refine am_rO_err (k := 1) (r := -1000000001) (by decide) am_ec1.symm fun X q G hc => am_CD_of (M := am_N143) rfl rfl ?_
      have hn : G 115 2 = nI (s.1.1 13 0) := hc.1.1.2.1
      show am_Rn _ _ ((Option.some FieldType.int)) am_J143 0 [some (.ref 114), some (.int a), some (.int b), none] [] (am_L0 q, G) _
      simp only [am_s143_0, am_s143_1, am_s143_2, am_s143_5, am_s143_8, am_s143_9, am_s143_10, am_s143_12, am_s143_15, am_s143_18, am_s143_19, am_s143_21, am_s143_24, am_s143_25, am_s143_26, am_s143_27, am_s143_28, am_s143_31, am_cal_ok am_cat_0 am_v114 (am_y132 (D := 97) h8 hn _), h1, h2, am_cal_ok am_cat_0 am_v114 (am_d1 (D := 98)), am_cal_ok am_cat_0 am_v114 (am_d2 (D := 98)), am_cal_ok am_cat_0 am_v114 (am_d3 (D := 98)), am_cal_ok am_cat_0 am_v114 (am_d4 (D := 98)), am_cal_ok am_cat_0 am_v114 (am_d5 (D := 98)), am_cal_ok am_cat_0 am_rcv_f (am_y125 _ _), am_cal_ok am_cat_0 am_rcv_f (am_m183 (D := 97) _), am_bI0, am_f114_0, am_er_f, am_sy_f, Bool.false_and, Bool.and_false, reduceCtorEq, not_false_eq_true, not_true_eq_false, eq_self, am_os_some, Option.toList_some, Option.toList_none, List.cons_append, List.nil_append, if_true, if_false, true_and, am_nw1_i, am_nw1_r, am_nw1_n, cond_true]
    | true =>
      rw [if_neg (by decide)]
      obtain ⟨a1, a2⟩ := am_ip_nI h8 h1
      obtain ⟨b1, b2⟩ := am_wi_nI (n := 6) (by decide) h2
      generalize a.toNatClampNeg = p at a1 a2
      generalize b.toNatClampNeg = r at b1 b2
      subst a2 b2
      have p8 : p < 8 := by omega
      have w0 := (hs.1.1.2.1 p p8).1
      cases h3 : am_und (s.1.1 0 p) r with
      | false =>
        rw [if_pos rfl]
        refine am_rO_err (k := 5) (r := -1000000005) (by decide) am_ec5.symm fun X q G hc => am_CD_of (M := am_N143) rfl rfl ?_
        have hn : G 115 2 = nI (s.1.1 13 0) := hc.1.1.2.1
        have k0 : G 115 (7 + 5 * p + 0) = nI (s.1.1 0 p) := hc.1.1.2.2.1 p 0 p8 (by decide)
        show am_Rn _ _ ((Option.some FieldType.int)) am_J143 0 [some (.ref 114), some (.int (nI p)), some (.int (nI r)), none] [] (am_L0 q, G) _
        simp only [am_s143_0, am_s143_1, am_s143_2, am_s143_5, am_s143_8, am_s143_9, am_s143_10, am_s143_12, am_s143_15, am_s143_18, am_s143_19, am_s143_21, am_s143_24, am_s143_25, am_s143_26, am_s143_27, am_s143_28, am_s143_31, am_cal_ok am_cat_0 am_v114 (am_y132 (D := 97) h8 hn _), h1, h2, am_cal_ok am_cat_0 am_v114 (am_i130_0 (D := 98) p8), k0, am_cal_ok am_cat_0 am_v114 (am_d1 (D := 98)), am_cal_ok am_cat_0 am_v114 (am_d2 (D := 98)), am_cal_ok am_cat_0 am_v114 (am_d3 (D := 98)), am_cal_ok am_cat_0 am_v114 (am_d4 (D := 98)), am_cal_ok am_cat_0 am_v114 (am_d5 (D := 98)), am_cal_ok am_cat_0 am_rcv_f (am_y125 _ _), am_cal_ok am_cat_0 am_rcv_f (am_m183 (D := 97) _), am_bI0, am_f114_0, am_er_f, am_sy_f, Bool.false_and, Bool.and_false, reduceCtorEq, not_false_eq_true, not_true_eq_false, eq_self, am_os_some, Option.toList_some, Option.toList_none, List.cons_append, List.nil_append, if_true, if_false, true_and, am_nw1_i, am_nw1_r, am_nw1_n, cond_true]
        rw [am_l143 w0 b1, h3]
        have h5 : ((-1 : Int32) < 0) = True := by decide
        simp only [am_s143_49, am_s143_50, am_s143_53, am_s143_54, am_s143_56, am_s143_59, am_s143_62, am_s143_63, am_s143_64, am_s143_65, am_s143_68, h5, am_cal_ok am_cat_0 am_v114 (am_d1 (D := 98)), am_cal_ok am_cat_0 am_v114 (am_d2 (D := 98)), am_cal_ok am_cat_0 am_v114 (am_d3 (D := 98)), am_cal_ok am_cat_0 am_v114 (am_d4 (D := 98)), am_cal_ok am_cat_0 am_v114 (am_d5 (D := 98)), am_cal_ok am_cat_0 am_rcv_f (am_y125 _ _), am_cal_ok am_cat_0 am_rcv_f (am_m183 (D := 97) _), am_bI0, am_f114_0, am_er_f, am_sy_f, Bool.false_and, Bool.and_false, reduceCtorEq, not_false_eq_true, not_true_eq_false, eq_self, am_os_some, Option.toList_some, Option.toList_none, List.cons_append, List.nil_append, if_true, if_false, true_and, am_nw1_i, am_nw1_r, am_nw1_n, cond_true]
      | true =>
        rw [if_neg (by decide)]
        refine am_rO_same fun N xs q G hc => ?_
        have hn : G 115 2 = nI (s.1.1 13 0) := hc.1.1.2.1
        have k0 : G 115 (7 + 5 * p + 0) = nI (s.1.1 0 p) := hc.1.1.2.2.1 p 0 p8 (by decide)
        have k1 : G 115 (7 + 5 * p + 1) = nI (s.1.1 1 p) := hc.1.1.2.2.1 p 1 p8 (by decide)
        refine ⟨G, fun _ _ _ => rfl, fun _ _ _ _ _ _ _ _ => rfl, am_CD_of (M := am_N143) rfl rfl ?_⟩
        show am_Rn _ _ ((Option.some FieldType.int)) am_J143 0 [some (.ref 114), some (.int (nI p)), some (.int (nI r)), none] [] (am_L0 q, G) _
        simp only [am_s143_0, am_s143_1, am_s143_2, am_s143_5, am_s143_8, am_s143_9, am_s143_10, am_s143_12, am_s143_15, am_s143_18, am_s143_19, am_s143_21, am_s143_24, am_s143_25, am_s143_26, am_s143_27, am_s143_28, am_s143_31, am_cal_ok am_cat_0 am_v114 (am_y132 (D := 97) h8 hn _), h1, h2, am_cal_ok am_cat_0 am_v114 (am_i130_0 (D := 98) p8), k0, am_cal_ok am_cat_0 am_v114 (am_d1 (D := 98)), am_cal_ok am_cat_0 am_v114 (am_d2 (D := 98)), am_cal_ok am_cat_0 am_v114 (am_d3 (D := 98)), am_cal_ok am_cat_0 am_v114 (am_d4 (D := 98)), am_cal_ok am_cat_0 am_v114 (am_d5 (D := 98)), am_cal_ok am_cat_0 am_rcv_f (am_y125 _ _), am_cal_ok am_cat_0 am_rcv_f (am_m183 (D := 97) _), am_bI0, am_f114_0, am_er_f, am_sy_f, Bool.false_and, Bool.and_false, reduceCtorEq, not_false_eq_true, not_true_eq_false, eq_self, am_os_some, Option.toList_some, Option.toList_none, List.cons_append, List.nil_append, if_true, if_false, true_and, am_nw1_i, am_nw1_r, am_nw1_n, cond_true]
        rw [am_l143 w0 b1, h3, if_pos rfl]
        have h5 : ¬ nI r < 0 := nI_pos (by omega)
        simp only [am_s143_49, am_s143_50, am_s143_53, am_s143_54, am_s143_56, am_s143_59, am_s143_62, am_s143_63, am_s143_64, am_s143_65, am_s143_68, h5, am_cal_ok am_cat_0 am_v114 (am_i130_1 (D := 98) p8), k1, am_cal_ok am_cat_0 am_v114 (am_d1 (D := 98)), am_cal_ok am_cat_0 am_v114 (am_d2 (D := 98)), am_cal_ok am_cat_0 am_v114 (am_d3 (D := 98)), am_cal_ok am_cat_0 am_v114 (am_d4 (D := 98)), am_cal_ok am_cat_0 am_v114 (am_d5 (D := 98)), am_cal_ok am_cat_0 am_rcv_f (am_y125 _ _), am_cal_ok am_cat_0 am_rcv_f (am_m183 (D := 97) _), am_bI0, am_f114_0, am_er_f, am_sy_f, Bool.false_and, Bool.and_false, reduceCtorEq, not_false_eq_true, not_true_eq_false, eq_self, am_os_some, Option.toList_some, Option.toList_none, List.cons_append, List.nil_append, if_true, if_false, true_and, am_nw1_i, am_nw1_r, am_nw1_n, cond_true]
/-- fills, drinks -/
theorem am_m160 (hp : am_rp (G 115) S) (hw : am_wf S) {p : Nat} (p8 : p < 8) : am_CD X (D + 2) 160 [.ref 114, .int (nI p)] (am_L0 q, G) = some (some (.int (nI (am_fil (S 0 p) (S 1 p)))), (am_L0 q, G)) := by
  have k0 : G 115 (7 + 5 * p + 0) = nI (S 0 p) := hp.2.2.1 p 0 p8 (by decide)
  have k1 : G 115 (7 + 5 * p + 1) = nI (S 1 p) := hp.2.2.1 p 1 p8 (by decide)
  obtain ⟨w0, w1, -⟩ := hw.2.1 p p8
  generalize S 0 p = k at k0 w0
  generalize S 1 p = m at k1 w1
  have h3 : nI m - nI m / 3 * 3 = nI (m % 3) := pk_rem (d := 3) (by omega) (by decide) (by decide)
  have h4 : (3 : Int32) + nI (m % 3) = nI (3 + m % 3) := nI_add 3 _
  have h5 : (8 : Int32) + nI (m % 3) = nI (8 + m % 3) := nI_add 8 _
  have h9 : (9 : Int32) - nI m = nI (9 - m) := am_sub (a := 9) (by omega)
  have e30 : ((3 : Int32) = 0) = False := by decide
  refine am_CD_of (M := am_N160) rfl rfl ?_
  show am_Rn _ _ ((Option.some FieldType.int)) am_J160 0 [some (.ref 114), some (.int (nI p)), none] [] (am_L0 q, G) _
  match k, w0 with
  | 0, _ =>
    have e : am_tsw 13 63 1 6 #[39, 52, 55, 45, 63, 58] (nI 0) = some 76 := by decide +kernel
    simp only [am_s160_0, am_s160_1, am_s160_2, am_s160_3, am_s160_6, am_s160_7, am_s160_8, am_s160_9, am_s160_10, am_s160_13, am_s160_52, am_s160_53, am_s160_54, am_s160_55, am_s160_56, am_s160_57, am_s160_58, am_s160_60, am_s160_61, am_s160_62, am_s160_63, am_s160_64, am_s160_65, am_s160_67, am_s160_68, am_s160_70, am_s160_71, am_s160_73, am_s160_74, am_s160_75, am_s160_76, am_s160_77, am_cal_ok am_cat_0 am_v114 (am_i130_0 (D := D) p8), am_cal_ok am_cat_0 am_v114 (am_i130_1 (D := D) p8), k0, k1, e, e30, h3, h4, h5, h9, am_cal_ok am_cat_0 am_v114 (am_d1 (D := 98)), am_cal_ok am_cat_0 am_v114 (am_d2 (D := 98)), am_cal_ok am_cat_0 am_v114 (am_d3 (D := 98)), am_cal_ok am_cat_0 am_v114 (am_d4 (D := 98)), am_cal_ok am_cat_0 am_v114 (am_d5 (D := 98)), am_cal_ok am_cat_0 am_rcv_f (am_y125 _ _), am_cal_ok am_cat_0 am_rcv_f (am_m183 (D := 97) _), am_bI0, am_f114_0, am_er_f, am_sy_f, Bool.false_and, Bool.and_false, reduceCtorEq, not_false_eq_true, not_true_eq_false, eq_self, am_os_some, Option.toList_some, Option.toList_none, List.cons_append, List.nil_append, if_true, if_false, true_and, am_nw1_i, am_nw1_r, am_nw1_n, cond_true]; rfl
  | 1, _ =>
    have e : am_tsw 13 63 1 6 #[39, 52, 55, 45, 63, 58] (nI 1) = some 52 := by decide +kernel
    simp only [am_s160_0, am_s160_1, am_s160_2, am_s160_3, am_s160_6, am_s160_7, am_s160_8, am_s160_9, am_s160_10, am_s160_13, am_s160_52, am_s160_53, am_s160_54, am_s160_55, am_s160_56, am_s160_57, am_s160_58, am_s160_60, am_s160_61, am_s160_62, am_s160_63, am_s160_64, am_s160_65, am_s160_67, am_s160_68, am_s160_70, am_s160_71, am_s160_73, am_s160_74, am_s160_75, am_s160_76, am_s160_77, am_cal_ok am_cat_0 am_v114 (am_i130_0 (D := D) p8), am_cal_ok am_cat_0 am_v114 (am_i130_1 (D := D) p8), k0, k1, e, e30, h3, h4, h5, h9, am_cal_ok am_cat_0 am_v114 (am_d1 (D := 98)), am_cal_ok am_cat_0 am_v114 (am_d2 (D := 98)), am_cal_ok am_cat_0 am_v114 (am_d3 (D := 98)), am_cal_ok am_cat_0 am_v114 (am_d4 (D := 98)), am_cal_ok am_cat_0 am_v114 (am_d5 (D := 98)), am_cal_ok am_cat_0 am_rcv_f (am_y125 _ _), am_cal_ok am_cat_0 am_rcv_f (am_m183 (D := 97) _), am_bI0, am_f114_0, am_er_f, am_sy_f, Bool.false_and, Bool.and_false, reduceCtorEq, not_false_eq_true, not_true_eq_false, eq_self, am_os_some, Option.toList_some, Option.toList_none, List.cons_append, List.nil_append, if_true, if_false, true_and, am_nw1_i, am_nw1_r, am_nw1_n, cond_true]; rfl
  | 2, _ =>
    have e : am_tsw 13 63 1 6 #[39, 52, 55, 45, 63, 58] (nI 2) = some 65 := by decide +kernel
    simp only [am_s160_0, am_s160_1, am_s160_2, am_s160_3, am_s160_6, am_s160_7, am_s160_8, am_s160_9, am_s160_10, am_s160_13, am_s160_52, am_s160_53, am_s160_54, am_s160_55, am_s160_56, am_s160_57, am_s160_58, am_s160_60, am_s160_61, am_s160_62, am_s160_63, am_s160_64, am_s160_65, am_s160_67, am_s160_68, am_s160_70, am_s160_71, am_s160_73, am_s160_74, am_s160_75, am_s160_76, am_s160_77, am_cal_ok am_cat_0 am_v114 (am_i130_0 (D := D) p8), am_cal_ok am_cat_0 am_v114 (am_i130_1 (D := D) p8), k0, k1, e, e30, h3, h4, h5, h9, am_cal_ok am_cat_0 am_v114 (am_d1 (D := 98)), am_cal_ok am_cat_0 am_v114 (am_d2 (D := 98)), am_cal_ok am_cat_0 am_v114 (am_d3 (D := 98)), am_cal_ok am_cat_0 am_v114 (am_d4 (D := 98)), am_cal_ok am_cat_0 am_v114 (am_d5 (D := 98)), am_cal_ok am_cat_0 am_rcv_f (am_y125 _ _), am_cal_ok am_cat_0 am_rcv_f (am_m183 (D := 97) _), am_bI0, am_f114_0, am_er_f, am_sy_f, Bool.false_and, Bool.and_false, reduceCtorEq, not_false_eq_true, not_true_eq_false, eq_self, am_os_some, Option.toList_some, Option.toList_none, List.cons_append, List.nil_append, if_true, if_false, true_and, am_nw1_i, am_nw1_r, am_nw1_n, cond_true]; rfl
  | 3, _ =>
    have e : am_tsw 13 63 1 6 #[39, 52, 55, 45, 63, 58] (nI 3) = some 68 := by decide +kernel
    simp only [am_s160_0, am_s160_1, am_s160_2, am_s160_3, am_s160_6, am_s160_7, am_s160_8, am_s160_9, am_s160_10, am_s160_13, am_s160_52, am_s160_53, am_s160_54, am_s160_55, am_s160_56, am_s160_57, am_s160_58, am_s160_60, am_s160_61, am_s160_62, am_s160_63, am_s160_64, am_s160_65, am_s160_67, am_s160_68, am_s160_70, am_s160_71, am_s160_73, am_s160_74, am_s160_75, am_s160_76, am_s160_77, am_cal_ok am_cat_0 am_v114 (am_i130_0 (D := D) p8), am_cal_ok am_cat_0 am_v114 (am_i130_1 (D := D) p8), k0, k1, e, e30, h3, h4, h5, h9, am_cal_ok am_cat_0 am_v114 (am_d1 (D := 98)), am_cal_ok am_cat_0 am_v114 (am_d2 (D := 98)), am_cal_ok am_cat_0 am_v114 (am_d3 (D := 98)), am_cal_ok am_cat_0 am_v114 (am_d4 (D := 98)), am_cal_ok am_cat_0 am_v114 (am_d5 (D := 98)), am_cal_ok am_cat_0 am_rcv_f (am_y125 _ _), am_cal_ok am_cat_0 am_rcv_f (am_m183 (D := 97) _), am_bI0, am_f114_0, am_er_f, am_sy_f, Bool.false_and, Bool.and_false, reduceCtorEq, not_false_eq_true, not_true_eq_false, eq_self, am_os_some, Option.toList_some, Option.toList_none, List.cons_append, List.nil_append, if_true, if_false, true_and, am_nw1_i, am_nw1_r, am_nw1_n, cond_true]; rfl
  | 4, _ =>
    have e : am_tsw 13 63 1 6 #[39, 52, 55, 45, 63, 58] (nI 4) = some 58 := by decide +kernel
    simp only [am_s160_0, am_s160_1, am_s160_2, am_s160_3, am_s160_6, am_s160_7, am_s160_8, am_s160_9, am_s160_10, am_s160_13, am_s160_52, am_s160_53, am_s160_54, am_s160_55, am_s160_56, am_s160_57, am_s160_58, am_s160_60, am_s160_61, am_s160_62, am_s160_63, am_s160_64, am_s160_65, am_s160_67, am_s160_68, am_s160_70, am_s160_71, am_s160_73, am_s160_74, am_s160_75, am_s160_76, am_s160_77, am_cal_ok am_cat_0 am_v114 (am_i130_0 (D := D) p8), am_cal_ok am_cat_0 am_v114 (am_i130_1 (D := D) p8), k0, k1, e, e30, h3, h4, h5, h9, am_cal_ok am_cat_0 am_v114 (am_d1 (D := 98)), am_cal_ok am_cat_0 am_v114 (am_d2 (D := 98)), am_cal_ok am_cat_0 am_v114 (am_d3 (D := 98)), am_cal_ok am_cat_0 am_v114 (am_d4 (D := 98)), am_cal_ok am_cat_0 am_v114 (am_d5 (D := 98)), am_cal_ok am_cat_0 am_rcv_f (am_y125 _ _), am_cal_ok am_cat_0 am_rcv_f (am_m183 (D := 97) _), am_bI0, am_f114_0, am_er_f, am_sy_f, Bool.false_and, Bool.and_false, reduceCtorEq, not_false_eq_true, not_true_eq_false, eq_self, am_os_some, Option.toList_some, Option.toList_none, List.cons_append, List.nil_append, if_true, if_false, true_and, am_nw1_i, am_nw1_r, am_nw1_n, cond_true]; rfl
  | 5, _ =>
    have e : am_tsw 13 63 1 6 #[39, 52, 55, 45, 63, 58] (nI 5) = some 76 := by decide +kernel
    simp only [am_s160_0, am_s160_1, am_s160_2, am_s160_3, am_s160_6, am_s160_7, am_s160_8, am_s160_9, am_s160_10, am_s160_13, am_s160_52, am_s160_53, am_s160_54, am_s160_55, am_s160_56, am_s160_57, am_s160_58, am_s160_60, am_s160_61, am_s160_62, am_s160_63, am_s160_64, am_s160_65, am_s160_67, am_s160_68, am_s160_70, am_s160_71, am_s160_73, am_s160_74, am_s160_75, am_s160_76, am_s160_77, am_cal_ok am_cat_0 am_v114 (am_i130_0 (D := D) p8), am_cal_ok am_cat_0 am_v114 (am_i130_1 (D := D) p8), k0, k1, e, e30, h3, h4, h5, h9, am_cal_ok am_cat_0 am_v114 (am_d1 (D := 98)), am_cal_ok am_cat_0 am_v114 (am_d2 (D := 98)), am_cal_ok am_cat_0 am_v114 (am_d3 (D := 98)), am_cal_ok am_cat_0 am_v114 (am_d4 (D := 98)), am_cal_ok am_cat_0 am_v114 (am_d5 (D := 98)), am_cal_ok am_cat_0 am_rcv_f (am_y125 _ _), am_cal_ok am_cat_0 am_rcv_f (am_m183 (D := 97) _), am_bI0, am_f114_0, am_er_f, am_sy_f, Bool.false_and, Bool.and_false, reduceCtorEq, not_false_eq_true, not_true_eq_false, eq_self, am_os_some, Option.toList_some, Option.toList_none, List.cons_append, List.nil_append, if_true, if_false, true_and, am_nw1_i, am_nw1_r, am_nw1_n, cond_true]; rfl
  | 6, _ =>
    have e : am_tsw 13 63 1 6 #[39, 52, 55, 45, 63, 58] (nI 6) = some 71 := by decide +kernel
    simp only [am_s160_0, am_s160_1, am_s160_2, am_s160_3, am_s160_6, am_s160_7, am_s160_8, am_s160_9, am_s160_10, am_s160_13, am_s160_52, am_s160_53, am_s160_54, am_s160_55, am_s160_56, am_s160_57, am_s160_58, am_s160_60, am_s160_61, am_s160_62, am_s160_63, am_s160_64, am_s160_65, am_s160_67, am_s160_68, am_s160_70, am_s160_71, am_s160_73, am_s160_74, am_s160_75, am_s160_76, am_s160_77, am_cal_ok am_cat_0 am_v114 (am_i130_0 (D := D) p8), am_cal_ok am_cat_0 am_v114 (am_i130_1 (D := D) p8), k0, k1, e, e30, h3, h4, h5, h9, am_cal_ok am_cat_0 am_v114 (am_d1 (D := 98)), am_cal_ok am_cat_0 am_v114 (am_d2 (D := 98)), am_cal_ok am_cat_0 am_v114 (am_d3 (D := 98)), am_cal_ok am_cat_0 am_v114 (am_d4 (D := 98)), am_cal_ok am_cat_0 am_v114 (am_d5 (D := 98)), am_cal_ok am_cat_0 am_rcv_f (am_y125 _ _), am_cal_ok am_cat_0 am_rcv_f (am_m183 (D := 97) _), am_bI0, am_f114_0, am_er_f, am_sy_f, Bool.false_and, Bool.and_false, reduceCtorEq, not_false_eq_true, not_true_eq_false, eq_self, am_os_some, Option.toList_some, Option.toList_none, List.cons_append, List.nil_append, if_true, if_false, true_and, am_nw1_i, am_nw1_r, am_nw1_n, cond_true]; rfl
theorem am_m161 (hp : am_rp (G 115) S) (hw : am_wf S) {p : Nat} (p8 : p < 8) : am_CD X (D + 2) 161 [.ref 114, .int (nI p)] (am_L0 q, G) = some (some (.int (nI (am_dr (S 0 p)))), (am_L0 q, G)) := by
  have k0 : G 115 (7 + 5 * p + 0) = nI (S 0 p) := hp.2.2.1 p 0 p8 (by decide)
  obtain ⟨w0, -⟩ := hw.2.1 p p8
  generalize S 0 p = k at k0 w0
  refine am_CD_of (M := am_N161) rfl rfl ?_
  show am_Rn _ _ ((Option.some FieldType.int)) am_J161 0 [some (.ref 114), some (.int (nI p))] [] (am_L0 q, G) _
  match k, w0 with
  | 0, _ =>
    have e : am_tsw 6 34 1 4 #[30, 32, 34, 30] (nI 0) = some 40 := by decide +kernel
    simp only [am_s161_0, am_s161_1, am_s161_2, am_s161_3, am_s161_6, am_s161_36, am_s161_37, am_s161_38, am_s161_39, am_s161_40, am_s161_41, am_cal_ok am_cat_0 am_v114 (am_i130_0 (D := D) p8), k0, e, am_cal_ok am_cat_0 am_v114 (am_d1 (D := 98)), am_cal_ok am_cat_0 am_v114 (am_d2 (D := 98)), am_cal_ok am_cat_0 am_v114 (am_d3 (D := 98)), am_cal_ok am_cat_0 am_v114 (am_d4 (D := 98)), am_cal_ok am_cat_0 am_v114 (am_d5 (D := 98)), am_cal_ok am_cat_0 am_rcv_f (am_y125 _ _), am_cal_ok am_cat_0 am_rcv_f (am_m183 (D := 97) _), am_bI0, am_f114_0, am_er_f, am_sy_f, Bool.false_and, Bool.and_false, reduceCtorEq, not_false_eq_true, not_true_eq_false, eq_self, am_os_some, Option.toList_some, Option.toList_none, List.cons_append, List.nil_append, if_true, if_false, true_and, am_nw1_i, am_nw1_r, am_nw1_n, cond_true]; rfl
  | 1, _ =>
    have e : am_tsw 6 34 1 4 #[30, 32, 34, 30] (nI 1) = some 36 := by decide +kernel
    simp only [am_s161_0, am_s161_1, am_s161_2, am_s161_3, am_s161_6, am_s161_36, am_s161_37, am_s161_38, am_s161_39, am_s161_40, am_s161_41, am_cal_ok am_cat_0 am_v114 (am_i130_0 (D := D) p8), k0, e, am_cal_ok am_cat_0 am_v114 (am_d1 (D := 98)), am_cal_ok am_cat_0 am_v114 (am_d2 (D := 98)), am_cal_ok am_cat_0 am_v114 (am_d3 (D := 98)), am_cal_ok am_cat_0 am_v114 (am_d4 (D := 98)), am_cal_ok am_cat_0 am_v114 (am_d5 (D := 98)), am_cal_ok am_cat_0 am_rcv_f (am_y125 _ _), am_cal_ok am_cat_0 am_rcv_f (am_m183 (D := 97) _), am_bI0, am_f114_0, am_er_f, am_sy_f, Bool.false_and, Bool.and_false, reduceCtorEq, not_false_eq_true, not_true_eq_false, eq_self, am_os_some, Option.toList_some, Option.toList_none, List.cons_append, List.nil_append, if_true, if_false, true_and, am_nw1_i, am_nw1_r, am_nw1_n, cond_true]; rfl
  | 2, _ =>
    have e : am_tsw 6 34 1 4 #[30, 32, 34, 30] (nI 2) = some 38 := by decide +kernel
    simp only [am_s161_0, am_s161_1, am_s161_2, am_s161_3, am_s161_6, am_s161_36, am_s161_37, am_s161_38, am_s161_39, am_s161_40, am_s161_41, am_cal_ok am_cat_0 am_v114 (am_i130_0 (D := D) p8), k0, e, am_cal_ok am_cat_0 am_v114 (am_d1 (D := 98)), am_cal_ok am_cat_0 am_v114 (am_d2 (D := 98)), am_cal_ok am_cat_0 am_v114 (am_d3 (D := 98)), am_cal_ok am_cat_0 am_v114 (am_d4 (D := 98)), am_cal_ok am_cat_0 am_v114 (am_d5 (D := 98)), am_cal_ok am_cat_0 am_rcv_f (am_y125 _ _), am_cal_ok am_cat_0 am_rcv_f (am_m183 (D := 97) _), am_bI0, am_f114_0, am_er_f, am_sy_f, Bool.false_and, Bool.and_false, reduceCtorEq, not_false_eq_true, not_true_eq_false, eq_self, am_os_some, Option.toList_some, Option.toList_none, List.cons_append, List.nil_append, if_true, if_false, true_and, am_nw1_i, am_nw1_r, am_nw1_n, cond_true]; rfl
  | 3, _ =>
    have e : am_tsw 6 34 1 4 #[30, 32, 34, 30] (nI 3) = some 40 := by decide +kernel
    simp only [am_s161_0, am_s161_1, am_s161_2, am_s161_3, am_s161_6, am_s161_36, am_s161_37, am_s161_38, am_s161_39, am_s161_40, am_s161_41, am_cal_ok am_cat_0 am_v114 (am_i130_0 (D := D) p8), k0, e, am_cal_ok am_cat_0 am_v114 (am_d1 (D := 98)), am_cal_ok am_cat_0 am_v114 (am_d2 (D := 98)), am_cal_ok am_cat_0 am_v114 (am_d3 (D := 98)), am_cal_ok am_cat_0 am_v114 (am_d4 (D := 98)), am_cal_ok am_cat_0 am_v114 (am_d5 (D := 98)), am_cal_ok am_cat_0 am_rcv_f (am_y125 _ _), am_cal_ok am_cat_0 am_rcv_f (am_m183 (D := 97) _), am_bI0, am_f114_0, am_er_f, am_sy_f, Bool.false_and, Bool.and_false, reduceCtorEq, not_false_eq_true, not_true_eq_false, eq_self, am_os_some, Option.toList_some, Option.toList_none, List.cons_append, List.nil_append, if_true, if_false, true_and, am_nw1_i, am_nw1_r, am_nw1_n, cond_true]; rfl
  | 4, _ =>
    have e : am_tsw 6 34 1 4 #[30, 32, 34, 30] (nI 4) = some 36 := by decide +kernel
    simp only [am_s161_0, am_s161_1, am_s161_2, am_s161_3, am_s161_6, am_s161_36, am_s161_37, am_s161_38, am_s161_39, am_s161_40, am_s161_41, am_cal_ok am_cat_0 am_v114 (am_i130_0 (D := D) p8), k0, e, am_cal_ok am_cat_0 am_v114 (am_d1 (D := 98)), am_cal_ok am_cat_0 am_v114 (am_d2 (D := 98)), am_cal_ok am_cat_0 am_v114 (am_d3 (D := 98)), am_cal_ok am_cat_0 am_v114 (am_d4 (D := 98)), am_cal_ok am_cat_0 am_v114 (am_d5 (D := 98)), am_cal_ok am_cat_0 am_rcv_f (am_y125 _ _), am_cal_ok am_cat_0 am_rcv_f (am_m183 (D := 97) _), am_bI0, am_f114_0, am_er_f, am_sy_f, Bool.false_and, Bool.and_false, reduceCtorEq, not_false_eq_true, not_true_eq_false, eq_self, am_os_some, Option.toList_some, Option.toList_none, List.cons_append, List.nil_append, if_true, if_false, true_and, am_nw1_i, am_nw1_r, am_nw1_n, cond_true]; rfl
  | 5, _ =>
    have e : am_tsw 6 34 1 4 #[30, 32, 34, 30] (nI 5) = some 40 := by decide +kernel
    simp only [am_s161_0, am_s161_1, am_s161_2, am_s161_3, am_s161_6, am_s161_36, am_s161_37, am_s161_38, am_s161_39, am_s161_40, am_s161_41, am_cal_ok am_cat_0 am_v114 (am_i130_0 (D := D) p8), k0, e, am_cal_ok am_cat_0 am_v114 (am_d1 (D := 98)), am_cal_ok am_cat_0 am_v114 (am_d2 (D := 98)), am_cal_ok am_cat_0 am_v114 (am_d3 (D := 98)), am_cal_ok am_cat_0 am_v114 (am_d4 (D := 98)), am_cal_ok am_cat_0 am_v114 (am_d5 (D := 98)), am_cal_ok am_cat_0 am_rcv_f (am_y125 _ _), am_cal_ok am_cat_0 am_rcv_f (am_m183 (D := 97) _), am_bI0, am_f114_0, am_er_f, am_sy_f, Bool.false_and, Bool.and_false, reduceCtorEq, not_false_eq_true, not_true_eq_false, eq_self, am_os_some, Option.toList_some, Option.toList_none, List.cons_append, List.nil_append, if_true, if_false, true_and, am_nw1_i, am_nw1_r, am_nw1_n, cond_true]; rfl
  | 6, _ =>
    have e : am_tsw 6 34 1 4 #[30, 32, 34, 30] (nI 6) = some 40 := by decide +kernel
    simp only [am_s161_0, am_s161_1, am_s161_2, am_s161_3, am_s161_6, am_s161_36, am_s161_37, am_s161_38, am_s161_39, am_s161_40, am_s161_41, am_cal_ok am_cat_0 am_v114 (am_i130_0 (D := D) p8), k0, e, am_cal_ok am_cat_0 am_v114 (am_d1 (D := 98)), am_cal_ok am_cat_0 am_v114 (am_d2 (D := 98)), am_cal_ok am_cat_0 am_v114 (am_d3 (D := 98)), am_cal_ok am_cat_0 am_v114 (am_d4 (D := 98)), am_cal_ok am_cat_0 am_v114 (am_d5 (D := 98)), am_cal_ok am_cat_0 am_rcv_f (am_y125 _ _), am_cal_ok am_cat_0 am_rcv_f (am_m183 (D := 97) _), am_bI0, am_f114_0, am_er_f, am_sy_f, Bool.false_and, Bool.and_false, reduceCtorEq, not_false_eq_true, not_true_eq_false, eq_self, am_os_some, Option.toList_some, Option.toList_none, List.cons_append, List.nil_append, if_true, if_false, true_and, am_nw1_i, am_nw1_r, am_nw1_n, cond_true]; rfl
/-- seed -/
theorem am_r197 {v : Int32} {s : am_St} : am_rO 197 [.int v] s (am_O104 v s) := by
  intro N xs q G hc
  have fr : ∀ i j, i ≠ 115 → am_up G 115 1 v i j = G i j := fun i j h => by rw [am_up_get, if_neg h]
  have hz : G 115 1 = s.1.2.2.2.2.2 := hc.1.2.2.2.2.2
  have f1 : ∀ j, j ≠ 1 → am_ru (G 115) 1 v j = G 115 j := fun j h => by rw [am_ru_get, if_neg h]
  refine ⟨am_up G 115 1 v, fun i j hi => fr i j (by omega), am_rfl_W hc (fun i j _ h _ _ _ _ _ => fr i j h) ?_, am_CD_of (M := am_N197) rfl rfl ?_⟩
  · rw [am_up_row]
    obtain ⟨a1, a2, a3, ⟨a4, a5⟩, ⟨a6, a7⟩, a8⟩ := hc.1
    refine ⟨⟨by rw [f1 _ (by omega)]; exact a1.1, by rw [f1 _ (by omega)]; exact a1.2.1, fun p f hp hq => by rw [f1 _ (by omega)]; exact a1.2.2.1 p f hp hq, fun a b ha hb => by rw [f1 _ (by omega)]; exact a1.2.2.2 a b ha hb⟩, ?_, ?_, ⟨by rw [f1 _ (by omega)]; exact a4, fun j hj => by rw [f1 _ (by omega)]; exact a5 j hj⟩, ⟨by rw [f1 _ (by omega)]; exact a6, fun j hj => by rw [f1 _ (by omega)]; exact a7 j hj⟩, by rw [am_ru_get, if_pos rfl]⟩
    · rcases a2 with ⟨h1, h2⟩ | ⟨B, n, h1, h2, h3, h4⟩
      · exact Or.inl ⟨h1, by rw [f1 _ (by omega)]; exact h2⟩
      · exact Or.inr ⟨B, n, h1, by rw [f1 _ (by omega)]; exact h2, fun j hj => by rw [f1 _ (by omega)]; exact h3 j hj, h4⟩
    · rcases a3 with ⟨h1, h2⟩ | ⟨B, n, h1, h2, h3, h4⟩
      · exact Or.inl ⟨h1, by rw [f1 _ (by omega)]; exact h2⟩
      · exact Or.inr ⟨B, n, h1, by rw [f1 _ (by omega)]; exact h2, fun j hj => by rw [f1 _ (by omega)]; exact h3 j hj, h4⟩
  · show am_Rn _ _ ((Option.some FieldType.int)) am_J197 0 [some (.ref 114), some (.int v), none] [] (am_L0 q, G) _
    simp only [am_s197_0, am_s197_1, am_s197_4, am_s197_5, am_s197_6, am_s197_7, am_s197_8, am_s197_11, am_s197_12, am_s197_13, am_s197_14, am_s197_15, am_r115_1, am_w115_1, hz, am_cal_ok am_cat_0 am_v114 (am_d1 (D := 98)), am_cal_ok am_cat_0 am_v114 (am_d2 (D := 98)), am_cal_ok am_cat_0 am_v114 (am_d3 (D := 98)), am_cal_ok am_cat_0 am_v114 (am_d4 (D := 98)), am_cal_ok am_cat_0 am_v114 (am_d5 (D := 98)), am_cal_ok am_cat_0 am_rcv_f (am_y125 _ _), am_cal_ok am_cat_0 am_rcv_f (am_m183 (D := 97) _), am_bI0, am_f114_0, am_er_f, am_sy_f, Bool.false_and, Bool.and_false, reduceCtorEq, not_false_eq_true, not_true_eq_false, eq_self, am_os_some, Option.toList_some, Option.toList_none, List.cons_append, List.nil_append, if_true, if_false, true_and, am_nw1_i, am_nw1_r, am_nw1_n, cond_true]
    rfl
/-- trace, told -/
theorem am_r204 {i : Int32} {s : am_St} (hs : am_oks s) : am_rO 204 [.int i] s (am_O106 i s) := by
  unfold am_O106
  have hL := hs.2.2.1
  have hip : am_ip s.2.2.2.1.length i = (decide (¬ i < 0) && decide (i < nI s.2.2.2.1.length)) := rfl
  by_cases h : i < 0 ∨ ¬ i < nI s.2.2.2.1.length
  · rw [if_pos h]
    have h1 : am_ip s.2.2.2.1.length i = false := by
      rw [hip]
      rcases h with h | h <;> simp [h]
    refine am_rO_err (k := 2) (r := -1000000002) (by decide) am_ec2.symm fun X q G hc => am_CD_of (M := am_N204) rfl rfl ?_
    have hn : G 115 2 = nI (s.1.1 13 0) := hc.1.1.2.1
    have e25 : G 114 25 = nI s.2.2.2.1.length := hc.2.2.2.2.2.2.1.1
    show am_Rn _ _ ((Option.some FieldType.int)) am_J204 0 [some (.ref 114), some (.int i)] [] (am_L0 q, G) _
    simp only [am_s204_0, am_s204_1, am_s204_2, am_s204_3, am_s204_6, am_s204_7, am_s204_8, am_s204_11, am_s204_14, am_s204_15, am_s204_18, am_s204_19, am_s204_20, am_s204_23, am_s204_24, am_s204_26, am_s204_29, e25, am_f114_25, am_lepr (show s.2.2.2.1.length < 2 ^ 30 by omega), h1, am_cal_ok am_cat_0 am_v114 (am_d1 (D := 98)), am_cal_ok am_cat_0 am_v114 (am_d2 (D := 98)), am_cal_ok am_cat_0 am_v114 (am_d3 (D := 98)), am_cal_ok am_cat_0 am_v114 (am_d4 (D := 98)), am_cal_ok am_cat_0 am_v114 (am_d5 (D := 98)), am_cal_ok am_cat_0 am_rcv_f (am_y125 _ _), am_cal_ok am_cat_0 am_rcv_f (am_m183 (D := 97) _), am_bI0, am_f114_0, am_er_f, am_sy_f, Bool.false_and, Bool.and_false, reduceCtorEq, not_false_eq_true, not_true_eq_false, eq_self, am_os_some, Option.toList_some, Option.toList_none, List.cons_append, List.nil_append, if_true, if_false, true_and, am_nw1_i, am_nw1_r, am_nw1_n, cond_true]
  · rw [if_neg h]
    have h' : ¬ i < 0 ∧ i < nI s.2.2.2.1.length := ⟨fun e => h (Or.inl e), Decidable.not_not.mp fun e => h (Or.inr e)⟩
    have h1 : am_ip s.2.2.2.1.length i = true := by rw [hip]; simp [h'.1, h'.2]
    obtain ⟨k, hk, rfl⟩ := nI_of h'.1
    have hlt := (nI_ltI hk (by omega)).mp h'.2
    rw [nI_clamp hk]
    refine am_rO_same fun N xs q G hc => ?_
    have e25 : G 114 25 = nI s.2.2.2.1.length := hc.2.2.2.2.2.2.1.1
    have e2 := hc.2.2.2.2.2.2.1.2 k hlt
    refine ⟨G, fun _ _ _ => rfl, fun _ _ _ _ _ _ _ _ => rfl, am_CD_of (M := am_N204) rfl rfl ?_⟩
    show am_Rn _ _ ((Option.some FieldType.int)) am_J204 0 [some (.ref 114), some (.int (nI k))] [] (am_L0 q, G) _
    simp only [am_s204_0, am_s204_1, am_s204_2, am_s204_3, am_s204_6, am_s204_7, am_s204_8, am_s204_11, am_s204_14, am_s204_15, am_s204_18, am_s204_19, am_s204_20, am_s204_23, am_s204_24, am_s204_26, am_s204_29, e25, am_f114_24, am_f114_25, am_lepr (show s.2.2.2.1.length < 2 ^ 30 by omega), h1, am_a125, am_in_nI (show k < 40 by omega) (by decide), nI_clamp hk, e2, am_cal_ok am_cat_0 am_v114 (am_d1 (D := 98)), am_cal_ok am_cat_0 am_v114 (am_d2 (D := 98)), am_cal_ok am_cat_0 am_v114 (am_d3 (D := 98)), am_cal_ok am_cat_0 am_v114 (am_d4 (D := 98)), am_cal_ok am_cat_0 am_v114 (am_d5 (D := 98)), am_cal_ok am_cat_0 am_rcv_f (am_y125 _ _), am_cal_ok am_cat_0 am_rcv_f (am_m183 (D := 97) _), am_bI0, am_f114_0, am_er_f, am_sy_f, Bool.false_and, Bool.and_false, reduceCtorEq, not_false_eq_true, not_true_eq_false, eq_self, am_os_some, Option.toList_some, Option.toList_none, List.cons_append, List.nil_append, if_true, if_false, true_and, am_nw1_i, am_nw1_r, am_nw1_n, cond_true]
theorem am_r216 {k : Int32} {s : am_St} : am_rO 216 [.int k] s (am_O117 k s) := by
  unfold am_O117
  by_cases h : k < 1 ∨ ¬ k ≤ 5
  · rw [if_pos h]
    have h1 : (decide (¬ k < 1) && decide (k ≤ 5)) = false := by rcases h with h | h <;> simp [h]
    refine am_rO_err (k := 1) (r := -1000000001) (by decide) am_ec1.symm fun X q G hc => am_CD_of (M := am_N216) rfl rfl ?_
    have hn : G 115 2 = nI (s.1.1 13 0) := hc.1.1.2.1
    show am_Rn _ _ ((Option.some FieldType.int)) am_J216 0 [some (.ref 114), some (.int k)] [] (am_L0 q, G) _
    simp only [am_s216_0, am_s216_1, am_s216_2, am_s216_3, am_s216_6, am_s216_9, am_s216_10, am_s216_13, am_s216_14, am_s216_15, am_s216_18, am_s216_19, am_s216_21, am_s216_24, am_cal_ok am_cat_0 am_rcv_f (am_m125 (D := 98) _ _ _), h1, am_cal_ok am_cat_0 am_v114 (am_d1 (D := 98)), am_cal_ok am_cat_0 am_v114 (am_d2 (D := 98)), am_cal_ok am_cat_0 am_v114 (am_d3 (D := 98)), am_cal_ok am_cat_0 am_v114 (am_d4 (D := 98)), am_cal_ok am_cat_0 am_v114 (am_d5 (D := 98)), am_cal_ok am_cat_0 am_rcv_f (am_y125 _ _), am_cal_ok am_cat_0 am_rcv_f (am_m183 (D := 97) _), am_bI0, am_f114_0, am_er_f, am_sy_f, Bool.false_and, Bool.and_false, reduceCtorEq, not_false_eq_true, not_true_eq_false, eq_self, am_os_some, Option.toList_some, Option.toList_none, List.cons_append, List.nil_append, if_true, if_false, true_and, am_nw1_i, am_nw1_r, am_nw1_n, cond_true]
  · rw [if_neg h]
    have h' : ¬ k < 1 ∧ k ≤ 5 := ⟨fun e => h (Or.inl e), Decidable.not_not.mp fun e => h (Or.inr e)⟩
    have h1 : (decide (¬ k < 1) && decide (k ≤ 5)) = true := by simp [h'.1, h'.2]
    have h0 : ¬ k < 0 := fun h => h'.1 (Int32.lt_trans h (by decide))
    obtain ⟨m, hm, rfl⟩ := nI_of2 (n := 5) (by decide) h0 h'.2
    rw [nI_clamp (show m < 2 ^ 31 by omega)]
    refine am_rO_same fun N xs q G hc => ?_
    have e := hc.2.2.2.2.1 m (by omega)
    refine ⟨G, fun _ _ _ => rfl, fun _ _ _ _ _ _ _ _ => rfl, am_CD_of (M := am_N216) rfl rfl ?_⟩
    show am_Rn _ _ ((Option.some FieldType.int)) am_J216 0 [some (.ref 114), some (.int (nI m))] [] (am_L0 q, G) _
    simp only [am_s216_0, am_s216_1, am_s216_2, am_s216_3, am_s216_6, am_s216_9, am_s216_10, am_s216_13, am_s216_14, am_s216_15, am_s216_18, am_s216_19, am_s216_21, am_s216_24, am_cal_ok am_cat_0 am_rcv_f (am_m125 (D := 98) _ _ _), h1, am_f114_6, am_a119, am_in_nI (show m < 6 by omega) (by decide), nI_clamp (show m < 2 ^ 31 by omega), e, am_cal_ok am_cat_0 am_v114 (am_d1 (D := 98)), am_cal_ok am_cat_0 am_v114 (am_d2 (D := 98)), am_cal_ok am_cat_0 am_v114 (am_d3 (D := 98)), am_cal_ok am_cat_0 am_v114 (am_d4 (D := 98)), am_cal_ok am_cat_0 am_v114 (am_d5 (D := 98)), am_cal_ok am_cat_0 am_rcv_f (am_y125 _ _), am_cal_ok am_cat_0 am_rcv_f (am_m183 (D := 97) _), am_bI0, am_f114_0, am_er_f, am_sy_f, Bool.false_and, Bool.and_false, reduceCtorEq, not_false_eq_true, not_true_eq_false, eq_self, am_os_some, Option.toList_some, Option.toList_none, List.cons_append, List.nil_append, if_true, if_false, true_and, am_nw1_i, am_nw1_r, am_nw1_n, cond_true]
end AMR2
