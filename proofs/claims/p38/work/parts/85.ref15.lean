/-! THE REFERENCE: ofPerson -/
section AMRF5
variable {X : am_X} {D q : Nat}
theorem am_r136 {a b : Int32} {s : am_St} (hs : am_oks s) : am_rO 136 [.int a, .int b] s (am_O82 a b s) := by
  unfold am_O82
  have h8 := hs.1.1.1
  have hD := hs.1.2.1
  cases h1 : am_ip (s.1.1 13 0) a with
  | false =>
    refine am_rO_err (k := 1) (r := -1000000001) (by decide) am_ec1.symm fun X q G hc => am_CD_of (M := am_N136) rfl rfl ?_
    have hn : G 115 2 = nI (s.1.1 13 0) := hc.1.1.2.1
    show am_Rn _ _ ((Option.some FieldType.int)) am_J136 0 [some (.ref 114), some (.int a), some (.int b)] [] (am_L0 q, G) _
    simp only [am_s136_0, am_s136_1, am_s136_2, am_s136_5, am_s136_8, am_s136_9, am_s136_10, am_s136_12, am_s136_15, am_s136_18, am_s136_19, am_s136_21, am_s136_24, am_s136_25, am_s136_26, am_s136_52, am_s136_53, am_s136_54, am_s136_57, am_s136_58, am_s136_59, am_s136_60, am_s136_63, am_s136_64, am_s136_65, am_s136_66, am_s136_69, am_s136_72, am_s136_73, am_s136_76, am_s136_77, am_s136_78, am_s136_79, am_s136_80, am_s136_81, am_s136_84, h1, am_cal_ok am_cat_0 am_v114 (am_y132 (D := 97) h8 hn _), am_cal_ok am_cat_0 am_v114 (am_d1 (D := 98)), am_cal_ok am_cat_0 am_v114 (am_d2 (D := 98)), am_cal_ok am_cat_0 am_v114 (am_d3 (D := 98)), am_cal_ok am_cat_0 am_v114 (am_d4 (D := 98)), am_cal_ok am_cat_0 am_v114 (am_d5 (D := 98)), am_cal_ok am_cat_0 am_rcv_f (am_y125 _ _), am_cal_ok am_cat_0 am_rcv_f (am_m183 (D := 97) _), am_bI0, am_f114_0, am_er_f, am_sy_f, Bool.false_and, Bool.and_false, reduceCtorEq, not_false_eq_true, not_true_eq_false, eq_self, am_os_some, Option.toList_some, Option.toList_none, List.cons_append, List.nil_append, if_true, if_false, true_and, am_nw1_i, am_nw1_r, am_nw1_n, cond_true]
  | true =>
    cases h2 : am_wi b 7 with
    | false =>
      refine am_rO_err (k := 1) (r := -1000000001) (by decide) am_ec1.symm fun X q G hc => am_CD_of (M := am_N136) rfl rfl ?_
      have hn : G 115 2 = nI (s.1.1 13 0) := hc.1.1.2.1
      show am_Rn _ _ ((Option.some FieldType.int)) am_J136 0 [some (.ref 114), some (.int a), some (.int b)] [] (am_L0 q, G) _
      simp only [am_s136_0, am_s136_1, am_s136_2, am_s136_5, am_s136_8, am_s136_9, am_s136_10, am_s136_12, am_s136_15, am_s136_18, am_s136_19, am_s136_21, am_s136_24, am_s136_25, am_s136_26, am_s136_52, am_s136_53, am_s136_54, am_s136_57, am_s136_58, am_s136_59, am_s136_60, am_s136_63, am_s136_64, am_s136_65, am_s136_66, am_s136_69, am_s136_72, am_s136_73, am_s136_76, am_s136_77, am_s136_78, am_s136_79, am_s136_80, am_s136_81, am_s136_84, h1, h2, am_cal_ok am_cat_0 am_v114 (am_y132 (D := 97) h8 hn _), am_cal_ok am_cat_0 am_v114 (am_d1 (D := 98)), am_cal_ok am_cat_0 am_v114 (am_d2 (D := 98)), am_cal_ok am_cat_0 am_v114 (am_d3 (D := 98)), am_cal_ok am_cat_0 am_v114 (am_d4 (D := 98)), am_cal_ok am_cat_0 am_v114 (am_d5 (D := 98)), am_cal_ok am_cat_0 am_rcv_f (am_y125 _ _), am_cal_ok am_cat_0 am_rcv_f (am_m183 (D := 97) _), am_bI0, am_f114_0, am_er_f, am_sy_f, Bool.false_and, Bool.and_false, reduceCtorEq, not_false_eq_true, not_true_eq_false, eq_self, am_os_some, Option.toList_some, Option.toList_none, List.cons_append, List.nil_append, if_true, if_false, true_and, am_nw1_i, am_nw1_r, am_nw1_n, cond_true]
    | true =>
      rw [if_neg (by decide)]
      obtain ⟨a1, a2⟩ := am_ip_nI h8 h1
      obtain ⟨b1, b2⟩ := am_wi_nI (n := 7) (by decide) h2
      generalize a.toNatClampNeg = p at a1 a2
      generalize b.toNatClampNeg = w at b1 b2
      subst a2 b2
      have p8 : p < 8 := by omega
      refine am_rO_same fun N xs q G hc => ?_
      have hn : G 115 2 = nI (s.1.1 13 0) := hc.1.1.2.1
      have pre : ∀ (t : Nat) (r : Value) (G1 : am_G), am_tsw 26 52 5 7 #[26, 32, 38] (nI w) = some t → am_Rn (am_X0 N xs) 99 (some .int) am_J136 t [some (.ref 114), some (.int (nI p)), some (.int (nI w))] [] (am_L0 q, G) (some r, (am_L0 q, G1)) → am_CD (am_X0 N xs) 100 136 [.ref 114, .int (nI p), .int (nI w)] (am_L0 q, G) = some (some r, (am_L0 q, G1)) := fun t r G1 ht h => by
        refine am_CD_of (M := am_N136) rfl rfl ?_
        show am_Rn _ _ ((Option.some FieldType.int)) am_J136 0 [some (.ref 114), some (.int (nI p)), some (.int (nI w))] [] (am_L0 q, G) _
        simp only [am_s136_0, am_s136_1, am_s136_2, am_s136_5, am_s136_8, am_s136_9, am_s136_10, am_s136_12, am_s136_15, am_s136_18, am_s136_19, am_s136_21, am_s136_24, am_s136_25, am_s136_26, am_cal_ok am_cat_0 am_v114 (am_y132 (D := 97) h8 hn _), h1, h2, ht, am_cal_ok am_cat_0 am_v114 (am_d1 (D := 98)), am_cal_ok am_cat_0 am_v114 (am_d2 (D := 98)), am_cal_ok am_cat_0 am_v114 (am_d3 (D := 98)), am_cal_ok am_cat_0 am_v114 (am_d4 (D := 98)), am_cal_ok am_cat_0 am_v114 (am_d5 (D := 98)), am_cal_ok am_cat_0 am_rcv_f (am_y125 _ _), am_cal_ok am_cat_0 am_rcv_f (am_m183 (D := 97) _), am_bI0, am_f114_0, am_er_f, am_sy_f, Bool.false_and, Bool.and_false, reduceCtorEq, not_false_eq_true, not_true_eq_false, eq_self, am_os_some, Option.toList_some, Option.toList_none, List.cons_append, List.nil_append, if_true, if_false, true_and, am_nw1_i, am_nw1_r, am_nw1_n, cond_true]
        exact h
      by_cases w5 : w < 5
      · have kk := hc.1.1.2.2.1 p w p8 w5
        have g130 := am_m130 (X := am_X0 N xs) (D := 98) (q := q) (G := G) p8 w5
        rw [kk] at g130
        have ev : am_ofp s.1.1 s.1.2.1 p w = nI (s.1.1 w p) := by unfold am_ofp; rw [if_pos w5]
        rw [ev]
        have ht : am_tsw 26 52 5 7 #[26, 32, 38] (nI w) = some 78 := by
          match w, w5 with
          | 0, _ => decide +kernel
          | 1, _ => decide +kernel
          | 2, _ => decide +kernel
          | 3, _ => decide +kernel
          | 4, _ => decide +kernel
        refine ⟨G, fun _ _ _ => rfl, fun _ _ _ _ _ _ _ _ => rfl, pre 78 _ _ ht ?_⟩
        simp only [am_s136_78, am_s136_79, am_s136_80, am_s136_81, am_s136_84, am_cal_ok am_cat_0 am_v114 (g130), am_cal_ok am_cat_0 am_v114 (am_d1 (D := 98)), am_cal_ok am_cat_0 am_v114 (am_d2 (D := 98)), am_cal_ok am_cat_0 am_v114 (am_d3 (D := 98)), am_cal_ok am_cat_0 am_v114 (am_d4 (D := 98)), am_cal_ok am_cat_0 am_v114 (am_d5 (D := 98)), am_cal_ok am_cat_0 am_rcv_f (am_y125 _ _), am_cal_ok am_cat_0 am_rcv_f (am_m183 (D := 97) _), am_bI0, am_f114_0, am_er_f, am_sy_f, Bool.false_and, Bool.and_false, reduceCtorEq, not_false_eq_true, not_true_eq_false, eq_self, am_os_some, Option.toList_some, Option.toList_none, List.cons_append, List.nil_append, if_true, if_false, true_and, am_nw1_i, am_nw1_r, am_nw1_n, cond_true]
      · match w, b1, w5, pre with
        | 5, _, _, pre =>
          refine ⟨G, fun _ _ _ => rfl, fun _ _ _ _ _ _ _ _ => rfl, pre 52 _ _ (by decide +kernel) ?_⟩
          simp only [am_s136_52, am_s136_53, am_s136_54, am_s136_57, am_cal_ok am_cat_0 am_v114 (am_m160 (D := 97) hc.1.1 hs.1.1 p8), am_cal_ok am_cat_0 am_v114 (am_d1 (D := 98)), am_cal_ok am_cat_0 am_v114 (am_d2 (D := 98)), am_cal_ok am_cat_0 am_v114 (am_d3 (D := 98)), am_cal_ok am_cat_0 am_v114 (am_d4 (D := 98)), am_cal_ok am_cat_0 am_v114 (am_d5 (D := 98)), am_cal_ok am_cat_0 am_rcv_f (am_y125 _ _), am_cal_ok am_cat_0 am_rcv_f (am_m183 (D := 97) _), am_bI0, am_f114_0, am_er_f, am_sy_f, Bool.false_and, Bool.and_false, reduceCtorEq, not_false_eq_true, not_true_eq_false, eq_self, am_os_some, Option.toList_some, Option.toList_none, List.cons_append, List.nil_append, if_true, if_false, true_and, am_nw1_i, am_nw1_r, am_nw1_n, cond_true]; rfl
        | 6, _, _, pre =>
          refine ⟨G, fun _ _ _ => rfl, fun _ _ _ _ _ _ _ _ => rfl, pre 58 _ _ (by decide +kernel) ?_⟩
          simp only [am_s136_58, am_s136_59, am_s136_60, am_s136_63, am_cal_ok am_cat_0 am_v114 (am_m161 (D := 97) hc.1.1 hs.1.1 p8), am_cal_ok am_cat_0 am_v114 (am_d1 (D := 98)), am_cal_ok am_cat_0 am_v114 (am_d2 (D := 98)), am_cal_ok am_cat_0 am_v114 (am_d3 (D := 98)), am_cal_ok am_cat_0 am_v114 (am_d4 (D := 98)), am_cal_ok am_cat_0 am_v114 (am_d5 (D := 98)), am_cal_ok am_cat_0 am_rcv_f (am_y125 _ _), am_cal_ok am_cat_0 am_rcv_f (am_m183 (D := 97) _), am_bI0, am_f114_0, am_er_f, am_sy_f, Bool.false_and, Bool.and_false, reduceCtorEq, not_false_eq_true, not_true_eq_false, eq_self, am_os_some, Option.toList_some, Option.toList_none, List.cons_append, List.nil_append, if_true, if_false, true_and, am_nw1_i, am_nw1_r, am_nw1_n, cond_true]; rfl
        | 7, _, _, pre =>
          obtain ⟨G1, f1, g1⟩ := am_m163 (X := am_X0 N xs) (D := 51) (q := q) (am_rfl_rc hc) (by omega) p8
          refine ⟨G1, fun i j hi => f1 i j (by omega), fun i j _ _ _ _ _ e => f1 i j (fun e1 => by have := e e1; omega), pre 64 _ _ (by decide +kernel) ?_⟩
          have e : am_ofp s.1.1 s.1.2.1 p 7 = am_bI (am_gv s.1.2.1 s.1.1 p) := rfl
          cases hv : am_gv s.1.2.1 s.1.1 p
          all_goals
            rw [hv] at g1
            simp only [am_s136_64, am_s136_65, am_s136_66, am_s136_69, am_s136_72, am_s136_73, am_s136_76, am_s136_77, am_cal_ok am_cat_0 am_v114 (g1), e, hv, am_cal_ok am_cat_0 am_v114 (am_d1 (D := 98)), am_cal_ok am_cat_0 am_v114 (am_d2 (D := 98)), am_cal_ok am_cat_0 am_v114 (am_d3 (D := 98)), am_cal_ok am_cat_0 am_v114 (am_d4 (D := 98)), am_cal_ok am_cat_0 am_v114 (am_d5 (D := 98)), am_cal_ok am_cat_0 am_rcv_f (am_y125 _ _), am_cal_ok am_cat_0 am_rcv_f (am_m183 (D := 97) _), am_bI0, am_f114_0, am_er_f, am_sy_f, Bool.false_and, Bool.and_false, reduceCtorEq, not_false_eq_true, not_true_eq_false, eq_self, am_os_some, Option.toList_some, Option.toList_none, List.cons_append, List.nil_append, if_true, if_false, true_and, am_nw1_i, am_nw1_r, am_nw1_n, cond_true]
            rfl
end AMRF5
