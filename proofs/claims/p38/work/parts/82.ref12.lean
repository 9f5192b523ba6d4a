/-! THE REFERENCE: law; what is thought of is put back; then -/
section AMRC
variable {X : am_X} {D q : Nat} {G G1 G2 G3 : am_G}
theorem am_rback {s : am_St} (hc : am_rfl G s) (hs : am_oks s) (a1 : ∀ i j, i ≠ 117 → G1 i j = G i j) (b1 : ∀ j, j < 281 → G1 117 j = G 115 j) (f : am_frs G1 G2) (a3 : ∀ i j, i ≠ 115 → G3 i j = G2 i j) (b3 : ∀ j, j < 281 → G3 115 j = G2 117 j) : am_rfl G3 s ∧ ∀ i j, i < 114 → G3 i j = G i j :=
  ⟨am_rfl_W (W1 := s.1) hc (fun i j _ b c _ _ _ e => by rw [a3 i j b, f.1 i j (fun e1 => by have := e e1; omega) b, a1 i j c]) (am_rw8_ext hc.1 hs.1 fun j hj => by rw [b3 j hj, f.1 117 j (by omega) (by decide), b1 j hj]), fun i j hi => by rw [a3 i j (by omega), f.1 i j (by omega) (by omega), a1 i j (by omega)]⟩
theorem am_is5 : am_is4 115 := Or.inl rfl
theorem am_is7 : am_is4 117 := Or.inr (Or.inr (Or.inl rfl))
theorem am_r157 {u a b c : Int32} {s : am_St} : am_rO 157 [.int u, .int a, .int b, .int c] s (am_O90 u a b c s) := by
  unfold am_O90
  cases h1 : am_wi u 1 with
  | false =>
    refine am_rO_err (k := 1) (r := -1000000001) (by decide) am_ec1.symm fun X q G hc => am_CD_of (M := am_N157) rfl rfl ?_
    have hn : G 115 2 = nI (s.1.1 13 0) := hc.1.1.2.1
    show am_Rn _ _ ((Option.some FieldType.int)) am_J157 0 [some (.ref 114), some (.int u), some (.int a), some (.int b), some (.int c)] [] (am_L0 q, G) _
    simp only [am_s157_0, am_s157_1, am_s157_2, am_s157_3, am_s157_6, am_s157_9, am_s157_10, am_s157_11, am_s157_12, am_s157_13, am_s157_15, am_s157_18, am_s157_21, am_s157_22, am_s157_24, am_s157_27, h1, am_cal_ok am_cat_0 am_v114 (am_d1 (D := 98)), am_cal_ok am_cat_0 am_v114 (am_d2 (D := 98)), am_cal_ok am_cat_0 am_v114 (am_d3 (D := 98)), am_cal_ok am_cat_0 am_v114 (am_d4 (D := 98)), am_cal_ok am_cat_0 am_v114 (am_d5 (D := 98)), am_cal_ok am_cat_0 am_rcv_f (am_y125 _ _), am_cal_ok am_cat_0 am_rcv_f (am_m183 (D := 97) _), am_bI0, am_f114_0, am_er_f, am_sy_f, Bool.false_and, Bool.and_false, reduceCtorEq, not_false_eq_true, not_true_eq_false, eq_self, am_os_some, Option.toList_some, Option.toList_none, List.cons_append, List.nil_append, if_true, if_false, true_and, am_nw1_i, am_nw1_r, am_nw1_n, cond_true]
  | true =>
    rw [if_neg (by decide)]
    obtain ⟨a1, a2⟩ := am_wi_nI (n := 1) (by decide) h1
    generalize u.toNatClampNeg = u at a1 a2
    subst a2
    have hu : u < 2 := by omega
    refine am_rO_same fun N xs q G hc => ?_
    have hx : am_rx (G 115) u (am_lwo u s) := by
      unfold am_lwo
      match u, hu with
      | 0, _ => exact hc.1.2.1
      | 1, _ => exact hc.1.2.2.1
    obtain ⟨G', f, g⟩ := am_m156 (X := am_X0 N xs) (q := q) (a := a) (b := b) (c := c) hu hx (D := 53)
    refine ⟨G', fun i j hi => f i j (by omega), fun i j _ _ _ _ _ e => f i j (fun e1 => by have := e e1; omega), am_CD_of (M := am_N157) rfl rfl ?_⟩
    show am_Rn _ _ ((Option.some FieldType.int)) am_J157 0 [some (.ref 114), some (.int (nI u)), some (.int a), some (.int b), some (.int c)] [] (am_L0 q, G) _
    simp only [am_s157_0, am_s157_1, am_s157_2, am_s157_3, am_s157_6, am_s157_9, am_s157_10, am_s157_11, am_s157_12, am_s157_13, am_s157_15, am_s157_18, am_s157_21, am_s157_22, am_s157_24, am_s157_27, h1, am_cal_ok am_cat_0 am_v114 (g), am_cal_ok am_cat_0 am_v114 (am_d1 (D := 98)), am_cal_ok am_cat_0 am_v114 (am_d2 (D := 98)), am_cal_ok am_cat_0 am_v114 (am_d3 (D := 98)), am_cal_ok am_cat_0 am_v114 (am_d4 (D := 98)), am_cal_ok am_cat_0 am_v114 (am_d5 (D := 98)), am_cal_ok am_cat_0 am_rcv_f (am_y125 _ _), am_cal_ok am_cat_0 am_rcv_f (am_m183 (D := 97) _), am_bI0, am_f114_0, am_er_f, am_sy_f, Bool.false_and, Bool.and_false, reduceCtorEq, not_false_eq_true, not_true_eq_false, eq_self, am_os_some, Option.toList_some, Option.toList_none, List.cons_append, List.nil_append, if_true, if_false, true_and, am_nw1_i, am_nw1_r, am_nw1_n, cond_true]
theorem am_r180 {n a w : Int32} {s : am_St} (hs : am_oks s) : am_rO 180 [.int n, .int a, .int w] s (am_O94 n a w s) := by
  unfold am_O94
  have h8 := hs.1.1.1
  have hD := hs.1.2.1
  cases h1 : am_wi n 60 with
  | false =>
    refine am_rO_err (k := 1) (r := -1000000001) (by decide) am_ec1.symm fun X q G hc => am_CD_of (M := am_N180) rfl rfl ?_
    have hn : G 115 2 = nI (s.1.1 13 0) := hc.1.1.2.1
    show am_Rn _ _ ((Option.some FieldType.int)) am_J180 0 [some (.ref 114), some (.int n), some (.int a), some (.int w), none] [] (am_L0 q, G) _
    simp only [am_s180_0, am_s180_1, am_s180_2, am_s180_4, am_s180_7, am_s180_10, am_s180_11, am_s180_12, am_s180_15, am_s180_18, am_s180_19, am_s180_20, am_s180_21, am_s180_24, am_s180_27, am_s180_28, am_s180_30, am_s180_33, am_s180_34, am_s180_35, am_s180_36, am_s180_39, am_s180_40, am_s180_43, am_s180_46, am_s180_47, am_s180_48, am_s180_51, am_s180_52, am_s180_53, am_s180_54, am_s180_55, am_s180_56, am_s180_59, am_s180_61, am_s180_62, am_s180_63, am_s180_66, am_s180_67, am_s180_70, am_s180_73, am_s180_75, h1, am_cal_ok am_cat_0 am_v114 (am_d1 (D := 98)), am_cal_ok am_cat_0 am_v114 (am_d2 (D := 98)), am_cal_ok am_cat_0 am_v114 (am_d3 (D := 98)), am_cal_ok am_cat_0 am_v114 (am_d4 (D := 98)), am_cal_ok am_cat_0 am_v114 (am_d5 (D := 98)), am_cal_ok am_cat_0 am_rcv_f (am_y125 _ _), am_cal_ok am_cat_0 am_rcv_f (am_m183 (D := 97) _), am_bI0, am_f114_0, am_er_f, am_sy_f, Bool.false_and, Bool.and_false, reduceCtorEq, not_false_eq_true, not_true_eq_false, eq_self, am_os_some, Option.toList_some, Option.toList_none, List.cons_append, List.nil_append, if_true, if_false, true_and, am_nw1_i, am_nw1_r, am_nw1_n, cond_true]
  | true =>
    cases h2 : am_ip (s.1.1 13 0) a with
    | false =>
      refine am_rO_err (k := 1) (r := -1000000001) (by decide) am_ec1.symm fun X q G hc => am_CD_of (M := am_N180) rfl rfl ?_
      have hn : G 115 2 = nI (s.1.1 13 0) := hc.1.1.2.1
      show am_Rn _ _ ((Option.some FieldType.int)) am_J180 0 [some (.ref 114), some (.int n), some (.int a), some (.int w), none] [] (am_L0 q, G) _
      simp only [am_s180_0, am_s180_1, am_s180_2, am_s180_4, am_s180_7, am_s180_10, am_s180_11, am_s180_12, am_s180_15, am_s180_18, am_s180_19, am_s180_20, am_s180_21, am_s180_24, am_s180_27, am_s180_28, am_s180_30, am_s180_33, am_s180_34, am_s180_35, am_s180_36, am_s180_39, am_s180_40, am_s180_43, am_s180_46, am_s180_47, am_s180_48, am_s180_51, am_s180_52, am_s180_53, am_s180_54, am_s180_55, am_s180_56, am_s180_59, am_s180_61, am_s180_62, am_s180_63, am_s180_66, am_s180_67, am_s180_70, am_s180_73, am_s180_75, h1, h2, am_cal_ok am_cat_0 am_v114 (am_y132 (D := 97) h8 hn _), am_cal_ok am_cat_0 am_v114 (am_d1 (D := 98)), am_cal_ok am_cat_0 am_v114 (am_d2 (D := 98)), am_cal_ok am_cat_0 am_v114 (am_d3 (D := 98)), am_cal_ok am_cat_0 am_v114 (am_d4 (D := 98)), am_cal_ok am_cat_0 am_v114 (am_d5 (D := 98)), am_cal_ok am_cat_0 am_rcv_f (am_y125 _ _), am_cal_ok am_cat_0 am_rcv_f (am_m183 (D := 97) _), am_bI0, am_f114_0, am_er_f, am_sy_f, Bool.false_and, Bool.and_false, reduceCtorEq, not_false_eq_true, not_true_eq_false, eq_self, am_os_some, Option.toList_some, Option.toList_none, List.cons_append, List.nil_append, if_true, if_false, true_and, am_nw1_i, am_nw1_r, am_nw1_n, cond_true]
    | true =>
      cases h3 : am_wi w 1 with
      | false =>
        refine am_rO_err (k := 1) (r := -1000000001) (by decide) am_ec1.symm fun X q G hc => am_CD_of (M := am_N180) rfl rfl ?_
        have hn : G 115 2 = nI (s.1.1 13 0) := hc.1.1.2.1
        show am_Rn _ _ ((Option.some FieldType.int)) am_J180 0 [some (.ref 114), some (.int n), some (.int a), some (.int w), none] [] (am_L0 q, G) _
        simp only [am_s180_0, am_s180_1, am_s180_2, am_s180_4, am_s180_7, am_s180_10, am_s180_11, am_s180_12, am_s180_15, am_s180_18, am_s180_19, am_s180_20, am_s180_21, am_s180_24, am_s180_27, am_s180_28, am_s180_30, am_s180_33, am_s180_34, am_s180_35, am_s180_36, am_s180_39, am_s180_40, am_s180_43, am_s180_46, am_s180_47, am_s180_48, am_s180_51, am_s180_52, am_s180_53, am_s180_54, am_s180_55, am_s180_56, am_s180_59, am_s180_61, am_s180_62, am_s180_63, am_s180_66, am_s180_67, am_s180_70, am_s180_73, am_s180_75, h1, h2, h3, am_cal_ok am_cat_0 am_v114 (am_y132 (D := 97) h8 hn _), am_cal_ok am_cat_0 am_v114 (am_d1 (D := 98)), am_cal_ok am_cat_0 am_v114 (am_d2 (D := 98)), am_cal_ok am_cat_0 am_v114 (am_d3 (D := 98)), am_cal_ok am_cat_0 am_v114 (am_d4 (D := 98)), am_cal_ok am_cat_0 am_v114 (am_d5 (D := 98)), am_cal_ok am_cat_0 am_rcv_f (am_y125 _ _), am_cal_ok am_cat_0 am_rcv_f (am_m183 (D := 97) _), am_bI0, am_f114_0, am_er_f, am_sy_f, Bool.false_and, Bool.and_false, reduceCtorEq, not_false_eq_true, not_true_eq_false, eq_self, am_os_some, Option.toList_some, Option.toList_none, List.cons_append, List.nil_append, if_true, if_false, true_and, am_nw1_i, am_nw1_r, am_nw1_n, cond_true]
      | true =>
        rw [if_neg (by decide)]
        obtain ⟨n1, n2⟩ := am_wi_nI (n := 60) (by decide) h1
        obtain ⟨a1, a2⟩ := am_ip_nI h8 h2
        obtain ⟨w1, w2⟩ := am_wi_nI (n := 1) (by decide) h3
        generalize n.toNatClampNeg = n at n1 n2
        generalize a.toNatClampNeg = p at a1 a2
        generalize w.toNatClampNeg = w at w1 w2
        subst n2 a2 w2
        have p8 : p < 8 := by omega
        intro N xs q G hc
        have hn : G 115 2 = nI (s.1.1 13 0) := hc.1.1.2.1
        obtain ⟨G1, a1, b1, g1⟩ := am_m128 (X := am_X0 N xs) (D := 98) (q := q) (G := G) am_is5 am_is7 (by decide)
        have hc1 : am_rfl G1 s := am_rfl_fr hc fun i j _ b _ _ _ _ => a1 i j b
        obtain ⟨G2, f, c2, g2⟩ := am_m167 (X := am_X0 N xs) (D := 48) (q := q) (n := n) (am_rfl_rc hc1) hs.1.1 (by omega) am_hm1
        obtain ⟨G3, a3, b3, g3⟩ := am_m128 (X := am_X0 N xs) (D := 98) (q := q) (G := G2) am_is7 am_is5 (by decide)
        obtain ⟨r1, r2⟩ := am_rback hc hs a1 b1 f a3 b3
        have kk := c2.1.2.2.1 p (3 + w) p8 (by omega)
        have g130 := am_m130 (X := am_X0 N xs) (D := 98) (q := q) (G := G2) (f := 3 + w) p8 (by omega)
        rw [kk] at g130
        have s3 : (3 : Int32) + nI w = nI (3 + w) := nI_add 3 w
        refine ⟨G3, r2, r1, am_CD_of (M := am_N180) rfl rfl ?_⟩
        show am_Rn _ _ ((Option.some FieldType.int)) am_J180 0 [some (.ref 114), some (.int (nI n)), some (.int (nI p)), some (.int (nI w)), none] [] (am_L0 q, G) _
        simp only [am_s180_0, am_s180_1, am_s180_2, am_s180_4, am_s180_7, am_s180_10, am_s180_11, am_s180_12, am_s180_15, am_s180_18, am_s180_19, am_s180_20, am_s180_21, am_s180_24, am_s180_27, am_s180_28, am_s180_30, am_s180_33, am_s180_34, am_s180_35, am_s180_36, am_s180_39, am_s180_40, am_s180_43, am_s180_46, am_s180_47, am_s180_48, am_s180_51, am_s180_52, am_s180_53, am_s180_54, am_s180_55, am_s180_56, am_s180_59, am_s180_61, am_s180_62, am_s180_63, am_s180_66, am_s180_67, am_s180_70, am_s180_73, am_s180_75, h1, h2, h3, am_cal_ok am_cat_0 am_v114 (am_y132 (D := 97) h8 hn _), am_f114_2, am_cal_ok am_cat_0 am_v114 (g1), am_cal_ok am_cat_0 am_v114 (g2), s3, am_cal_ok am_cat_0 am_v114 (g130), am_cal_ok am_cat_0 am_v114 (g3), am_cal_ok am_cat_0 am_v114 (am_d1 (D := 98)), am_cal_ok am_cat_0 am_v114 (am_d2 (D := 98)), am_cal_ok am_cat_0 am_v114 (am_d3 (D := 98)), am_cal_ok am_cat_0 am_v114 (am_d4 (D := 98)), am_cal_ok am_cat_0 am_v114 (am_d5 (D := 98)), am_cal_ok am_cat_0 am_rcv_f (am_y125 _ _), am_cal_ok am_cat_0 am_rcv_f (am_m183 (D := 97) _), am_bI0, am_f114_0, am_er_f, am_sy_f, Bool.false_and, Bool.and_false, reduceCtorEq, not_false_eq_true, not_true_eq_false, eq_self, am_os_some, Option.toList_some, Option.toList_none, List.cons_append, List.nil_append, if_true, if_false, true_and, am_nw1_i, am_nw1_r, am_nw1_n, cond_true]
end AMRC
