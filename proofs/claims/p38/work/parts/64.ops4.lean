/-! then, first, turn, cover, kept, net, struck, odds, dry -/
theorem am_dth_le {T U : am_T} {S : am_S} {x : Nat} : ∀ (d n : Nat) {j : Nat}, am_dth T U S x d n = some j → n ≤ j ∧ j < n + d
  | 0, _, _, h => by cases h
  | d + 1, n, j, h => by
    unfold am_dth at h
    split at h
    · cases h; omega
    · have := am_dth_le d (n + 1) h; omega
section AMOP4
variable {X : am_X} {D q : Nat} {G : am_G}
def am_O94 (n a w : Int32) (s : am_St) : Int32 × am_St :=
  if (am_wi n 60 && (am_ip (s.1.1 13 0) a && am_wi w 1)) = false then am_er 1 s
  else am_sy (nI (am_days s.1.2.1 s.1.2.2.1 8 s.1.1 n.toNatClampNeg (3 + w.toNatClampNeg) a.toNatClampNeg)) s
theorem am_c94 {n a w : Int32} {s : am_St} (hs : am_oks s) : am_cO 94 [.int n, .int a, .int w] s (am_O94 n a w s) := by
  unfold am_O94
  have h8 := hs.1.1.1
  cases h1 : am_wi n 60 with
  | false =>
    refine am_cop_err (k := 1) (by decide) fun X q G hc => am_CD_of (M := am_N94) rfl rfl ?_
    show am_Rn _ _ ((Option.some FieldType.int)) am_J94 0 [some (.ref 0), some (.int n), some (.int a), some (.int w), none] [] (am_L0 q, G) _
    simp only [am_s94_0, am_s94_1, am_s94_3, am_s94_6, am_s94_9, am_s94_10, am_s94_11, am_s94_14, am_s94_17, am_s94_18, am_s94_19, am_s94_22, am_s94_25, am_s94_26, am_s94_27, am_s94_30, am_s94_31, am_s94_32, am_s94_35, am_s94_36, am_s94_39, am_s94_41, am_s94_42, am_s94_45, am_s94_47, am_s94_50, am_s94_51, am_s94_52, am_s94_55, am_s94_57, am_s94_60, am_s94_61, am_s94_62, h1, am_cal_ok am_cat_0 am_v0 (am_e1 (D := 98)), am_cal_ok am_cat_0 am_v0 (am_e2 (D := 98)), am_cal_ok am_cat_0 am_v0 (am_e3 (D := 98)), am_cal_ok am_cat_0 am_v0 (am_e4 (D := 98)), am_cal_ok am_cat_0 am_v0 (am_e5 (D := 98)), am_cal_ok am_cat_0 am_rcv_f (am_m123 (D := 98) _ _), am_cal_ok am_cat_0 am_rcv_f (am_m121 (D := 97) _), am_cal_ok am_cat_0 am_rcv_f (am_m122 (D := 97) _), am_bI0, am_f0_0, am_f0_1, am_f0_2, am_f0_3, am_f0_4, am_f0_5, am_f0_6, am_f0_7, am_f1_2, am_ec1, am_ec2, am_ec3, am_ec4, am_ec5, am_er_f, am_sy_f, Bool.false_and, Bool.and_false, reduceCtorEq, not_false_eq_true, not_true_eq_false, eq_self, am_os_some, Option.toList_some, Option.toList_none, List.cons_append, List.nil_append, if_true, if_false, true_and, am_nw1_i, am_nw1_r, am_nw1_n, cond_true]
  | true =>
    cases h2 : am_ip (s.1.1 13 0) a with
    | false =>
      refine am_cop_err (k := 1) (by decide) fun X q G hc => am_CD_of (M := am_N94) rfl rfl ?_
      have hn : G 10 8 = nI (s.1.1 13 0) := hc.1.1.2.2.1
      show am_Rn _ _ ((Option.some FieldType.int)) am_J94 0 [some (.ref 0), some (.int n), some (.int a), some (.int w), none] [] (am_L0 q, G) _
      simp only [am_s94_0, am_s94_1, am_s94_3, am_s94_6, am_s94_9, am_s94_10, am_s94_11, am_s94_14, am_s94_17, am_s94_18, am_s94_19, am_s94_22, am_s94_25, am_s94_26, am_s94_27, am_s94_30, am_s94_31, am_s94_32, am_s94_35, am_s94_36, am_s94_39, am_s94_41, am_s94_42, am_s94_45, am_s94_47, am_s94_50, am_s94_51, am_s94_52, am_s94_55, am_s94_57, am_s94_60, am_s94_61, am_s94_62, h1, h2, am_cal_ok am_cat_0 am_v0 (am_y119 hn _), am_cal_ok am_cat_0 am_v0 (am_e1 (D := 98)), am_cal_ok am_cat_0 am_v0 (am_e2 (D := 98)), am_cal_ok am_cat_0 am_v0 (am_e3 (D := 98)), am_cal_ok am_cat_0 am_v0 (am_e4 (D := 98)), am_cal_ok am_cat_0 am_v0 (am_e5 (D := 98)), am_cal_ok am_cat_0 am_rcv_f (am_m123 (D := 98) _ _), am_cal_ok am_cat_0 am_rcv_f (am_m121 (D := 97) _), am_cal_ok am_cat_0 am_rcv_f (am_m122 (D := 97) _), am_bI0, am_f0_0, am_f0_1, am_f0_2, am_f0_3, am_f0_4, am_f0_5, am_f0_6, am_f0_7, am_f1_2, am_ec1, am_ec2, am_ec3, am_ec4, am_ec5, am_er_f, am_sy_f, Bool.false_and, Bool.and_false, reduceCtorEq, not_false_eq_true, not_true_eq_false, eq_self, am_os_some, Option.toList_some, Option.toList_none, List.cons_append, List.nil_append, if_true, if_false, true_and, am_nw1_i, am_nw1_r, am_nw1_n, cond_true]
    | true =>
      cases h3 : am_wi w 1 with
      | false =>
        refine am_cop_err (k := 1) (by decide) fun X q G hc => am_CD_of (M := am_N94) rfl rfl ?_
        have hn : G 10 8 = nI (s.1.1 13 0) := hc.1.1.2.2.1
        show am_Rn _ _ ((Option.some FieldType.int)) am_J94 0 [some (.ref 0), some (.int n), some (.int a), some (.int w), none] [] (am_L0 q, G) _
        simp only [am_s94_0, am_s94_1, am_s94_3, am_s94_6, am_s94_9, am_s94_10, am_s94_11, am_s94_14, am_s94_17, am_s94_18, am_s94_19, am_s94_22, am_s94_25, am_s94_26, am_s94_27, am_s94_30, am_s94_31, am_s94_32, am_s94_35, am_s94_36, am_s94_39, am_s94_41, am_s94_42, am_s94_45, am_s94_47, am_s94_50, am_s94_51, am_s94_52, am_s94_55, am_s94_57, am_s94_60, am_s94_61, am_s94_62, h1, h2, h3, am_cal_ok am_cat_0 am_v0 (am_y119 hn _), am_cal_ok am_cat_0 am_v0 (am_e1 (D := 98)), am_cal_ok am_cat_0 am_v0 (am_e2 (D := 98)), am_cal_ok am_cat_0 am_v0 (am_e3 (D := 98)), am_cal_ok am_cat_0 am_v0 (am_e4 (D := 98)), am_cal_ok am_cat_0 am_v0 (am_e5 (D := 98)), am_cal_ok am_cat_0 am_rcv_f (am_m123 (D := 98) _ _), am_cal_ok am_cat_0 am_rcv_f (am_m121 (D := 97) _), am_cal_ok am_cat_0 am_rcv_f (am_m122 (D := 97) _), am_bI0, am_f0_0, am_f0_1, am_f0_2, am_f0_3, am_f0_4, am_f0_5, am_f0_6, am_f0_7, am_f1_2, am_ec1, am_ec2, am_ec3, am_ec4, am_ec5, am_er_f, am_sy_f, Bool.false_and, Bool.and_false, reduceCtorEq, not_false_eq_true, not_true_eq_false, eq_self, am_os_some, Option.toList_some, Option.toList_none, List.cons_append, List.nil_append, if_true, if_false, true_and, am_nw1_i, am_nw1_r, am_nw1_n, cond_true]
      | true =>
        rw [if_neg (by decide)]
        obtain ⟨n1, n2⟩ := am_wi_nI (n := 60) (by decide) h1
        obtain ⟨a1, a2⟩ := am_ip_nI h8 h2
        obtain ⟨w1, w2⟩ := am_wi_nI (n := 1) (by decide) h3
        generalize n.toNatClampNeg = n at n1 n2
        generalize a.toNatClampNeg = p at a1 a2
        generalize w.toNatClampNeg = w at w1 w2
        subst n2 a2 w2
        have p8 : p < 8 := by omega
        refine am_cop_same fun N xs q G hc => ?_
        have hn : G 10 8 = nI (s.1.1 13 0) := hc.1.1.2.2.1
        obtain ⟨G1, f, c, g⟩ := am_m63 (X := am_X0 N xs) (D := 92) (q := q) (am_cfl_cn hc hs.1) n1
        have k3 : G1 64 p = nI (am_days s.1.2.1 s.1.2.2.1 8 s.1.1 n 3 p) := (c.1 p p8).2.2.2.1
        have k4 : G1 65 p = nI (am_days s.1.2.1 s.1.2.2.1 8 s.1.1 n 4 p) := (c.1 p p8).2.2.2.2
        have ix : am_in (nI p) 8 = true := am_in_nI p8 (by decide)
        have ic : (nI p).toNatClampNeg = p := nI_clamp (by omega)
        refine ⟨q, G1, fun i j h => f i j (by omega) h.1 h.2.1, am_CD_of (M := am_N94) rfl rfl ?_⟩
        show am_Rn _ _ ((Option.some FieldType.int)) am_J94 0 [some (.ref 0), some (.int (nI n)), some (.int (nI p)), some (.int (nI w)), none] [] (am_L0 q, G) _
        match w, w1, h3 with
        | 0, _, h3 =>
          have e : (nI 0 = 0) = True := by decide
          simp only [am_s94_0, am_s94_1, am_s94_3, am_s94_6, am_s94_9, am_s94_10, am_s94_11, am_s94_14, am_s94_17, am_s94_18, am_s94_19, am_s94_22, am_s94_25, am_s94_26, am_s94_27, am_s94_30, am_s94_31, am_s94_32, am_s94_35, am_s94_36, am_s94_39, am_s94_41, am_s94_42, am_s94_45, am_s94_47, am_s94_50, am_s94_51, am_s94_52, am_s94_55, am_s94_57, am_s94_60, am_s94_61, am_s94_62, h1, h2, h3, am_cal_ok am_cat_0 am_v0 (am_y119 hn _), am_cal_ok am_cat_0 am_v59 (g), e, am_f60_5, am_a64, ix, ic, k3, am_cal_ok am_cat_0 am_v0 (am_e1 (D := 98)), am_cal_ok am_cat_0 am_v0 (am_e2 (D := 98)), am_cal_ok am_cat_0 am_v0 (am_e3 (D := 98)), am_cal_ok am_cat_0 am_v0 (am_e4 (D := 98)), am_cal_ok am_cat_0 am_v0 (am_e5 (D := 98)), am_cal_ok am_cat_0 am_rcv_f (am_m123 (D := 98) _ _), am_cal_ok am_cat_0 am_rcv_f (am_m121 (D := 97) _), am_cal_ok am_cat_0 am_rcv_f (am_m122 (D := 97) _), am_bI0, am_f0_0, am_f0_1, am_f0_2, am_f0_3, am_f0_4, am_f0_5, am_f0_6, am_f0_7, am_f1_2, am_ec1, am_ec2, am_ec3, am_ec4, am_ec5, am_er_f, am_sy_f, Bool.false_and, Bool.and_false, reduceCtorEq, not_false_eq_true, not_true_eq_false, eq_self, am_os_some, Option.toList_some, Option.toList_none, List.cons_append, List.nil_append, if_true, if_false, true_and, am_nw1_i, am_nw1_r, am_nw1_n, cond_true]
        | 1, _, h3 =>
          have e : (nI 1 = 0) = False := by decide
          simp only [am_s94_0, am_s94_1, am_s94_3, am_s94_6, am_s94_9, am_s94_10, am_s94_11, am_s94_14, am_s94_17, am_s94_18, am_s94_19, am_s94_22, am_s94_25, am_s94_26, am_s94_27, am_s94_30, am_s94_31, am_s94_32, am_s94_35, am_s94_36, am_s94_39, am_s94_41, am_s94_42, am_s94_45, am_s94_47, am_s94_50, am_s94_51, am_s94_52, am_s94_55, am_s94_57, am_s94_60, am_s94_61, am_s94_62, h1, h2, h3, am_cal_ok am_cat_0 am_v0 (am_y119 hn _), am_cal_ok am_cat_0 am_v59 (g), e, am_f60_6, am_a65, ix, ic, k4, am_cal_ok am_cat_0 am_v0 (am_e1 (D := 98)), am_cal_ok am_cat_0 am_v0 (am_e2 (D := 98)), am_cal_ok am_cat_0 am_v0 (am_e3 (D := 98)), am_cal_ok am_cat_0 am_v0 (am_e4 (D := 98)), am_cal_ok am_cat_0 am_v0 (am_e5 (D := 98)), am_cal_ok am_cat_0 am_rcv_f (am_m123 (D := 98) _ _), am_cal_ok am_cat_0 am_rcv_f (am_m121 (D := 97) _), am_cal_ok am_cat_0 am_rcv_f (am_m122 (D := 97) _), am_bI0, am_f0_0, am_f0_1, am_f0_2, am_f0_3, am_f0_4, am_f0_5, am_f0_6, am_f0_7, am_f1_2, am_ec1, am_ec2, am_ec3, am_ec4, am_ec5, am_er_f, am_sy_f, Bool.false_and, Bool.and_false, reduceCtorEq, not_false_eq_true, not_true_eq_false, eq_self, am_os_some, Option.toList_some, Option.toList_none, List.cons_append, List.nil_append, if_true, if_false, true_and, am_nw1_i, am_nw1_r, am_nw1_n, cond_true]
/-- first -/
def am_O95 (x w : Int32) (s : am_St) : Int32 × am_St :=
  if (x < 1 ∨ ¬ x ≤ 99) ∨ am_wi w 1 = false then am_er 1 s
  else match am_dth s.1.2.1 s.1.2.2.1 s.1.1 x.toNatClampNeg 61 0 with
    | none => am_er 2 s
    | some d => am_sy (if w.toNatClampNeg = 0 then nI d else (if am_ft (am_days s.1.2.1 s.1.2.2.1 8 s.1.1 d) x.toNatClampNeg (s.1.1 13 0) 0 < s.1.1 13 0 then nI (am_ft (am_days s.1.2.1 s.1.2.2.1 8 s.1.1 d) x.toNatClampNeg (s.1.1 13 0) 0) else -1)) s
theorem am_c95 {x w : Int32} {s : am_St} (hs : am_oks s) : am_cO 95 [.int x, .int w] s (am_O95 x w s) := by
  unfold am_O95
  by_cases h1 : x < 1
  · rw [if_pos (Or.inl (Or.inl h1))]
    refine am_cop_err (k := 1) (by decide) fun X q G hc => am_CD_of (M := am_N95) rfl rfl ?_
    show am_Rn _ _ ((Option.some FieldType.int)) am_J95 0 [some (.ref 0), some (.int x), some (.int w), none] [] (am_L0 q, G) _
    simp only [am_s95_0, am_s95_1, am_s95_2, am_s95_5, am_s95_6, am_s95_8, am_s95_11, am_s95_12, am_s95_13, am_s95_16, am_s95_19, am_s95_20, am_s95_21, am_s95_24, am_s95_25, am_s95_26, am_s95_29, am_s95_30, am_s95_33, am_s95_34, am_s95_35, am_s95_38, am_s95_39, am_s95_40, am_s95_43, am_s95_44, am_s95_45, am_s95_48, am_s95_49, am_s95_52, am_s95_53, am_s95_56, am_s95_57, am_s95_60, am_s95_61, am_s95_64, h1, am_cal_ok am_cat_0 am_v0 (am_e1 (D := 98)), am_cal_ok am_cat_0 am_v0 (am_e2 (D := 98)), am_cal_ok am_cat_0 am_v0 (am_e3 (D := 98)), am_cal_ok am_cat_0 am_v0 (am_e4 (D := 98)), am_cal_ok am_cat_0 am_v0 (am_e5 (D := 98)), am_cal_ok am_cat_0 am_rcv_f (am_m123 (D := 98) _ _), am_cal_ok am_cat_0 am_rcv_f (am_m121 (D := 97) _), am_cal_ok am_cat_0 am_rcv_f (am_m122 (D := 97) _), am_bI0, am_f0_0, am_f0_1, am_f0_2, am_f0_3, am_f0_4, am_f0_5, am_f0_6, am_f0_7, am_f1_2, am_ec1, am_ec2, am_ec3, am_ec4, am_ec5, am_er_f, am_sy_f, Bool.false_and, Bool.and_false, reduceCtorEq, not_false_eq_true, not_true_eq_false, eq_self, am_os_some, Option.toList_some, Option.toList_none, List.cons_append, List.nil_append, if_true, if_false, true_and, am_nw1_i, am_nw1_r, am_nw1_n, cond_true]
  · by_cases h2 : x ≤ 99
    · cases h3 : am_wi w 1 with
      | false =>
        rw [if_pos (Or.inr rfl)]
        refine am_cop_err (k := 1) (by decide) fun X q G hc => am_CD_of (M := am_N95) rfl rfl ?_
        show am_Rn _ _ ((Option.some FieldType.int)) am_J95 0 [some (.ref 0), some (.int x), some (.int w), none] [] (am_L0 q, G) _
        simp only [am_s95_0, am_s95_1, am_s95_2, am_s95_5, am_s95_6, am_s95_8, am_s95_11, am_s95_12, am_s95_13, am_s95_16, am_s95_19, am_s95_20, am_s95_21, am_s95_24, am_s95_25, am_s95_26, am_s95_29, am_s95_30, am_s95_33, am_s95_34, am_s95_35, am_s95_38, am_s95_39, am_s95_40, am_s95_43, am_s95_44, am_s95_45, am_s95_48, am_s95_49, am_s95_52, am_s95_53, am_s95_56, am_s95_57, am_s95_60, am_s95_61, am_s95_64, h1, h2, h3, am_cal_ok am_cat_0 am_v0 (am_e1 (D := 98)), am_cal_ok am_cat_0 am_v0 (am_e2 (D := 98)), am_cal_ok am_cat_0 am_v0 (am_e3 (D := 98)), am_cal_ok am_cat_0 am_v0 (am_e4 (D := 98)), am_cal_ok am_cat_0 am_v0 (am_e5 (D := 98)), am_cal_ok am_cat_0 am_rcv_f (am_m123 (D := 98) _ _), am_cal_ok am_cat_0 am_rcv_f (am_m121 (D := 97) _), am_cal_ok am_cat_0 am_rcv_f (am_m122 (D := 97) _), am_bI0, am_f0_0, am_f0_1, am_f0_2, am_f0_3, am_f0_4, am_f0_5, am_f0_6, am_f0_7, am_f1_2, am_ec1, am_ec2, am_ec3, am_ec4, am_ec5, am_er_f, am_sy_f, Bool.false_and, Bool.and_false, reduceCtorEq, not_false_eq_true, not_true_eq_false, eq_self, am_os_some, Option.toList_some, Option.toList_none, List.cons_append, List.nil_append, if_true, if_false, true_and, am_nw1_i, am_nw1_r, am_nw1_n, cond_true]
      | true =>
        rw [if_neg (by simp only [h1, h2]; simp)]
        have h0 : ¬ x < 0 := fun h => h1 (Int32.lt_trans h (by decide))
        obtain ⟨m, hm, rfl⟩ := nI_of2 (n := 99) (by decide) h0 h2
        rw [nI_clamp (show m < 2 ^ 31 by omega)]
        obtain ⟨w1, w2⟩ := am_wi_nI (n := 1) (by decide) h3
        generalize w.toNatClampNeg = w at w1 w2
        subst w2
        cases hd : am_dth s.1.2.1 s.1.2.2.1 s.1.1 m 61 0 with
        | none =>
          intro N xs q G hc
          obtain ⟨G1, f, g⟩ := am_m64 (X := am_X0 N xs) (D := 92) (q := q) (am_cfl_cn hc hs.1) (show m < 1000 by omega)
          rw [hd] at g
          have g' : am_CD (am_X0 N xs) 99 64 [.ref 59, .int (nI m)] (am_L0 q, G) = some (some (.int (-1)), (am_L0 q, G1)) := g
          have hc1 := am_cfl_fr hc fun i j hi => f i j (by unfold am_kee at hi; omega) (by unfold am_kee at hi; omega) (by unfold am_kee at hi; omega)
          have h5 : ((-1 : Int32) < 0) = True := by decide
          refine ⟨q, _, fun i j hi => by rw [am_up_get, if_neg (by omega), f i j (by omega) (by omega) (by omega)], am_cfl_E hc1 (show 2 < 6 by decide), am_CD_of (M := am_N95) rfl rfl ?_⟩
          show am_Rn _ _ ((Option.some FieldType.int)) am_J95 0 [some (.ref 0), some (.int (nI m)), some (.int (nI w)), none] [] (am_L0 q, G) _
          simp only [am_s95_0, am_s95_1, am_s95_2, am_s95_5, am_s95_6, am_s95_8, am_s95_11, am_s95_12, am_s95_13, am_s95_16, am_s95_19, am_s95_20, am_s95_21, am_s95_24, am_s95_25, am_s95_26, am_s95_29, am_s95_30, am_s95_33, am_s95_34, am_s95_35, am_s95_38, am_s95_39, am_s95_40, am_s95_43, am_s95_44, am_s95_45, am_s95_48, am_s95_49, am_s95_52, am_s95_53, am_s95_56, am_s95_57, am_s95_60, am_s95_61, am_s95_64, h1, h2, h3, am_cal_ok am_cat_0 am_v59 (g'), h5, am_cal_ok am_cat_0 am_v0 (am_e1 (D := 98)), am_cal_ok am_cat_0 am_v0 (am_e2 (D := 98)), am_cal_ok am_cat_0 am_v0 (am_e3 (D := 98)), am_cal_ok am_cat_0 am_v0 (am_e4 (D := 98)), am_cal_ok am_cat_0 am_v0 (am_e5 (D := 98)), am_cal_ok am_cat_0 am_rcv_f (am_m123 (D := 98) _ _), am_cal_ok am_cat_0 am_rcv_f (am_m121 (D := 97) _), am_cal_ok am_cat_0 am_rcv_f (am_m122 (D := 97) _), am_bI0, am_f0_0, am_f0_1, am_f0_2, am_f0_3, am_f0_4, am_f0_5, am_f0_6, am_f0_7, am_f1_2, am_ec1, am_ec2, am_ec3, am_ec4, am_ec5, am_er_f, am_sy_f, Bool.false_and, Bool.and_false, reduceCtorEq, not_false_eq_true, not_true_eq_false, eq_self, am_os_some, Option.toList_some, Option.toList_none, List.cons_append, List.nil_append, if_true, if_false, true_and, am_nw1_i, am_nw1_r, am_nw1_n, cond_true]
        | some d =>
          have hd6 := am_dth_le 61 0 hd
          dsimp only
          refine am_cop_same fun N xs q G hc => ?_
          have hcn := am_cfl_cn hc hs.1
          obtain ⟨G1, f, g⟩ := am_m64 (X := am_X0 N xs) (D := 92) (q := q) hcn (show m < 1000 by omega)
          rw [hd] at g
          have g' : am_CD (am_X0 N xs) 99 64 [.ref 59, .int (nI m)] (am_L0 q, G) = some (some (.int (nI d)), (am_L0 q, G1)) := g
          have h5 : ¬ nI d < 0 := nI_pos (by omega)
          match w, w1, h3 with
          | 0, _, h3 =>
            have e : (nI 0 = 0) = True := by decide
            refine ⟨q, G1, fun i j h => f i j (by omega) h.1 h.2.1, am_CD_of (M := am_N95) rfl rfl ?_⟩
            show am_Rn _ _ ((Option.some FieldType.int)) am_J95 0 [some (.ref 0), some (.int (nI m)), some (.int (nI 0)), none] [] (am_L0 q, G) _
            simp only [am_s95_0, am_s95_1, am_s95_2, am_s95_5, am_s95_6, am_s95_8, am_s95_11, am_s95_12, am_s95_13, am_s95_16, am_s95_19, am_s95_20, am_s95_21, am_s95_24, am_s95_25, am_s95_26, am_s95_29, am_s95_30, am_s95_33, am_s95_34, am_s95_35, am_s95_38, am_s95_39, am_s95_40, am_s95_43, am_s95_44, am_s95_45, am_s95_48, am_s95_49, am_s95_52, am_s95_53, am_s95_56, am_s95_57, am_s95_60, am_s95_61, am_s95_64, h1, h2, h3, am_cal_ok am_cat_0 am_v59 (g'), h5, e, am_cal_ok am_cat_0 am_v0 (am_e1 (D := 98)), am_cal_ok am_cat_0 am_v0 (am_e2 (D := 98)), am_cal_ok am_cat_0 am_v0 (am_e3 (D := 98)), am_cal_ok am_cat_0 am_v0 (am_e4 (D := 98)), am_cal_ok am_cat_0 am_v0 (am_e5 (D := 98)), am_cal_ok am_cat_0 am_rcv_f (am_m123 (D := 98) _ _), am_cal_ok am_cat_0 am_rcv_f (am_m121 (D := 97) _), am_cal_ok am_cat_0 am_rcv_f (am_m122 (D := 97) _), am_bI0, am_f0_0, am_f0_1, am_f0_2, am_f0_3, am_f0_4, am_f0_5, am_f0_6, am_f0_7, am_f1_2, am_ec1, am_ec2, am_ec3, am_ec4, am_ec5, am_er_f, am_sy_f, Bool.false_and, Bool.and_false, reduceCtorEq, not_false_eq_true, not_true_eq_false, eq_self, am_os_some, Option.toList_some, Option.toList_none, List.cons_append, List.nil_append, if_true, if_false, true_and, am_nw1_i, am_nw1_r, am_nw1_n, cond_true]
          | 1, _, h3 =>
            have e : (nI 1 = 0) = False := by decide
            have e1 : ((1 : Nat) = 0) = False := by decide
            obtain ⟨G2, f2, c2, g2⟩ := am_m63 (X := am_X0 N xs) (D := 92) (q := q) (hcn.fr f) (show d ≤ 60 by omega)
            have w2 := am_wf_days (T := s.1.2.1) (U := s.1.2.2.1) (h := 8) hs.1.1 d
            have g34 := am_m34 (X := am_X0 N xs) (D := 98) (q := q) (am_ist_p am_60) c2 w2.1 (show m < 1000 by omega)
            rw [w2.2.1] at g34
            refine ⟨q, G2, fun i j h => by rw [f2 i j (by omega) h.1 h.2.1, f i j (by omega) h.1 h.2.1], am_CD_of (M := am_N95) rfl rfl ?_⟩
            show am_Rn _ _ ((Option.some FieldType.int)) am_J95 0 [some (.ref 0), some (.int (nI m)), some (.int (nI 1)), none] [] (am_L0 q, G) _
            simp only [am_s95_0, am_s95_1, am_s95_2, am_s95_5, am_s95_6, am_s95_8, am_s95_11, am_s95_12, am_s95_13, am_s95_16, am_s95_19, am_s95_20, am_s95_21, am_s95_24, am_s95_25, am_s95_26, am_s95_29, am_s95_30, am_s95_33, am_s95_34, am_s95_35, am_s95_38, am_s95_39, am_s95_40, am_s95_43, am_s95_44, am_s95_45, am_s95_48, am_s95_49, am_s95_52, am_s95_53, am_s95_56, am_s95_57, am_s95_60, am_s95_61, am_s95_64, h1, h2, h3, am_cal_ok am_cat_0 am_v59 (g'), h5, e, e1, am_cal_ok am_cat_0 am_v59 (g2), am_cal_ok am_cat_0 am_v60 (g34), am_cal_ok am_cat_0 am_v0 (am_e1 (D := 98)), am_cal_ok am_cat_0 am_v0 (am_e2 (D := 98)), am_cal_ok am_cat_0 am_v0 (am_e3 (D := 98)), am_cal_ok am_cat_0 am_v0 (am_e4 (D := 98)), am_cal_ok am_cat_0 am_v0 (am_e5 (D := 98)), am_cal_ok am_cat_0 am_rcv_f (am_m123 (D := 98) _ _), am_cal_ok am_cat_0 am_rcv_f (am_m121 (D := 97) _), am_cal_ok am_cat_0 am_rcv_f (am_m122 (D := 97) _), am_bI0, am_f0_0, am_f0_1, am_f0_2, am_f0_3, am_f0_4, am_f0_5, am_f0_6, am_f0_7, am_f1_2, am_ec1, am_ec2, am_ec3, am_ec4, am_ec5, am_er_f, am_sy_f, Bool.false_and, Bool.and_false, reduceCtorEq, not_false_eq_true, not_true_eq_false, eq_self, am_os_some, Option.toList_some, Option.toList_none, List.cons_append, List.nil_append, if_true, if_false, true_and, am_nw1_i, am_nw1_r, am_nw1_n, cond_true]
    · rw [if_pos (Or.inl (Or.inr h2))]
      refine am_cop_err (k := 1) (by decide) fun X q G hc => am_CD_of (M := am_N95) rfl rfl ?_
      show am_Rn _ _ ((Option.some FieldType.int)) am_J95 0 [some (.ref 0), some (.int x), some (.int w), none] [] (am_L0 q, G) _
      simp only [am_s95_0, am_s95_1, am_s95_2, am_s95_5, am_s95_6, am_s95_8, am_s95_11, am_s95_12, am_s95_13, am_s95_16, am_s95_19, am_s95_20, am_s95_21, am_s95_24, am_s95_25, am_s95_26, am_s95_29, am_s95_30, am_s95_33, am_s95_34, am_s95_35, am_s95_38, am_s95_39, am_s95_40, am_s95_43, am_s95_44, am_s95_45, am_s95_48, am_s95_49, am_s95_52, am_s95_53, am_s95_56, am_s95_57, am_s95_60, am_s95_61, am_s95_64, h1, h2, am_cal_ok am_cat_0 am_v0 (am_e1 (D := 98)), am_cal_ok am_cat_0 am_v0 (am_e2 (D := 98)), am_cal_ok am_cat_0 am_v0 (am_e3 (D := 98)), am_cal_ok am_cat_0 am_v0 (am_e4 (D := 98)), am_cal_ok am_cat_0 am_v0 (am_e5 (D := 98)), am_cal_ok am_cat_0 am_rcv_f (am_m123 (D := 98) _ _), am_cal_ok am_cat_0 am_rcv_f (am_m121 (D := 97) _), am_cal_ok am_cat_0 am_rcv_f (am_m122 (D := 97) _), am_bI0, am_f0_0, am_f0_1, am_f0_2, am_f0_3, am_f0_4, am_f0_5, am_f0_6, am_f0_7, am_f1_2, am_ec1, am_ec2, am_ec3, am_ec4, am_ec5, am_er_f, am_sy_f, Bool.false_and, Bool.and_false, reduceCtorEq, not_false_eq_true, not_true_eq_false, eq_self, am_os_some, Option.toList_some, Option.toList_none, List.cons_append, List.nil_append, if_true, if_false, true_and, am_nw1_i, am_nw1_r, am_nw1_n, cond_true]
/-- turn -/
def am_O97 (a w : Int32) (s : am_St) : Int32 × am_St :=
  if (am_ip (s.1.1 13 0) a && am_wi w 1) = false then am_er 1 s
  else am_sy (if w.toNatClampNeg = 0 then nI (am_bst s.1.2.1 (s.1.1 3 a.toNatClampNeg) 15).1 else nI (am_wkd s.1.2.1 (am_bst s.1.2.1 (s.1.1 3 a.toNatClampNeg) 15).1 (s.1.1 3 a.toNatClampNeg) 7)) s
theorem am_c97 {a w : Int32} {s : am_St} (hs : am_oks s) : am_cO 97 [.int a, .int w] s (am_O97 a w s) := by
  unfold am_O97
  have h8 := hs.1.1.1
  cases h1 : am_ip (s.1.1 13 0) a with
  | false =>
    refine am_cop_err (k := 1) (by decide) fun X q G hc => am_CD_of (M := am_N97) rfl rfl ?_
    have hn : G 10 8 = nI (s.1.1 13 0) := hc.1.1.2.2.1
    show am_Rn _ _ ((Option.some FieldType.int)) am_J97 0 [some (.ref 0), some (.int a), some (.int w), none] [] (am_L0 q, G) _
    simp only [am_s97_0, am_s97_1, am_s97_2, am_s97_5, am_s97_8, am_s97_9, am_s97_10, am_s97_13, am_s97_16, am_s97_17, am_s97_18, am_s97_21, am_s97_22, am_s97_23, am_s97_26, am_s97_29, am_s97_30, am_s97_33, am_s97_34, am_s97_35, am_s97_38, am_s97_39, am_s97_42, am_s97_43, am_s97_46, am_s97_49, am_s97_50, am_s97_51, am_s97_54, h1, am_cal_ok am_cat_0 am_v0 (am_y119 hn _), am_cal_ok am_cat_0 am_v0 (am_e1 (D := 98)), am_cal_ok am_cat_0 am_v0 (am_e2 (D := 98)), am_cal_ok am_cat_0 am_v0 (am_e3 (D := 98)), am_cal_ok am_cat_0 am_v0 (am_e4 (D := 98)), am_cal_ok am_cat_0 am_v0 (am_e5 (D := 98)), am_cal_ok am_cat_0 am_rcv_f (am_m123 (D := 98) _ _), am_cal_ok am_cat_0 am_rcv_f (am_m121 (D := 97) _), am_cal_ok am_cat_0 am_rcv_f (am_m122 (D := 97) _), am_bI0, am_f0_0, am_f0_1, am_f0_2, am_f0_3, am_f0_4, am_f0_5, am_f0_6, am_f0_7, am_f1_2, am_ec1, am_ec2, am_ec3, am_ec4, am_ec5, am_er_f, am_sy_f, Bool.false_and, Bool.and_false, reduceCtorEq, not_false_eq_true, not_true_eq_false, eq_self, am_os_some, Option.toList_some, Option.toList_none, List.cons_append, List.nil_append, if_true, if_false, true_and, am_nw1_i, am_nw1_r, am_nw1_n, cond_true]
  | true =>
    cases h2 : am_wi w 1 with
    | false =>
      refine am_cop_err (k := 1) (by decide) fun X q G hc => am_CD_of (M := am_N97) rfl rfl ?_
      have hn : G 10 8 = nI (s.1.1 13 0) := hc.1.1.2.2.1
      show am_Rn _ _ ((Option.some FieldType.int)) am_J97 0 [some (.ref 0), some (.int a), some (.int w), none] [] (am_L0 q, G) _
      simp only [am_s97_0, am_s97_1, am_s97_2, am_s97_5, am_s97_8, am_s97_9, am_s97_10, am_s97_13, am_s97_16, am_s97_17, am_s97_18, am_s97_21, am_s97_22, am_s97_23, am_s97_26, am_s97_29, am_s97_30, am_s97_33, am_s97_34, am_s97_35, am_s97_38, am_s97_39, am_s97_42, am_s97_43, am_s97_46, am_s97_49, am_s97_50, am_s97_51, am_s97_54, h1, h2, am_cal_ok am_cat_0 am_v0 (am_y119 hn _), am_cal_ok am_cat_0 am_v0 (am_e1 (D := 98)), am_cal_ok am_cat_0 am_v0 (am_e2 (D := 98)), am_cal_ok am_cat_0 am_v0 (am_e3 (D := 98)), am_cal_ok am_cat_0 am_v0 (am_e4 (D := 98)), am_cal_ok am_cat_0 am_v0 (am_e5 (D := 98)), am_cal_ok am_cat_0 am_rcv_f (am_m123 (D := 98) _ _), am_cal_ok am_cat_0 am_rcv_f (am_m121 (D := 97) _), am_cal_ok am_cat_0 am_rcv_f (am_m122 (D := 97) _), am_bI0, am_f0_0, am_f0_1, am_f0_2, am_f0_3, am_f0_4, am_f0_5, am_f0_6, am_f0_7, am_f1_2, am_ec1, am_ec2, am_ec3, am_ec4, am_ec5, am_er_f, am_sy_f, Bool.false_and, Bool.and_false, reduceCtorEq, not_false_eq_true, not_true_eq_false, eq_self, am_os_some, Option.toList_some, Option.toList_none, List.cons_append, List.nil_append, if_true, if_false, true_and, am_nw1_i, am_nw1_r, am_nw1_n, cond_true]
    | true =>
      rw [if_neg (by decide)]
      obtain ⟨a1, a2⟩ := am_ip_nI h8 h1
      obtain ⟨w1, w2⟩ := am_wi_nI (n := 1) (by decide) h2
      generalize a.toNatClampNeg = p at a1 a2
      generalize w.toNatClampNeg = w at w1 w2
      subst a2 w2
      have p8 : p < 8 := by omega
      refine am_cop_same fun N xs q G hc => ?_
      have hn : G 10 8 = nI (s.1.1 13 0) := hc.1.1.2.2.1
      obtain ⟨G1, f1, g1⟩ := am_m36 (X := am_X0 N xs) (D := 94) (q := q) am_10 hc.1.1 hc.1.2.1 hs.1.2.2.1 p8
      match w, w1, h2 with
      | 0, _, h2 =>
        have e : (nI 0 = 0) = True := by decide
        refine ⟨q, G1, fun i j h => f1 i j h.1, am_CD_of (M := am_N97) rfl rfl ?_⟩
        show am_Rn _ _ ((Option.some FieldType.int)) am_J97 0 [some (.ref 0), some (.int (nI p)), some (.int (nI 0)), none] [] (am_L0 q, G) _
        simp only [am_s97_0, am_s97_1, am_s97_2, am_s97_5, am_s97_8, am_s97_9, am_s97_10, am_s97_13, am_s97_16, am_s97_17, am_s97_18, am_s97_21, am_s97_22, am_s97_23, am_s97_26, am_s97_29, am_s97_30, am_s97_33, am_s97_34, am_s97_35, am_s97_38, am_s97_39, am_s97_42, am_s97_43, am_s97_46, am_s97_49, am_s97_50, am_s97_51, am_s97_54, h1, h2, am_cal_ok am_cat_0 am_v0 (am_y119 hn _), am_cal_ok am_cat_0 am_v10 (g1), e, am_cal_ok am_cat_0 am_v0 (am_e1 (D := 98)), am_cal_ok am_cat_0 am_v0 (am_e2 (D := 98)), am_cal_ok am_cat_0 am_v0 (am_e3 (D := 98)), am_cal_ok am_cat_0 am_v0 (am_e4 (D := 98)), am_cal_ok am_cat_0 am_v0 (am_e5 (D := 98)), am_cal_ok am_cat_0 am_rcv_f (am_m123 (D := 98) _ _), am_cal_ok am_cat_0 am_rcv_f (am_m121 (D := 97) _), am_cal_ok am_cat_0 am_rcv_f (am_m122 (D := 97) _), am_bI0, am_f0_0, am_f0_1, am_f0_2, am_f0_3, am_f0_4, am_f0_5, am_f0_6, am_f0_7, am_f1_2, am_ec1, am_ec2, am_ec3, am_ec4, am_ec5, am_er_f, am_sy_f, Bool.false_and, Bool.and_false, reduceCtorEq, not_false_eq_true, not_true_eq_false, eq_self, am_os_some, Option.toList_some, Option.toList_none, List.cons_append, List.nil_append, if_true, if_false, true_and, am_nw1_i, am_nw1_r, am_nw1_n, cond_true]
      | 1, _, h2 =>
        have e : (nI 1 = 0) = False := by decide
        have e1 : ((1 : Nat) = 0) = False := by decide
        obtain ⟨G2, f2, g2⟩ := am_m35 (X := am_X0 N xs) (D := 95) (q := q) (G := G1) (t := (am_bst s.1.2.1 (s.1.1 3 p) 15).1) am_10 (am_cp_fr hc.1.1 fun i j a b => f1 i j (by omega)) (am_cw_fr hc.1.2.1 fun i j a b => f1 i j (by omega)) hs.1.2.2.1 p8
        refine ⟨q, G2, fun i j h => by rw [f2 i j h.1, f1 i j h.1], am_CD_of (M := am_N97) rfl rfl ?_⟩
        show am_Rn _ _ ((Option.some FieldType.int)) am_J97 0 [some (.ref 0), some (.int (nI p)), some (.int (nI 1)), none] [] (am_L0 q, G) _
        simp only [am_s97_0, am_s97_1, am_s97_2, am_s97_5, am_s97_8, am_s97_9, am_s97_10, am_s97_13, am_s97_16, am_s97_17, am_s97_18, am_s97_21, am_s97_22, am_s97_23, am_s97_26, am_s97_29, am_s97_30, am_s97_33, am_s97_34, am_s97_35, am_s97_38, am_s97_39, am_s97_42, am_s97_43, am_s97_46, am_s97_49, am_s97_50, am_s97_51, am_s97_54, h1, h2, am_cal_ok am_cat_0 am_v0 (am_y119 hn _), am_cal_ok am_cat_0 am_v10 (g1), am_cal_ok am_cat_0 am_v10 (g2), e, e1, am_cal_ok am_cat_0 am_v0 (am_e1 (D := 98)), am_cal_ok am_cat_0 am_v0 (am_e2 (D := 98)), am_cal_ok am_cat_0 am_v0 (am_e3 (D := 98)), am_cal_ok am_cat_0 am_v0 (am_e4 (D := 98)), am_cal_ok am_cat_0 am_v0 (am_e5 (D := 98)), am_cal_ok am_cat_0 am_rcv_f (am_m123 (D := 98) _ _), am_cal_ok am_cat_0 am_rcv_f (am_m121 (D := 97) _), am_cal_ok am_cat_0 am_rcv_f (am_m122 (D := 97) _), am_bI0, am_f0_0, am_f0_1, am_f0_2, am_f0_3, am_f0_4, am_f0_5, am_f0_6, am_f0_7, am_f1_2, am_ec1, am_ec2, am_ec3, am_ec4, am_ec5, am_er_f, am_sy_f, Bool.false_and, Bool.and_false, reduceCtorEq, not_false_eq_true, not_true_eq_false, eq_self, am_os_some, Option.toList_some, Option.toList_none, List.cons_append, List.nil_append, if_true, if_false, true_and, am_nw1_i, am_nw1_r, am_nw1_n, cond_true]
/-- odds -/
def am_O102 (a w : Int32) (s : am_St) : Int32 × am_St :=
  if (am_ip (s.1.1 13 0) a && am_wi w 1) = false then am_er 1 s
  else am_sy (if w.toNatClampNeg = 0 then (if am_wkd s.1.2.1 (s.1.1 2 a.toNatClampNeg) (s.1.1 3 a.toNatClampNeg) 7 = 7 then 1 else nI (am_wkd s.1.2.1 (s.1.1 2 a.toNatClampNeg) (s.1.1 3 a.toNatClampNeg) 7)) else (if am_wkd s.1.2.1 (s.1.1 2 a.toNatClampNeg) (s.1.1 3 a.toNatClampNeg) 7 = 7 ∨ am_wkd s.1.2.1 (s.1.1 2 a.toNatClampNeg) (s.1.1 3 a.toNatClampNeg) 7 = 0 then 1 else 7)) s
theorem am_c102 {a w : Int32} {s : am_St} (hs : am_oks s) : am_cO 102 [.int a, .int w] s (am_O102 a w s) := by
  unfold am_O102
  have h8 := hs.1.1.1
  cases h1 : am_ip (s.1.1 13 0) a with
  | false =>
    refine am_cop_err (k := 1) (by decide) fun X q G hc => am_CD_of (M := am_N102) rfl rfl ?_
    have hn : G 10 8 = nI (s.1.1 13 0) := hc.1.1.2.2.1
    show am_Rn _ _ ((Option.some FieldType.int)) am_J102 0 [some (.ref 0), some (.int a), some (.int w), none] [] (am_L0 q, G) _
    simp only [am_s102_0, am_s102_1, am_s102_2, am_s102_5, am_s102_8, am_s102_9, am_s102_10, am_s102_13, am_s102_16, am_s102_17, am_s102_18, am_s102_21, am_s102_22, am_s102_23, am_s102_26, am_s102_29, am_s102_30, am_s102_31, am_s102_34, am_s102_37, am_s102_40, am_s102_41, am_s102_42, am_s102_45, am_s102_46, am_s102_47, am_s102_50, am_s102_51, am_s102_53, am_s102_56, am_s102_57, am_s102_60, am_s102_61, am_s102_62, am_s102_63, am_s102_65, am_s102_68, am_s102_69, am_s102_72, am_s102_73, am_s102_76, am_s102_78, h1, am_cal_ok am_cat_0 am_v0 (am_y119 hn _), am_cal_ok am_cat_0 am_v0 (am_e1 (D := 98)), am_cal_ok am_cat_0 am_v0 (am_e2 (D := 98)), am_cal_ok am_cat_0 am_v0 (am_e3 (D := 98)), am_cal_ok am_cat_0 am_v0 (am_e4 (D := 98)), am_cal_ok am_cat_0 am_v0 (am_e5 (D := 98)), am_cal_ok am_cat_0 am_rcv_f (am_m123 (D := 98) _ _), am_cal_ok am_cat_0 am_rcv_f (am_m121 (D := 97) _), am_cal_ok am_cat_0 am_rcv_f (am_m122 (D := 97) _), am_bI0, am_f0_0, am_f0_1, am_f0_2, am_f0_3, am_f0_4, am_f0_5, am_f0_6, am_f0_7, am_f1_2, am_ec1, am_ec2, am_ec3, am_ec4, am_ec5, am_er_f, am_sy_f, Bool.false_and, Bool.and_false, reduceCtorEq, not_false_eq_true, not_true_eq_false, eq_self, am_os_some, Option.toList_some, Option.toList_none, List.cons_append, List.nil_append, if_true, if_false, true_and, am_nw1_i, am_nw1_r, am_nw1_n, cond_true]
  | true =>
    cases h2 : am_wi w 1 with
    | false =>
      refine am_cop_err (k := 1) (by decide) fun X q G hc => am_CD_of (M := am_N102) rfl rfl ?_
      have hn : G 10 8 = nI (s.1.1 13 0) := hc.1.1.2.2.1
      show am_Rn _ _ ((Option.some FieldType.int)) am_J102 0 [some (.ref 0), some (.int a), some (.int w), none] [] (am_L0 q, G) _
      simp only [am_s102_0, am_s102_1, am_s102_2, am_s102_5, am_s102_8, am_s102_9, am_s102_10, am_s102_13, am_s102_16, am_s102_17, am_s102_18, am_s102_21, am_s102_22, am_s102_23, am_s102_26, am_s102_29, am_s102_30, am_s102_31, am_s102_34, am_s102_37, am_s102_40, am_s102_41, am_s102_42, am_s102_45, am_s102_46, am_s102_47, am_s102_50, am_s102_51, am_s102_53, am_s102_56, am_s102_57, am_s102_60, am_s102_61, am_s102_62, am_s102_63, am_s102_65, am_s102_68, am_s102_69, am_s102_72, am_s102_73, am_s102_76, am_s102_78, h1, h2, am_cal_ok am_cat_0 am_v0 (am_y119 hn _), am_cal_ok am_cat_0 am_v0 (am_e1 (D := 98)), am_cal_ok am_cat_0 am_v0 (am_e2 (D := 98)), am_cal_ok am_cat_0 am_v0 (am_e3 (D := 98)), am_cal_ok am_cat_0 am_v0 (am_e4 (D := 98)), am_cal_ok am_cat_0 am_v0 (am_e5 (D := 98)), am_cal_ok am_cat_0 am_rcv_f (am_m123 (D := 98) _ _), am_cal_ok am_cat_0 am_rcv_f (am_m121 (D := 97) _), am_cal_ok am_cat_0 am_rcv_f (am_m122 (D := 97) _), am_bI0, am_f0_0, am_f0_1, am_f0_2, am_f0_3, am_f0_4, am_f0_5, am_f0_6, am_f0_7, am_f1_2, am_ec1, am_ec2, am_ec3, am_ec4, am_ec5, am_er_f, am_sy_f, Bool.false_and, Bool.and_false, reduceCtorEq, not_false_eq_true, not_true_eq_false, eq_self, am_os_some, Option.toList_some, Option.toList_none, List.cons_append, List.nil_append, if_true, if_false, true_and, am_nw1_i, am_nw1_r, am_nw1_n, cond_true]
    | true =>
      rw [if_neg (by decide)]
      obtain ⟨a1, a2⟩ := am_ip_nI h8 h1
      obtain ⟨w1, w2⟩ := am_wi_nI (n := 1) (by decide) h2
      generalize a.toNatClampNeg = p at a1 a2
      generalize w.toNatClampNeg = w at w1 w2
      subst a2 w2
      have p8 : p < 8 := by omega
      refine am_cop_same fun N xs q G hc => ?_
      have hn : G 10 8 = nI (s.1.1 13 0) := hc.1.1.2.2.1
      have k2 : G 13 p = nI (s.1.1 2 p) := (hc.1.1.1 p p8).2.2.1
      have ix : am_in (nI p) 8 = true := am_in_nI p8 (by decide)
      have ic : (nI p).toNatClampNeg = p := nI_clamp (by omega)
      obtain ⟨G1, f1, g1⟩ := am_m35 (X := am_X0 N xs) (D := 95) (q := q) (t := s.1.1 2 p) am_10 hc.1.1 hc.1.2.1 hs.1.2.2.1 p8
      have le := am_wkd_le (T := s.1.2.1) (t := s.1.1 2 p) (w := s.1.1 3 p) 7
      generalize am_wkd s.1.2.1 (s.1.1 2 p) (s.1.1 3 p) 7 = k at g1 le
      have e7 : (nI k = 7) = (k = 7) := propext (nI_eq (b := 7) (by omega) (by decide))
      have e0 : (nI k = 0) = (k = 0) := propext (nI_eq (b := 0) (by omega) (by decide))
      have n77 : (nI 7 = 7) = True := by decide
      have n00 : (nI 0 = 0) = True := by decide
      have n07i : (nI 0 = 7) = False := by decide
      refine ⟨q, G1, fun i j h => f1 i j h.1, am_CD_of (M := am_N102) rfl rfl ?_⟩
      match w, w1, h2 with
      | 0, _, h2 =>
        have e : (nI 0 = 0) = True := by decide
        show am_Rn _ _ ((Option.some FieldType.int)) am_J102 0 [some (.ref 0), some (.int (nI p)), some (.int (nI 0)), none] [] (am_L0 q, G) _
        by_cases c : k = 7
        · simp only [am_s102_0, am_s102_1, am_s102_2, am_s102_5, am_s102_8, am_s102_9, am_s102_10, am_s102_13, am_s102_16, am_s102_17, am_s102_18, am_s102_21, am_s102_22, am_s102_23, am_s102_26, am_s102_29, am_s102_30, am_s102_31, am_s102_34, am_s102_37, am_s102_40, am_s102_41, am_s102_42, am_s102_45, am_s102_46, am_s102_47, am_s102_50, am_s102_51, am_s102_53, am_s102_56, am_s102_57, am_s102_60, am_s102_61, am_s102_62, am_s102_63, am_s102_65, am_s102_68, am_s102_69, am_s102_72, am_s102_73, am_s102_76, am_s102_78, h1, h2, am_cal_ok am_cat_0 am_v0 (am_y119 hn _), am_f10_4, am_a13, ix, ic, k2, am_cal_ok am_cat_0 am_v10 (g1), e, e7, c, n77, am_cal_ok am_cat_0 am_v0 (am_e1 (D := 98)), am_cal_ok am_cat_0 am_v0 (am_e2 (D := 98)), am_cal_ok am_cat_0 am_v0 (am_e3 (D := 98)), am_cal_ok am_cat_0 am_v0 (am_e4 (D := 98)), am_cal_ok am_cat_0 am_v0 (am_e5 (D := 98)), am_cal_ok am_cat_0 am_rcv_f (am_m123 (D := 98) _ _), am_cal_ok am_cat_0 am_rcv_f (am_m121 (D := 97) _), am_cal_ok am_cat_0 am_rcv_f (am_m122 (D := 97) _), am_bI0, am_f0_0, am_f0_1, am_f0_2, am_f0_3, am_f0_4, am_f0_5, am_f0_6, am_f0_7, am_f1_2, am_ec1, am_ec2, am_ec3, am_ec4, am_ec5, am_er_f, am_sy_f, Bool.false_and, Bool.and_false, reduceCtorEq, not_false_eq_true, not_true_eq_false, eq_self, am_os_some, Option.toList_some, Option.toList_none, List.cons_append, List.nil_append, if_true, if_false, true_and, am_nw1_i, am_nw1_r, am_nw1_n, cond_true]
        · simp only [am_s102_0, am_s102_1, am_s102_2, am_s102_5, am_s102_8, am_s102_9, am_s102_10, am_s102_13, am_s102_16, am_s102_17, am_s102_18, am_s102_21, am_s102_22, am_s102_23, am_s102_26, am_s102_29, am_s102_30, am_s102_31, am_s102_34, am_s102_37, am_s102_40, am_s102_41, am_s102_42, am_s102_45, am_s102_46, am_s102_47, am_s102_50, am_s102_51, am_s102_53, am_s102_56, am_s102_57, am_s102_60, am_s102_61, am_s102_62, am_s102_63, am_s102_65, am_s102_68, am_s102_69, am_s102_72, am_s102_73, am_s102_76, am_s102_78, h1, h2, am_cal_ok am_cat_0 am_v0 (am_y119 hn _), am_f10_4, am_a13, ix, ic, k2, am_cal_ok am_cat_0 am_v10 (g1), e, e7, c, am_cal_ok am_cat_0 am_v0 (am_e1 (D := 98)), am_cal_ok am_cat_0 am_v0 (am_e2 (D := 98)), am_cal_ok am_cat_0 am_v0 (am_e3 (D := 98)), am_cal_ok am_cat_0 am_v0 (am_e4 (D := 98)), am_cal_ok am_cat_0 am_v0 (am_e5 (D := 98)), am_cal_ok am_cat_0 am_rcv_f (am_m123 (D := 98) _ _), am_cal_ok am_cat_0 am_rcv_f (am_m121 (D := 97) _), am_cal_ok am_cat_0 am_rcv_f (am_m122 (D := 97) _), am_bI0, am_f0_0, am_f0_1, am_f0_2, am_f0_3, am_f0_4, am_f0_5, am_f0_6, am_f0_7, am_f1_2, am_ec1, am_ec2, am_ec3, am_ec4, am_ec5, am_er_f, am_sy_f, Bool.false_and, Bool.and_false, reduceCtorEq, not_false_eq_true, not_true_eq_false, eq_self, am_os_some, Option.toList_some, Option.toList_none, List.cons_append, List.nil_append, if_true, if_false, true_and, am_nw1_i, am_nw1_r, am_nw1_n, cond_true]
      | 1, _, h2 =>
        have e : (nI 1 = 0) = False := by decide
        have e1 : ((1 : Nat) = 0) = False := by decide
        show am_Rn _ _ ((Option.some FieldType.int)) am_J102 0 [some (.ref 0), some (.int (nI p)), some (.int (nI 1)), none] [] (am_L0 q, G) _
        by_cases c : k = 7
        · simp only [am_s102_0, am_s102_1, am_s102_2, am_s102_5, am_s102_8, am_s102_9, am_s102_10, am_s102_13, am_s102_16, am_s102_17, am_s102_18, am_s102_21, am_s102_22, am_s102_23, am_s102_26, am_s102_29, am_s102_30, am_s102_31, am_s102_34, am_s102_37, am_s102_40, am_s102_41, am_s102_42, am_s102_45, am_s102_46, am_s102_47, am_s102_50, am_s102_51, am_s102_53, am_s102_56, am_s102_57, am_s102_60, am_s102_61, am_s102_62, am_s102_63, am_s102_65, am_s102_68, am_s102_69, am_s102_72, am_s102_73, am_s102_76, am_s102_78, h1, h2, am_cal_ok am_cat_0 am_v0 (am_y119 hn _), am_f10_4, am_a13, ix, ic, k2, am_cal_ok am_cat_0 am_v10 (g1), e, e1, e7, e0, c, n77, true_or, am_cal_ok am_cat_0 am_v0 (am_e1 (D := 98)), am_cal_ok am_cat_0 am_v0 (am_e2 (D := 98)), am_cal_ok am_cat_0 am_v0 (am_e3 (D := 98)), am_cal_ok am_cat_0 am_v0 (am_e4 (D := 98)), am_cal_ok am_cat_0 am_v0 (am_e5 (D := 98)), am_cal_ok am_cat_0 am_rcv_f (am_m123 (D := 98) _ _), am_cal_ok am_cat_0 am_rcv_f (am_m121 (D := 97) _), am_cal_ok am_cat_0 am_rcv_f (am_m122 (D := 97) _), am_bI0, am_f0_0, am_f0_1, am_f0_2, am_f0_3, am_f0_4, am_f0_5, am_f0_6, am_f0_7, am_f1_2, am_ec1, am_ec2, am_ec3, am_ec4, am_ec5, am_er_f, am_sy_f, Bool.false_and, Bool.and_false, reduceCtorEq, not_false_eq_true, not_true_eq_false, eq_self, am_os_some, Option.toList_some, Option.toList_none, List.cons_append, List.nil_append, if_true, if_false, true_and, am_nw1_i, am_nw1_r, am_nw1_n, cond_true]
        · by_cases c0 : k = 0
          · have n07 : ((0 : Nat) = 7) = False := by decide
            simp only [am_s102_0, am_s102_1, am_s102_2, am_s102_5, am_s102_8, am_s102_9, am_s102_10, am_s102_13, am_s102_16, am_s102_17, am_s102_18, am_s102_21, am_s102_22, am_s102_23, am_s102_26, am_s102_29, am_s102_30, am_s102_31, am_s102_34, am_s102_37, am_s102_40, am_s102_41, am_s102_42, am_s102_45, am_s102_46, am_s102_47, am_s102_50, am_s102_51, am_s102_53, am_s102_56, am_s102_57, am_s102_60, am_s102_61, am_s102_62, am_s102_63, am_s102_65, am_s102_68, am_s102_69, am_s102_72, am_s102_73, am_s102_76, am_s102_78, h1, h2, am_cal_ok am_cat_0 am_v0 (am_y119 hn _), am_f10_4, am_a13, ix, ic, k2, am_cal_ok am_cat_0 am_v10 (g1), e, e1, e7, e0, c0, n07, n00, n07i, or_true, am_cal_ok am_cat_0 am_v0 (am_e1 (D := 98)), am_cal_ok am_cat_0 am_v0 (am_e2 (D := 98)), am_cal_ok am_cat_0 am_v0 (am_e3 (D := 98)), am_cal_ok am_cat_0 am_v0 (am_e4 (D := 98)), am_cal_ok am_cat_0 am_v0 (am_e5 (D := 98)), am_cal_ok am_cat_0 am_rcv_f (am_m123 (D := 98) _ _), am_cal_ok am_cat_0 am_rcv_f (am_m121 (D := 97) _), am_cal_ok am_cat_0 am_rcv_f (am_m122 (D := 97) _), am_bI0, am_f0_0, am_f0_1, am_f0_2, am_f0_3, am_f0_4, am_f0_5, am_f0_6, am_f0_7, am_f1_2, am_ec1, am_ec2, am_ec3, am_ec4, am_ec5, am_er_f, am_sy_f, Bool.false_and, Bool.and_false, reduceCtorEq, not_false_eq_true, not_true_eq_false, eq_self, am_os_some, Option.toList_some, Option.toList_none, List.cons_append, List.nil_append, if_true, if_false, true_and, am_nw1_i, am_nw1_r, am_nw1_n, cond_true]
          · simp only [am_s102_0, am_s102_1, am_s102_2, am_s102_5, am_s102_8, am_s102_9, am_s102_10, am_s102_13, am_s102_16, am_s102_17, am_s102_18, am_s102_21, am_s102_22, am_s102_23, am_s102_26, am_s102_29, am_s102_30, am_s102_31, am_s102_34, am_s102_37, am_s102_40, am_s102_41, am_s102_42, am_s102_45, am_s102_46, am_s102_47, am_s102_50, am_s102_51, am_s102_53, am_s102_56, am_s102_57, am_s102_60, am_s102_61, am_s102_62, am_s102_63, am_s102_65, am_s102_68, am_s102_69, am_s102_72, am_s102_73, am_s102_76, am_s102_78, h1, h2, am_cal_ok am_cat_0 am_v0 (am_y119 hn _), am_f10_4, am_a13, ix, ic, k2, am_cal_ok am_cat_0 am_v10 (g1), e, e1, e7, e0, c, c0, or_self, am_cal_ok am_cat_0 am_v0 (am_e1 (D := 98)), am_cal_ok am_cat_0 am_v0 (am_e2 (D := 98)), am_cal_ok am_cat_0 am_v0 (am_e3 (D := 98)), am_cal_ok am_cat_0 am_v0 (am_e4 (D := 98)), am_cal_ok am_cat_0 am_v0 (am_e5 (D := 98)), am_cal_ok am_cat_0 am_rcv_f (am_m123 (D := 98) _ _), am_cal_ok am_cat_0 am_rcv_f (am_m121 (D := 97) _), am_cal_ok am_cat_0 am_rcv_f (am_m122 (D := 97) _), am_bI0, am_f0_0, am_f0_1, am_f0_2, am_f0_3, am_f0_4, am_f0_5, am_f0_6, am_f0_7, am_f1_2, am_ec1, am_ec2, am_ec3, am_ec4, am_ec5, am_er_f, am_sy_f, Bool.false_and, Bool.and_false, reduceCtorEq, not_false_eq_true, not_true_eq_false, eq_self, am_os_some, Option.toList_some, Option.toList_none, List.cons_append, List.nil_append, if_true, if_false, true_and, am_nw1_i, am_nw1_r, am_nw1_n, cond_true]
/-- kept -/
def am_O99 (a n : Int32) (s : am_St) : Int32 × am_St :=
  if (am_ip (s.1.1 13 0) a && am_wi n 60) = false then am_er 1 s
  else am_sy (am_kp (am_days s.1.2.1 s.1.2.2.1 8 s.1.1 n.toNatClampNeg) (am_days s.1.2.1 s.1.2.2.1 a.toNatClampNeg s.1.1 n.toNatClampNeg) a.toNatClampNeg (s.1.1 13 0)) s
theorem am_c99 {a n : Int32} {s : am_St} (hs : am_oks s) : am_cO 99 [.int a, .int n] s (am_O99 a n s) := by
  unfold am_O99
  have h8 := hs.1.1.1
  cases h1 : am_ip (s.1.1 13 0) a with
  | false =>
    refine am_cop_err (k := 1) (by decide) fun X q G hc => am_CD_of (M := am_N99) rfl rfl ?_
    have hn : G 10 8 = nI (s.1.1 13 0) := hc.1.1.2.2.1
    show am_Rn _ _ ((Option.some FieldType.int)) am_J99 0 [some (.ref 0), some (.int a), some (.int n)] [] (am_L0 q, G) _
    simp only [am_s99_0, am_s99_1, am_s99_2, am_s99_5, am_s99_8, am_s99_9, am_s99_11, am_s99_14, am_s99_17, am_s99_18, am_s99_19, am_s99_22, am_s99_23, am_s99_24, am_s99_27, am_s99_28, am_s99_29, am_s99_32, h1, am_cal_ok am_cat_0 am_v0 (am_y119 hn _), am_cal_ok am_cat_0 am_v0 (am_e1 (D := 98)), am_cal_ok am_cat_0 am_v0 (am_e2 (D := 98)), am_cal_ok am_cat_0 am_v0 (am_e3 (D := 98)), am_cal_ok am_cat_0 am_v0 (am_e4 (D := 98)), am_cal_ok am_cat_0 am_v0 (am_e5 (D := 98)), am_cal_ok am_cat_0 am_rcv_f (am_m123 (D := 98) _ _), am_cal_ok am_cat_0 am_rcv_f (am_m121 (D := 97) _), am_cal_ok am_cat_0 am_rcv_f (am_m122 (D := 97) _), am_bI0, am_f0_0, am_f0_1, am_f0_2, am_f0_3, am_f0_4, am_f0_5, am_f0_6, am_f0_7, am_f1_2, am_ec1, am_ec2, am_ec3, am_ec4, am_ec5, am_er_f, am_sy_f, Bool.false_and, Bool.and_false, reduceCtorEq, not_false_eq_true, not_true_eq_false, eq_self, am_os_some, Option.toList_some, Option.toList_none, List.cons_append, List.nil_append, if_true, if_false, true_and, am_nw1_i, am_nw1_r, am_nw1_n, cond_true]
  | true =>
    cases h2 : am_wi n 60 with
    | false =>
      refine am_cop_err (k := 1) (by decide) fun X q G hc => am_CD_of (M := am_N99) rfl rfl ?_
      have hn : G 10 8 = nI (s.1.1 13 0) := hc.1.1.2.2.1
      show am_Rn _ _ ((Option.some FieldType.int)) am_J99 0 [some (.ref 0), some (.int a), some (.int n)] [] (am_L0 q, G) _
      simp only [am_s99_0, am_s99_1, am_s99_2, am_s99_5, am_s99_8, am_s99_9, am_s99_11, am_s99_14, am_s99_17, am_s99_18, am_s99_19, am_s99_22, am_s99_23, am_s99_24, am_s99_27, am_s99_28, am_s99_29, am_s99_32, h1, h2, am_cal_ok am_cat_0 am_v0 (am_y119 hn _), am_cal_ok am_cat_0 am_v0 (am_e1 (D := 98)), am_cal_ok am_cat_0 am_v0 (am_e2 (D := 98)), am_cal_ok am_cat_0 am_v0 (am_e3 (D := 98)), am_cal_ok am_cat_0 am_v0 (am_e4 (D := 98)), am_cal_ok am_cat_0 am_v0 (am_e5 (D := 98)), am_cal_ok am_cat_0 am_rcv_f (am_m123 (D := 98) _ _), am_cal_ok am_cat_0 am_rcv_f (am_m121 (D := 97) _), am_cal_ok am_cat_0 am_rcv_f (am_m122 (D := 97) _), am_bI0, am_f0_0, am_f0_1, am_f0_2, am_f0_3, am_f0_4, am_f0_5, am_f0_6, am_f0_7, am_f1_2, am_ec1, am_ec2, am_ec3, am_ec4, am_ec5, am_er_f, am_sy_f, Bool.false_and, Bool.and_false, reduceCtorEq, not_false_eq_true, not_true_eq_false, eq_self, am_os_some, Option.toList_some, Option.toList_none, List.cons_append, List.nil_append, if_true, if_false, true_and, am_nw1_i, am_nw1_r, am_nw1_n, cond_true]
    | true =>
      rw [if_neg (by decide)]
      obtain ⟨a1, a2⟩ := am_ip_nI h8 h1
      obtain ⟨w1, w2⟩ := am_wi_nI (n := 60) (by decide) h2
      generalize a.toNatClampNeg = p at a1 a2
      generalize n.toNatClampNeg = n at w1 w2
      subst a2 w2
      refine am_cop_same fun N xs q G hc => ?_
      have hn : G 10 8 = nI (s.1.1 13 0) := hc.1.1.2.2.1
      obtain ⟨G1, f1, g1⟩ := am_m66 (X := am_X0 N xs) (D := 92) (q := q) (am_cfl_cn hc hs.1) w1 a1
      refine ⟨q, G1, fun i j h => f1 i j (by omega) h.1 h.2.1, am_CD_of (M := am_N99) rfl rfl ?_⟩
      show am_Rn _ _ ((Option.some FieldType.int)) am_J99 0 [some (.ref 0), some (.int (nI p)), some (.int (nI n))] [] (am_L0 q, G) _
      simp only [am_s99_0, am_s99_1, am_s99_2, am_s99_5, am_s99_8, am_s99_9, am_s99_11, am_s99_14, am_s99_17, am_s99_18, am_s99_19, am_s99_22, am_s99_23, am_s99_24, am_s99_27, am_s99_28, am_s99_29, am_s99_32, h1, h2, am_cal_ok am_cat_0 am_v0 (am_y119 hn _), am_cal_ok am_cat_0 am_v59 (g1), am_cal_ok am_cat_0 am_v0 (am_e1 (D := 98)), am_cal_ok am_cat_0 am_v0 (am_e2 (D := 98)), am_cal_ok am_cat_0 am_v0 (am_e3 (D := 98)), am_cal_ok am_cat_0 am_v0 (am_e4 (D := 98)), am_cal_ok am_cat_0 am_v0 (am_e5 (D := 98)), am_cal_ok am_cat_0 am_rcv_f (am_m123 (D := 98) _ _), am_cal_ok am_cat_0 am_rcv_f (am_m121 (D := 97) _), am_cal_ok am_cat_0 am_rcv_f (am_m122 (D := 97) _), am_bI0, am_f0_0, am_f0_1, am_f0_2, am_f0_3, am_f0_4, am_f0_5, am_f0_6, am_f0_7, am_f1_2, am_ec1, am_ec2, am_ec3, am_ec4, am_ec5, am_er_f, am_sy_f, Bool.false_and, Bool.and_false, reduceCtorEq, not_false_eq_true, not_true_eq_false, eq_self, am_os_some, Option.toList_some, Option.toList_none, List.cons_append, List.nil_append, if_true, if_false, true_and, am_nw1_i, am_nw1_r, am_nw1_n, cond_true]
/-- net -/
def am_O100 (a : Int32) (s : am_St) : Int32 × am_St :=
  if am_ip (s.1.1 13 0) a = false then am_er 1 s
  else am_sy (am_nt s.1.1 a.toNatClampNeg 8) s
theorem am_c100 {a : Int32} {s : am_St} (hs : am_oks s) : am_cO 100 [.int a] s (am_O100 a s) := by
  unfold am_O100
  have h8 := hs.1.1.1
  cases h1 : am_ip (s.1.1 13 0) a with
  | false =>
    refine am_cop_err (k := 1) (by decide) fun X q G hc => am_CD_of (M := am_N100) rfl rfl ?_
    have hn : G 10 8 = nI (s.1.1 13 0) := hc.1.1.2.2.1
    show am_Rn _ _ ((Option.some FieldType.int)) am_J100 0 [some (.ref 0), some (.int a)] [] (am_L0 q, G) _
    simp only [am_s100_0, am_s100_1, am_s100_2, am_s100_5, am_s100_8, am_s100_9, am_s100_10, am_s100_13, am_s100_14, am_s100_15, am_s100_18, am_s100_21, am_s100_24, am_s100_25, am_s100_28, h1, am_cal_ok am_cat_0 am_v0 (am_y119 hn _), am_cal_ok am_cat_0 am_v0 (am_e1 (D := 98)), am_cal_ok am_cat_0 am_v0 (am_e2 (D := 98)), am_cal_ok am_cat_0 am_v0 (am_e3 (D := 98)), am_cal_ok am_cat_0 am_v0 (am_e4 (D := 98)), am_cal_ok am_cat_0 am_v0 (am_e5 (D := 98)), am_cal_ok am_cat_0 am_rcv_f (am_m123 (D := 98) _ _), am_cal_ok am_cat_0 am_rcv_f (am_m121 (D := 97) _), am_cal_ok am_cat_0 am_rcv_f (am_m122 (D := 97) _), am_bI0, am_f0_0, am_f0_1, am_f0_2, am_f0_3, am_f0_4, am_f0_5, am_f0_6, am_f0_7, am_f1_2, am_ec1, am_ec2, am_ec3, am_ec4, am_ec5, am_er_f, am_sy_f, Bool.false_and, Bool.and_false, reduceCtorEq, not_false_eq_true, not_true_eq_false, eq_self, am_os_some, Option.toList_some, Option.toList_none, List.cons_append, List.nil_append, if_true, if_false, true_and, am_nw1_i, am_nw1_r, am_nw1_n, cond_true]
  | true =>
    rw [if_neg (by decide)]
    obtain ⟨a1, a2⟩ := am_ip_nI h8 h1
    generalize a.toNatClampNeg = p at a1 a2
    subst a2
    refine am_cop_same fun N xs q G hc => ?_
    have hn : G 10 8 = nI (s.1.1 13 0) := hc.1.1.2.2.1
    have g1 := am_m5 (X := am_X0 N xs) (D := 98) (q := q) (am_ist_p am_10) hc.1.1 (show p < 8 by omega)
    refine ⟨q, G, fun _ _ _ => rfl, am_CD_of (M := am_N100) rfl rfl ?_⟩
    show am_Rn _ _ ((Option.some FieldType.int)) am_J100 0 [some (.ref 0), some (.int (nI p))] [] (am_L0 q, G) _
    simp only [am_s100_0, am_s100_1, am_s100_2, am_s100_5, am_s100_8, am_s100_9, am_s100_10, am_s100_13, am_s100_14, am_s100_15, am_s100_18, am_s100_21, am_s100_24, am_s100_25, am_s100_28, h1, am_cal_ok am_cat_0 am_v0 (am_y119 hn _), am_f10_7, am_cal_ok am_cat_0 am_v16 (g1), am_cal_ok am_cat_0 am_v0 (am_e1 (D := 98)), am_cal_ok am_cat_0 am_v0 (am_e2 (D := 98)), am_cal_ok am_cat_0 am_v0 (am_e3 (D := 98)), am_cal_ok am_cat_0 am_v0 (am_e4 (D := 98)), am_cal_ok am_cat_0 am_v0 (am_e5 (D := 98)), am_cal_ok am_cat_0 am_rcv_f (am_m123 (D := 98) _ _), am_cal_ok am_cat_0 am_rcv_f (am_m121 (D := 97) _), am_cal_ok am_cat_0 am_rcv_f (am_m122 (D := 97) _), am_bI0, am_f0_0, am_f0_1, am_f0_2, am_f0_3, am_f0_4, am_f0_5, am_f0_6, am_f0_7, am_f1_2, am_ec1, am_ec2, am_ec3, am_ec4, am_ec5, am_er_f, am_sy_f, Bool.false_and, Bool.and_false, reduceCtorEq, not_false_eq_true, not_true_eq_false, eq_self, am_os_some, Option.toList_some, Option.toList_none, List.cons_append, List.nil_append, if_true, if_false, true_and, am_nw1_i, am_nw1_r, am_nw1_n, cond_true]
/-- struck -/
def am_O101 (w : Int32) (s : am_St) : Int32 × am_St :=
  if am_wi w 1 = false then am_er 1 s
  else am_sy (if w.toNatClampNeg = 0 then nI (am_stk2 s.1.1).2 else nI (am_al (am_stk2 s.1.1).1 8)) s
theorem am_c101 {w : Int32} {s : am_St} (hs : am_oks s) : am_cO 101 [.int w] s (am_O101 w s) := by
  unfold am_O101
  cases h1 : am_wi w 1 with
  | false =>
    refine am_cop_err (k := 1) (by decide) fun X q G hc => am_CD_of (M := am_N101) rfl rfl ?_
    show am_Rn _ _ ((Option.some FieldType.int)) am_J101 0 [some (.ref 0), some (.int w), none, none] [] (am_L0 q, G) _
    simp only [am_s101_0, am_s101_1, am_s101_2, am_s101_5, am_s101_8, am_s101_9, am_s101_10, am_s101_13, am_s101_14, am_s101_15, am_s101_18, am_s101_19, am_s101_22, am_s101_25, am_s101_26, am_s101_27, am_s101_30, am_s101_31, am_s101_32, am_s101_35, am_s101_36, am_s101_39, am_s101_40, am_s101_43, h1, am_cal_ok am_cat_0 am_v0 (am_e1 (D := 98)), am_cal_ok am_cat_0 am_v0 (am_e2 (D := 98)), am_cal_ok am_cat_0 am_v0 (am_e3 (D := 98)), am_cal_ok am_cat_0 am_v0 (am_e4 (D := 98)), am_cal_ok am_cat_0 am_v0 (am_e5 (D := 98)), am_cal_ok am_cat_0 am_rcv_f (am_m123 (D := 98) _ _), am_cal_ok am_cat_0 am_rcv_f (am_m121 (D := 97) _), am_cal_ok am_cat_0 am_rcv_f (am_m122 (D := 97) _), am_bI0, am_f0_0, am_f0_1, am_f0_2, am_f0_3, am_f0_4, am_f0_5, am_f0_6, am_f0_7, am_f1_2, am_ec1, am_ec2, am_ec3, am_ec4, am_ec5, am_er_f, am_sy_f, Bool.false_and, Bool.and_false, reduceCtorEq, not_false_eq_true, not_true_eq_false, eq_self, am_os_some, Option.toList_some, Option.toList_none, List.cons_append, List.nil_append, if_true, if_false, true_and, am_nw1_i, am_nw1_r, am_nw1_n, cond_true]
  | true =>
    rw [if_neg (by decide)]
    obtain ⟨w1, w2⟩ := am_wi_nI (n := 1) (by decide) h1
    generalize w.toNatClampNeg = w at w1 w2
    subst w2
    refine am_cop_same fun N xs q G hc => ?_
    obtain ⟨G1, f1, c1, g1⟩ := am_m63 (X := am_X0 N xs) (D := 92) (q := q) (am_cfl_cn hc hs.1) (Nat.zero_le 60)
    have g1' : am_CD (am_X0 N xs) 99 63 [.ref 59, .int 0] (am_L0 q, G) = some (some (.ref 60), (am_L0 q, G1)) := g1
    have c1' : am_cp 60 G1 s.1.1 := c1
    obtain ⟨G2, f2, c2, g2⟩ := am_m6 (X := am_X0 N xs) (D := 97) (q := q) (am_ist_p am_60) c1' hs.1.1.2.2.1
    have g4 := am_m4 (X := am_X0 N xs) (D := 98) (q := q) (am_ist_p am_60) c2
    refine ⟨q, G2, fun i j h => by rw [f2 i j (by omega), f1 i j (by omega) h.1 h.2.1], am_CD_of (M := am_N101) rfl rfl ?_⟩
    match w, w1, h1 with
    | 0, _, h1 =>
      have e : (nI 0 = 0) = True := by decide
      show am_Rn _ _ ((Option.some FieldType.int)) am_J101 0 [some (.ref 0), some (.int (nI 0)), none, none] [] (am_L0 q, G) _
      simp only [am_s101_0, am_s101_1, am_s101_2, am_s101_5, am_s101_8, am_s101_9, am_s101_10, am_s101_13, am_s101_14, am_s101_15, am_s101_18, am_s101_19, am_s101_22, am_s101_25, am_s101_26, am_s101_27, am_s101_30, am_s101_31, am_s101_32, am_s101_35, am_s101_36, am_s101_39, am_s101_40, am_s101_43, h1, am_cal_ok am_cat_0 am_v59 (g1'), am_f60_7, am_cal_ok am_cat_0 am_v66 (g2), e, am_cal_ok am_cat_0 am_v0 (am_e1 (D := 98)), am_cal_ok am_cat_0 am_v0 (am_e2 (D := 98)), am_cal_ok am_cat_0 am_v0 (am_e3 (D := 98)), am_cal_ok am_cat_0 am_v0 (am_e4 (D := 98)), am_cal_ok am_cat_0 am_v0 (am_e5 (D := 98)), am_cal_ok am_cat_0 am_rcv_f (am_m123 (D := 98) _ _), am_cal_ok am_cat_0 am_rcv_f (am_m121 (D := 97) _), am_cal_ok am_cat_0 am_rcv_f (am_m122 (D := 97) _), am_bI0, am_f0_0, am_f0_1, am_f0_2, am_f0_3, am_f0_4, am_f0_5, am_f0_6, am_f0_7, am_f1_2, am_ec1, am_ec2, am_ec3, am_ec4, am_ec5, am_er_f, am_sy_f, Bool.false_and, Bool.and_false, reduceCtorEq, not_false_eq_true, not_true_eq_false, eq_self, am_os_some, Option.toList_some, Option.toList_none, List.cons_append, List.nil_append, if_true, if_false, true_and, am_nw1_i, am_nw1_r, am_nw1_n, cond_true]
      rfl
    | 1, _, h1 =>
      have e : (nI 1 = 0) = False := by decide
      have e1 : ((1 : Nat) = 0) = False := by decide
      show am_Rn _ _ ((Option.some FieldType.int)) am_J101 0 [some (.ref 0), some (.int (nI 1)), none, none] [] (am_L0 q, G) _
      simp only [am_s101_0, am_s101_1, am_s101_2, am_s101_5, am_s101_8, am_s101_9, am_s101_10, am_s101_13, am_s101_14, am_s101_15, am_s101_18, am_s101_19, am_s101_22, am_s101_25, am_s101_26, am_s101_27, am_s101_30, am_s101_31, am_s101_32, am_s101_35, am_s101_36, am_s101_39, am_s101_40, am_s101_43, h1, am_cal_ok am_cat_0 am_v59 (g1'), am_f60_7, am_cal_ok am_cat_0 am_v66 (g2), am_cal_ok am_cat_0 am_v66 (g4), e, e1, am_cal_ok am_cat_0 am_v0 (am_e1 (D := 98)), am_cal_ok am_cat_0 am_v0 (am_e2 (D := 98)), am_cal_ok am_cat_0 am_v0 (am_e3 (D := 98)), am_cal_ok am_cat_0 am_v0 (am_e4 (D := 98)), am_cal_ok am_cat_0 am_v0 (am_e5 (D := 98)), am_cal_ok am_cat_0 am_rcv_f (am_m123 (D := 98) _ _), am_cal_ok am_cat_0 am_rcv_f (am_m121 (D := 97) _), am_cal_ok am_cat_0 am_rcv_f (am_m122 (D := 97) _), am_bI0, am_f0_0, am_f0_1, am_f0_2, am_f0_3, am_f0_4, am_f0_5, am_f0_6, am_f0_7, am_f1_2, am_ec1, am_ec2, am_ec3, am_ec4, am_ec5, am_er_f, am_sy_f, Bool.false_and, Bool.and_false, reduceCtorEq, not_false_eq_true, not_true_eq_false, eq_self, am_os_some, Option.toList_some, Option.toList_none, List.cons_append, List.nil_append, if_true, if_false, true_and, am_nw1_i, am_nw1_r, am_nw1_n, cond_true]
      rfl
/-- dry -/
def am_O103 (s : am_St) : Int32 × am_St := match am_dd s.1.2.1 s.1.2.2.1 s.1.1 61 0 with
  | none => am_er 2 s
  | some d => am_sy (nI d) s
theorem am_dd_le {T U : am_T} {S : am_S} : ∀ (d n : Nat) {j : Nat}, am_dd T U S d n = some j → n ≤ j ∧ j < n + d
  | 0, _, _, h => by cases h
  | d + 1, n, j, h => by
    unfold am_dd at h
    split at h
    · cases h; omega
    · have := am_dd_le d (n + 1) h; omega
theorem am_c103 {s : am_St} (hs : am_oks s) : am_cO 103 [] s (am_O103 s) := by
  unfold am_O103
  cases hd : am_dd s.1.2.1 s.1.2.2.1 s.1.1 61 0 with
  | none =>
    intro N xs q G hc
    obtain ⟨G1, f, g⟩ := am_m65 (X := am_X0 N xs) (D := 92) (q := q) (am_cfl_cn hc hs.1)
    rw [hd] at g
    have g' : am_CD (am_X0 N xs) 99 65 [.ref 59] (am_L0 q, G) = some (some (.int (-1)), (am_L0 q, G1)) := g
    have hc1 := am_cfl_fr hc fun i j hi => f i j (by unfold am_kee at hi; omega) (by unfold am_kee at hi; omega) (by unfold am_kee at hi; omega)
    have h5 : ((-1 : Int32) < 0) = True := by decide
    refine ⟨q, _, fun i j hi => by rw [am_up_get, if_neg (by omega), f i j (by omega) (by omega) (by omega)], am_cfl_E hc1 (show 2 < 6 by decide), am_CD_of (M := am_N103) rfl rfl ?_⟩
    show am_Rn _ _ ((Option.some FieldType.int)) am_J103 0 [some (.ref 0), none] [] (am_L0 q, G) _
    simp only [am_s103_0, am_s103_1, am_s103_4, am_s103_7, am_s103_8, am_s103_9, am_s103_12, am_s103_13, am_s103_14, am_s103_17, am_s103_20, am_s103_21, am_cal_ok am_cat_0 am_v59 (g'), h5, am_cal_ok am_cat_0 am_v0 (am_e1 (D := 98)), am_cal_ok am_cat_0 am_v0 (am_e2 (D := 98)), am_cal_ok am_cat_0 am_v0 (am_e3 (D := 98)), am_cal_ok am_cat_0 am_v0 (am_e4 (D := 98)), am_cal_ok am_cat_0 am_v0 (am_e5 (D := 98)), am_cal_ok am_cat_0 am_rcv_f (am_m123 (D := 98) _ _), am_cal_ok am_cat_0 am_rcv_f (am_m121 (D := 97) _), am_cal_ok am_cat_0 am_rcv_f (am_m122 (D := 97) _), am_bI0, am_f0_0, am_f0_1, am_f0_2, am_f0_3, am_f0_4, am_f0_5, am_f0_6, am_f0_7, am_f1_2, am_ec1, am_ec2, am_ec3, am_ec4, am_ec5, am_er_f, am_sy_f, Bool.false_and, Bool.and_false, reduceCtorEq, not_false_eq_true, not_true_eq_false, eq_self, am_os_some, Option.toList_some, Option.toList_none, List.cons_append, List.nil_append, if_true, if_false, true_and, am_nw1_i, am_nw1_r, am_nw1_n, cond_true]
  | some d =>
    have hd6 := am_dd_le 61 0 hd
    dsimp only
    refine am_cop_same fun N xs q G hc => ?_
    obtain ⟨G1, f, g⟩ := am_m65 (X := am_X0 N xs) (D := 92) (q := q) (am_cfl_cn hc hs.1)
    rw [hd] at g
    have g' : am_CD (am_X0 N xs) 99 65 [.ref 59] (am_L0 q, G) = some (some (.int (nI d)), (am_L0 q, G1)) := g
    have h5 : ¬ nI d < 0 := nI_pos (by omega)
    refine ⟨q, G1, fun i j h => f i j (by omega) h.1 h.2.1, am_CD_of (M := am_N103) rfl rfl ?_⟩
    show am_Rn _ _ ((Option.some FieldType.int)) am_J103 0 [some (.ref 0), none] [] (am_L0 q, G) _
    simp only [am_s103_0, am_s103_1, am_s103_4, am_s103_7, am_s103_8, am_s103_9, am_s103_12, am_s103_13, am_s103_14, am_s103_17, am_s103_20, am_s103_21, am_cal_ok am_cat_0 am_v59 (g'), h5, am_cal_ok am_cat_0 am_v0 (am_e1 (D := 98)), am_cal_ok am_cat_0 am_v0 (am_e2 (D := 98)), am_cal_ok am_cat_0 am_v0 (am_e3 (D := 98)), am_cal_ok am_cat_0 am_v0 (am_e4 (D := 98)), am_cal_ok am_cat_0 am_v0 (am_e5 (D := 98)), am_cal_ok am_cat_0 am_rcv_f (am_m123 (D := 98) _ _), am_cal_ok am_cat_0 am_rcv_f (am_m121 (D := 97) _), am_cal_ok am_cat_0 am_rcv_f (am_m122 (D := 97) _), am_bI0, am_f0_0, am_f0_1, am_f0_2, am_f0_3, am_f0_4, am_f0_5, am_f0_6, am_f0_7, am_f1_2, am_ec1, am_ec2, am_ec3, am_ec4, am_ec5, am_er_f, am_sy_f, Bool.false_and, Bool.and_false, reduceCtorEq, not_false_eq_true, not_true_eq_false, eq_self, am_os_some, Option.toList_some, Option.toList_none, List.cons_append, List.nil_append, if_true, if_false, true_and, am_nw1_i, am_nw1_r, am_nw1_n, cond_true]
/-- cover -/
def am_O98 (s : am_St) : Int32 × am_St := match am_cvr s.1.1 (am_gs s.1.2.1 s.1.1 (s.1.1 13 0)) 256 with
  | none => am_er 2 s
  | some d => am_sy (nI d) s
theorem am_c98 {s : am_St} (hs : am_oks s) : am_cO 98 [] s (am_O98 s) := by
  unfold am_O98
  have hD := hs.1.2.1
  cases hd : am_cvr s.1.1 (am_gs s.1.2.1 s.1.1 (s.1.1 13 0)) 256 with
  | none =>
    intro N xs q G hc
    obtain ⟨G1, f, g⟩ := am_m37 (X := am_X0 N xs) (D := 93) (q := q) am_10 hc.1.1 hs.1.1 hc.1.2.1 hs.1.2.2.1 (by omega)
    rw [hd] at g
    have g' : am_CD (am_X0 N xs) 99 37 [.ref 10] (am_L0 q, G) = some (some (.int (-1)), (am_L0 q, G1)) := g
    have hc1 := am_cfl_fr hc fun i j hi => f i j (by unfold am_kee at hi; omega)
    have h5 : ((-1 : Int32) < 0) = True := by decide
    refine ⟨q, _, fun i j hi => by rw [am_up_get, if_neg (by omega), f i j (by omega)], am_cfl_E hc1 (show 2 < 6 by decide), am_CD_of (M := am_N98) rfl rfl ?_⟩
    show am_Rn _ _ ((Option.some FieldType.int)) am_J98 0 [some (.ref 0), none] [] (am_L0 q, G) _
    simp only [am_s98_0, am_s98_1, am_s98_4, am_s98_7, am_s98_10, am_s98_11, am_s98_12, am_s98_15, am_s98_16, am_s98_17, am_s98_20, am_s98_23, am_s98_24, am_cal_ok am_cat_0 am_v10 (g'), h5, am_cal_ok am_cat_0 am_v0 (am_e1 (D := 98)), am_cal_ok am_cat_0 am_v0 (am_e2 (D := 98)), am_cal_ok am_cat_0 am_v0 (am_e3 (D := 98)), am_cal_ok am_cat_0 am_v0 (am_e4 (D := 98)), am_cal_ok am_cat_0 am_v0 (am_e5 (D := 98)), am_cal_ok am_cat_0 am_rcv_f (am_m123 (D := 98) _ _), am_cal_ok am_cat_0 am_rcv_f (am_m121 (D := 97) _), am_cal_ok am_cat_0 am_rcv_f (am_m122 (D := 97) _), am_bI0, am_f0_0, am_f0_1, am_f0_2, am_f0_3, am_f0_4, am_f0_5, am_f0_6, am_f0_7, am_f1_2, am_ec1, am_ec2, am_ec3, am_ec4, am_ec5, am_er_f, am_sy_f, Bool.false_and, Bool.and_false, reduceCtorEq, not_false_eq_true, not_true_eq_false, eq_self, am_os_some, Option.toList_some, Option.toList_none, List.cons_append, List.nil_append, if_true, if_false, true_and, am_nw1_i, am_nw1_r, am_nw1_n, cond_true]
  | some d =>
    have hd6 := am_cvr_lt hd
    dsimp only
    refine am_cop_same fun N xs q G hc => ?_
    obtain ⟨G1, f, g⟩ := am_m37 (X := am_X0 N xs) (D := 93) (q := q) am_10 hc.1.1 hs.1.1 hc.1.2.1 hs.1.2.2.1 (by omega)
    rw [hd] at g
    have g' : am_CD (am_X0 N xs) 99 37 [.ref 10] (am_L0 q, G) = some (some (.int (nI d)), (am_L0 q, G1)) := g
    have h5 : ¬ nI d < 0 := nI_pos (by omega)
    refine ⟨q, G1, fun i j h => f i j h.1, am_CD_of (M := am_N98) rfl rfl ?_⟩
    show am_Rn _ _ ((Option.some FieldType.int)) am_J98 0 [some (.ref 0), none] [] (am_L0 q, G) _
    simp only [am_s98_0, am_s98_1, am_s98_4, am_s98_7, am_s98_10, am_s98_11, am_s98_12, am_s98_15, am_s98_16, am_s98_17, am_s98_20, am_s98_23, am_s98_24, am_cal_ok am_cat_0 am_v10 (g'), h5, am_cal_ok am_cat_0 am_v0 (am_e1 (D := 98)), am_cal_ok am_cat_0 am_v0 (am_e2 (D := 98)), am_cal_ok am_cat_0 am_v0 (am_e3 (D := 98)), am_cal_ok am_cat_0 am_v0 (am_e4 (D := 98)), am_cal_ok am_cat_0 am_v0 (am_e5 (D := 98)), am_cal_ok am_cat_0 am_rcv_f (am_m123 (D := 98) _ _), am_cal_ok am_cat_0 am_rcv_f (am_m121 (D := 97) _), am_cal_ok am_cat_0 am_rcv_f (am_m122 (D := 97) _), am_bI0, am_f0_0, am_f0_1, am_f0_2, am_f0_3, am_f0_4, am_f0_5, am_f0_6, am_f0_7, am_f1_2, am_ec1, am_ec2, am_ec3, am_ec4, am_ec5, am_er_f, am_sy_f, Bool.false_and, Bool.and_false, reduceCtorEq, not_false_eq_true, not_true_eq_false, eq_self, am_os_some, Option.toList_some, Option.toList_none, List.cons_append, List.nil_append, if_true, if_false, true_and, am_nw1_i, am_nw1_r, am_nw1_n, cond_true]
end AMOP4
