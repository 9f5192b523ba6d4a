/-! change, owe, owes, become, as -/
section AMOP2
variable {X : am_X} {q : Nat} {G : am_G}
def am_mx (w : Int32) : Int32 := if w = 0 then 15 else if w = 1 then 999 else 99
def am_O83 (a b c : Int32) (s : am_St) : Int32 × am_St :=
  if (am_ip (s.1.1 13 0) a && am_wi b 2) = false then am_er 1 s
  else if am_wi c (am_mx b) = false then am_er 1 s
  else (nI (s.1.1 (2 + b.toNatClampNeg) a.toNatClampNeg), am_sS (am_su s.1.1 (2 + b.toNatClampNeg) a.toNatClampNeg c.toNatClampNeg) s)
theorem am_c83 {a b c : Int32} {s : am_St} (hs : am_oks s) : am_cO 83 [.int a, .int b, .int c] s (am_O83 a b c s) := by
  unfold am_O83
  have h8 := hs.1.1.1
  cases h1 : am_ip (s.1.1 13 0) a with
  | false =>
    refine am_cop_err (k := 1) (by decide) fun X q G hc => am_CD_of (M := am_N83) rfl rfl ?_
    have hn : G 10 8 = nI (s.1.1 13 0) := hc.1.1.2.2.1
    show am_Rn _ _ ((Option.some FieldType.int)) am_J83 0 [some (.ref 0), some (.int a), some (.int b), some (.int c), none, none, none, none] [] (am_L0 q, G) _
    simp only [am_s83_0, am_s83_1, am_s83_2, am_s83_5, am_s83_8, am_s83_9, am_s83_10, am_s83_13, am_s83_16, am_s83_17, am_s83_18, am_s83_21, am_s83_22, am_s83_23, am_s83_26, am_s83_28, am_s83_31, am_s83_32, am_s83_33, am_s83_36, am_s83_39, am_s83_42, am_s83_44, am_s83_46, am_s83_47, am_s83_49, am_s83_52, am_s83_55, am_s83_56, am_s83_57, am_s83_60, am_s83_61, am_s83_62, am_s83_65, am_s83_68, am_s83_70, am_s83_71, am_s83_74, am_s83_76, am_s83_79, am_s83_82, am_s83_83, am_s83_84, am_s83_87, am_s83_89, am_s83_92, am_s83_95, am_s83_97, am_s83_100, am_s83_102, am_s83_104, am_s83_105, am_s83_106, am_s83_108, am_s83_110, am_s83_111, am_s83_112, am_s83_113, am_s83_115, am_cal_ok am_cat_0 am_v0 (am_y119 hn _), h1, am_cal_ok am_cat_0 am_v0 (am_e1 (D := 98)), am_cal_ok am_cat_0 am_v0 (am_e2 (D := 98)), am_cal_ok am_cat_0 am_v0 (am_e3 (D := 98)), am_cal_ok am_cat_0 am_v0 (am_e4 (D := 98)), am_cal_ok am_cat_0 am_v0 (am_e5 (D := 98)), am_cal_ok am_cat_0 am_rcv_f (am_m123 (D := 98) _ _), am_cal_ok am_cat_0 am_rcv_f (am_m121 (D := 97) _), am_cal_ok am_cat_0 am_rcv_f (am_m122 (D := 97) _), am_bI0, am_f0_0, am_f0_1, am_f0_2, am_f0_3, am_f0_4, am_f0_5, am_f0_6, am_f0_7, am_f1_2, am_ec1, am_ec2, am_ec3, am_ec4, am_ec5, am_er_f, am_sy_f, Bool.false_and, Bool.and_false, reduceCtorEq, not_false_eq_true, not_true_eq_false, eq_self, am_os_some, Option.toList_some, Option.toList_none, List.cons_append, List.nil_append, if_true, if_false, true_and, am_nw1_i, am_nw1_r, am_nw1_n, cond_true]
  | true =>
    cases h2 : am_wi b 2 with
    | false =>
      refine am_cop_err (k := 1) (by decide) fun X q G hc => am_CD_of (M := am_N83) rfl rfl ?_
      have hn : G 10 8 = nI (s.1.1 13 0) := hc.1.1.2.2.1
      show am_Rn _ _ ((Option.some FieldType.int)) am_J83 0 [some (.ref 0), some (.int a), some (.int b), some (.int c), none, none, none, none] [] (am_L0 q, G) _
      simp only [am_s83_0, am_s83_1, am_s83_2, am_s83_5, am_s83_8, am_s83_9, am_s83_10, am_s83_13, am_s83_16, am_s83_17, am_s83_18, am_s83_21, am_s83_22, am_s83_23, am_s83_26, am_s83_28, am_s83_31, am_s83_32, am_s83_33, am_s83_36, am_s83_39, am_s83_42, am_s83_44, am_s83_46, am_s83_47, am_s83_49, am_s83_52, am_s83_55, am_s83_56, am_s83_57, am_s83_60, am_s83_61, am_s83_62, am_s83_65, am_s83_68, am_s83_70, am_s83_71, am_s83_74, am_s83_76, am_s83_79, am_s83_82, am_s83_83, am_s83_84, am_s83_87, am_s83_89, am_s83_92, am_s83_95, am_s83_97, am_s83_100, am_s83_102, am_s83_104, am_s83_105, am_s83_106, am_s83_108, am_s83_110, am_s83_111, am_s83_112, am_s83_113, am_s83_115, am_cal_ok am_cat_0 am_v0 (am_y119 hn _), h1, h2, am_cal_ok am_cat_0 am_v0 (am_e1 (D := 98)), am_cal_ok am_cat_0 am_v0 (am_e2 (D := 98)), am_cal_ok am_cat_0 am_v0 (am_e3 (D := 98)), am_cal_ok am_cat_0 am_v0 (am_e4 (D := 98)), am_cal_ok am_cat_0 am_v0 (am_e5 (D := 98)), am_cal_ok am_cat_0 am_rcv_f (am_m123 (D := 98) _ _), am_cal_ok am_cat_0 am_rcv_f (am_m121 (D := 97) _), am_cal_ok am_cat_0 am_rcv_f (am_m122 (D := 97) _), am_bI0, am_f0_0, am_f0_1, am_f0_2, am_f0_3, am_f0_4, am_f0_5, am_f0_6, am_f0_7, am_f1_2, am_ec1, am_ec2, am_ec3, am_ec4, am_ec5, am_er_f, am_sy_f, Bool.false_and, Bool.and_false, reduceCtorEq, not_false_eq_true, not_true_eq_false, eq_self, am_os_some, Option.toList_some, Option.toList_none, List.cons_append, List.nil_append, if_true, if_false, true_and, am_nw1_i, am_nw1_r, am_nw1_n, cond_true]
    | true =>
      rw [if_neg (by decide)]
      obtain ⟨a1, a2⟩ := am_ip_nI h8 h1
      obtain ⟨b1, b2⟩ := am_wi_nI (n := 2) (by decide) h2
      generalize a.toNatClampNeg = p at a1 a2
      generalize b.toNatClampNeg = w at b1 b2
      subst a2 b2
      have p8 : p < 8 := by omega
      have e10 : (nI 1 = 0) = False := by decide
      have e11 : (nI 1 = 1) = True := by decide
      have e20 : (nI 2 = 0) = False := by decide
      have e21 : (nI 2 = 1) = False := by decide
      have e00 : (nI 0 = 0) = True := by decide
      have m0 : am_mx (nI 0) = 15 := by decide
      have m1 : am_mx (nI 1) = 999 := by decide
      have m2 : am_mx (nI 2) = 99 := by decide
      cases h3 : am_wi c (am_mx (nI w)) with
      | false =>
        rw [if_pos rfl]
        match w, b1, h2, h3 with
        | 0, _, h2, h3 =>
          rw [m0] at h3
          refine am_cop_err (k := 1) (by decide) fun X q G hc => am_CD_of (M := am_N83) rfl rfl ?_
          have hn : G 10 8 = nI (s.1.1 13 0) := hc.1.1.2.2.1
          show am_Rn _ _ ((Option.some FieldType.int)) am_J83 0 [some (.ref 0), some (.int (nI p)), some (.int (nI 0)), some (.int c), none, none, none, none] [] (am_L0 q, G) _
          simp only [am_s83_0, am_s83_1, am_s83_2, am_s83_5, am_s83_8, am_s83_9, am_s83_10, am_s83_13, am_s83_16, am_s83_17, am_s83_18, am_s83_21, am_s83_22, am_s83_23, am_s83_26, am_s83_28, am_s83_31, am_s83_32, am_s83_33, am_s83_36, am_s83_39, am_s83_42, am_s83_44, am_s83_46, am_s83_47, am_s83_49, am_s83_52, am_s83_55, am_s83_56, am_s83_57, am_s83_60, am_s83_61, am_s83_62, am_s83_65, am_s83_68, am_s83_70, am_s83_71, am_s83_74, am_s83_76, am_s83_79, am_s83_82, am_s83_83, am_s83_84, am_s83_87, am_s83_89, am_s83_92, am_s83_95, am_s83_97, am_s83_100, am_s83_102, am_s83_104, am_s83_105, am_s83_106, am_s83_108, am_s83_110, am_s83_111, am_s83_112, am_s83_113, am_s83_115, am_cal_ok am_cat_0 am_v0 (am_y119 hn _), h1, h2, h3, e00, am_cal_ok am_cat_0 am_v0 (am_e1 (D := 98)), am_cal_ok am_cat_0 am_v0 (am_e2 (D := 98)), am_cal_ok am_cat_0 am_v0 (am_e3 (D := 98)), am_cal_ok am_cat_0 am_v0 (am_e4 (D := 98)), am_cal_ok am_cat_0 am_v0 (am_e5 (D := 98)), am_cal_ok am_cat_0 am_rcv_f (am_m123 (D := 98) _ _), am_cal_ok am_cat_0 am_rcv_f (am_m121 (D := 97) _), am_cal_ok am_cat_0 am_rcv_f (am_m122 (D := 97) _), am_bI0, am_f0_0, am_f0_1, am_f0_2, am_f0_3, am_f0_4, am_f0_5, am_f0_6, am_f0_7, am_f1_2, am_ec1, am_ec2, am_ec3, am_ec4, am_ec5, am_er_f, am_sy_f, Bool.false_and, Bool.and_false, reduceCtorEq, not_false_eq_true, not_true_eq_false, eq_self, am_os_some, Option.toList_some, Option.toList_none, List.cons_append, List.nil_append, if_true, if_false, true_and, am_nw1_i, am_nw1_r, am_nw1_n, cond_true]
        | 1, _, h2, h3 =>
          rw [m1] at h3
          refine am_cop_err (k := 1) (by decide) fun X q G hc => am_CD_of (M := am_N83) rfl rfl ?_
          have hn : G 10 8 = nI (s.1.1 13 0) := hc.1.1.2.2.1
          show am_Rn _ _ ((Option.some FieldType.int)) am_J83 0 [some (.ref 0), some (.int (nI p)), some (.int (nI 1)), some (.int c), none, none, none, none] [] (am_L0 q, G) _
          simp only [am_s83_0, am_s83_1, am_s83_2, am_s83_5, am_s83_8, am_s83_9, am_s83_10, am_s83_13, am_s83_16, am_s83_17, am_s83_18, am_s83_21, am_s83_22, am_s83_23, am_s83_26, am_s83_28, am_s83_31, am_s83_32, am_s83_33, am_s83_36, am_s83_39, am_s83_42, am_s83_44, am_s83_46, am_s83_47, am_s83_49, am_s83_52, am_s83_55, am_s83_56, am_s83_57, am_s83_60, am_s83_61, am_s83_62, am_s83_65, am_s83_68, am_s83_70, am_s83_71, am_s83_74, am_s83_76, am_s83_79, am_s83_82, am_s83_83, am_s83_84, am_s83_87, am_s83_89, am_s83_92, am_s83_95, am_s83_97, am_s83_100, am_s83_102, am_s83_104, am_s83_105, am_s83_106, am_s83_108, am_s83_110, am_s83_111, am_s83_112, am_s83_113, am_s83_115, am_cal_ok am_cat_0 am_v0 (am_y119 hn _), h1, h2, h3, e10, e11, am_cal_ok am_cat_0 am_v0 (am_e1 (D := 98)), am_cal_ok am_cat_0 am_v0 (am_e2 (D := 98)), am_cal_ok am_cat_0 am_v0 (am_e3 (D := 98)), am_cal_ok am_cat_0 am_v0 (am_e4 (D := 98)), am_cal_ok am_cat_0 am_v0 (am_e5 (D := 98)), am_cal_ok am_cat_0 am_rcv_f (am_m123 (D := 98) _ _), am_cal_ok am_cat_0 am_rcv_f (am_m121 (D := 97) _), am_cal_ok am_cat_0 am_rcv_f (am_m122 (D := 97) _), am_bI0, am_f0_0, am_f0_1, am_f0_2, am_f0_3, am_f0_4, am_f0_5, am_f0_6, am_f0_7, am_f1_2, am_ec1, am_ec2, am_ec3, am_ec4, am_ec5, am_er_f, am_sy_f, Bool.false_and, Bool.and_false, reduceCtorEq, not_false_eq_true, not_true_eq_false, eq_self, am_os_some, Option.toList_some, Option.toList_none, List.cons_append, List.nil_append, if_true, if_false, true_and, am_nw1_i, am_nw1_r, am_nw1_n, cond_true]
        | 2, _, h2, h3 =>
          rw [m2] at h3
          refine am_cop_err (k := 1) (by decide) fun X q G hc => am_CD_of (M := am_N83) rfl rfl ?_
          have hn : G 10 8 = nI (s.1.1 13 0) := hc.1.1.2.2.1
          show am_Rn _ _ ((Option.some FieldType.int)) am_J83 0 [some (.ref 0), some (.int (nI p)), some (.int (nI 2)), some (.int c), none, none, none, none] [] (am_L0 q, G) _
          simp only [am_s83_0, am_s83_1, am_s83_2, am_s83_5, am_s83_8, am_s83_9, am_s83_10, am_s83_13, am_s83_16, am_s83_17, am_s83_18, am_s83_21, am_s83_22, am_s83_23, am_s83_26, am_s83_28, am_s83_31, am_s83_32, am_s83_33, am_s83_36, am_s83_39, am_s83_42, am_s83_44, am_s83_46, am_s83_47, am_s83_49, am_s83_52, am_s83_55, am_s83_56, am_s83_57, am_s83_60, am_s83_61, am_s83_62, am_s83_65, am_s83_68, am_s83_70, am_s83_71, am_s83_74, am_s83_76, am_s83_79, am_s83_82, am_s83_83, am_s83_84, am_s83_87, am_s83_89, am_s83_92, am_s83_95, am_s83_97, am_s83_100, am_s83_102, am_s83_104, am_s83_105, am_s83_106, am_s83_108, am_s83_110, am_s83_111, am_s83_112, am_s83_113, am_s83_115, am_cal_ok am_cat_0 am_v0 (am_y119 hn _), h1, h2, h3, e20, e21, am_cal_ok am_cat_0 am_v0 (am_e1 (D := 98)), am_cal_ok am_cat_0 am_v0 (am_e2 (D := 98)), am_cal_ok am_cat_0 am_v0 (am_e3 (D := 98)), am_cal_ok am_cat_0 am_v0 (am_e4 (D := 98)), am_cal_ok am_cat_0 am_v0 (am_e5 (D := 98)), am_cal_ok am_cat_0 am_rcv_f (am_m123 (D := 98) _ _), am_cal_ok am_cat_0 am_rcv_f (am_m121 (D := 97) _), am_cal_ok am_cat_0 am_rcv_f (am_m122 (D := 97) _), am_bI0, am_f0_0, am_f0_1, am_f0_2, am_f0_3, am_f0_4, am_f0_5, am_f0_6, am_f0_7, am_f1_2, am_ec1, am_ec2, am_ec3, am_ec4, am_ec5, am_er_f, am_sy_f, Bool.false_and, Bool.and_false, reduceCtorEq, not_false_eq_true, not_true_eq_false, eq_self, am_os_some, Option.toList_some, Option.toList_none, List.cons_append, List.nil_append, if_true, if_false, true_and, am_nw1_i, am_nw1_r, am_nw1_n, cond_true]
      | true =>
        rw [if_neg (by decide)]
        intro N xs q G hc
        have hn : G 10 8 = nI (s.1.1 13 0) := hc.1.1.2.2.1
        obtain ⟨k0, k1, k2, k3, k4⟩ := hc.1.1.1 p p8
        have k2' : G 13 p = nI (s.1.1 2 p) := k2
        have k3' : G 14 p = nI (s.1.1 3 p) := k3
        have k4' : G 15 p = nI (s.1.1 4 p) := k4
        have ix : am_in (nI p) 8 = true := am_in_nI p8 (by decide)
        have ic : (nI p).toNatClampNeg = p := nI_clamp (by omega)
        have fin : ∀ w, w < 3 → c = nI c.toNatClampNeg → am_CD (am_X0 N xs) 100 83 [.ref 0, .int (nI p), .int (nI w), .int c] (am_L0 q, G) = some (some (.int (nI (s.1.1 (2 + w) p))), (am_L0 q, am_up G (13 + w) p (nI c.toNatClampNeg))) → ∃ (q1 : Nat) (G1 : am_G), (∀ i j, 114 ≤ i → G1 i j = G i j) ∧ am_cfl G1 (am_su s.1.1 (2 + w) p c.toNatClampNeg, s.1.2) s.2.1 s.2.2.1 s.2.2.2.1 s.2.2.2.2.1 s.2.2.2.2.2 ∧ am_CD (am_X0 N xs) 100 83 [.ref 0, .int (nI p), .int (nI w), .int c] (am_L0 q, G) = some (some (.int (nI (s.1.1 (2 + w) p))), (am_L0 q1, G1)) := fun w hw hcc h => by
          have cp := am_cp_up (f := 2 + w) (v := c.toNatClampNeg) hc.1.1 (by omega) p8
          rw [show 1 + 9 + 1 + (2 + w) = 13 + w by omega] at cp
          exact ⟨q, _, fun i j hi => by rw [am_up_get, if_neg (by omega)], am_cfl_S hc (fun i j _ hi _ => by rw [am_up_get, if_neg (by omega)]) cp (by rw [am_up_get, if_neg (by omega)]), h⟩
        match w, b1, h2, h3 with
        | 0, _, h2, h3 =>
          rw [m0] at h3
          have cc := (am_wi_nI (n := 15) (by decide) h3).2
          refine fin 0 (by decide) cc (am_CD_of (M := am_N83) rfl rfl ?_)
          rw [← cc]
          show am_Rn _ _ ((Option.some FieldType.int)) am_J83 0 [some (.ref 0), some (.int (nI p)), some (.int (nI 0)), some (.int c), none, none, none, none] [] (am_L0 q, G) _
          simp only [am_s83_0, am_s83_1, am_s83_2, am_s83_5, am_s83_8, am_s83_9, am_s83_10, am_s83_13, am_s83_16, am_s83_17, am_s83_18, am_s83_21, am_s83_22, am_s83_23, am_s83_26, am_s83_28, am_s83_31, am_s83_32, am_s83_33, am_s83_36, am_s83_39, am_s83_42, am_s83_44, am_s83_46, am_s83_47, am_s83_49, am_s83_52, am_s83_55, am_s83_56, am_s83_57, am_s83_60, am_s83_61, am_s83_62, am_s83_65, am_s83_68, am_s83_70, am_s83_71, am_s83_74, am_s83_76, am_s83_79, am_s83_82, am_s83_83, am_s83_84, am_s83_87, am_s83_89, am_s83_92, am_s83_95, am_s83_97, am_s83_100, am_s83_102, am_s83_104, am_s83_105, am_s83_106, am_s83_108, am_s83_110, am_s83_111, am_s83_112, am_s83_113, am_s83_115, am_cal_ok am_cat_0 am_v0 (am_y119 hn _), h1, h2, h3, e00, am_f10_4, am_a13, am_t13, ix, ic, k2', am_cal_ok am_cat_0 am_v0 (am_e1 (D := 98)), am_cal_ok am_cat_0 am_v0 (am_e2 (D := 98)), am_cal_ok am_cat_0 am_v0 (am_e3 (D := 98)), am_cal_ok am_cat_0 am_v0 (am_e4 (D := 98)), am_cal_ok am_cat_0 am_v0 (am_e5 (D := 98)), am_cal_ok am_cat_0 am_rcv_f (am_m123 (D := 98) _ _), am_cal_ok am_cat_0 am_rcv_f (am_m121 (D := 97) _), am_cal_ok am_cat_0 am_rcv_f (am_m122 (D := 97) _), am_bI0, am_f0_0, am_f0_1, am_f0_2, am_f0_3, am_f0_4, am_f0_5, am_f0_6, am_f0_7, am_f1_2, am_ec1, am_ec2, am_ec3, am_ec4, am_ec5, am_er_f, am_sy_f, Bool.false_and, Bool.and_false, reduceCtorEq, not_false_eq_true, not_true_eq_false, eq_self, am_os_some, Option.toList_some, Option.toList_none, List.cons_append, List.nil_append, if_true, if_false, true_and, am_nw1_i, am_nw1_r, am_nw1_n, cond_true]
        | 1, _, h2, h3 =>
          rw [m1] at h3
          have cc := (am_wi_nI (n := 999) (by decide) h3).2
          refine fin 1 (by decide) cc (am_CD_of (M := am_N83) rfl rfl ?_)
          rw [← cc]
          show am_Rn _ _ ((Option.some FieldType.int)) am_J83 0 [some (.ref 0), some (.int (nI p)), some (.int (nI 1)), some (.int c), none, none, none, none] [] (am_L0 q, G) _
          simp only [am_s83_0, am_s83_1, am_s83_2, am_s83_5, am_s83_8, am_s83_9, am_s83_10, am_s83_13, am_s83_16, am_s83_17, am_s83_18, am_s83_21, am_s83_22, am_s83_23, am_s83_26, am_s83_28, am_s83_31, am_s83_32, am_s83_33, am_s83_36, am_s83_39, am_s83_42, am_s83_44, am_s83_46, am_s83_47, am_s83_49, am_s83_52, am_s83_55, am_s83_56, am_s83_57, am_s83_60, am_s83_61, am_s83_62, am_s83_65, am_s83_68, am_s83_70, am_s83_71, am_s83_74, am_s83_76, am_s83_79, am_s83_82, am_s83_83, am_s83_84, am_s83_87, am_s83_89, am_s83_92, am_s83_95, am_s83_97, am_s83_100, am_s83_102, am_s83_104, am_s83_105, am_s83_106, am_s83_108, am_s83_110, am_s83_111, am_s83_112, am_s83_113, am_s83_115, am_cal_ok am_cat_0 am_v0 (am_y119 hn _), h1, h2, h3, e10, e11, am_f10_5, am_a14, am_t14, ix, ic, k3', am_cal_ok am_cat_0 am_v0 (am_e1 (D := 98)), am_cal_ok am_cat_0 am_v0 (am_e2 (D := 98)), am_cal_ok am_cat_0 am_v0 (am_e3 (D := 98)), am_cal_ok am_cat_0 am_v0 (am_e4 (D := 98)), am_cal_ok am_cat_0 am_v0 (am_e5 (D := 98)), am_cal_ok am_cat_0 am_rcv_f (am_m123 (D := 98) _ _), am_cal_ok am_cat_0 am_rcv_f (am_m121 (D := 97) _), am_cal_ok am_cat_0 am_rcv_f (am_m122 (D := 97) _), am_bI0, am_f0_0, am_f0_1, am_f0_2, am_f0_3, am_f0_4, am_f0_5, am_f0_6, am_f0_7, am_f1_2, am_ec1, am_ec2, am_ec3, am_ec4, am_ec5, am_er_f, am_sy_f, Bool.false_and, Bool.and_false, reduceCtorEq, not_false_eq_true, not_true_eq_false, eq_self, am_os_some, Option.toList_some, Option.toList_none, List.cons_append, List.nil_append, if_true, if_false, true_and, am_nw1_i, am_nw1_r, am_nw1_n, cond_true]
        | 2, _, h2, h3 =>
          rw [m2] at h3
          have cc := (am_wi_nI (n := 99) (by decide) h3).2
          refine fin 2 (by decide) cc (am_CD_of (M := am_N83) rfl rfl ?_)
          rw [← cc]
          show am_Rn _ _ ((Option.some FieldType.int)) am_J83 0 [some (.ref 0), some (.int (nI p)), some (.int (nI 2)), some (.int c), none, none, none, none] [] (am_L0 q, G) _
          simp only [am_s83_0, am_s83_1, am_s83_2, am_s83_5, am_s83_8, am_s83_9, am_s83_10, am_s83_13, am_s83_16, am_s83_17, am_s83_18, am_s83_21, am_s83_22, am_s83_23, am_s83_26, am_s83_28, am_s83_31, am_s83_32, am_s83_33, am_s83_36, am_s83_39, am_s83_42, am_s83_44, am_s83_46, am_s83_47, am_s83_49, am_s83_52, am_s83_55, am_s83_56, am_s83_57, am_s83_60, am_s83_61, am_s83_62, am_s83_65, am_s83_68, am_s83_70, am_s83_71, am_s83_74, am_s83_76, am_s83_79, am_s83_82, am_s83_83, am_s83_84, am_s83_87, am_s83_89, am_s83_92, am_s83_95, am_s83_97, am_s83_100, am_s83_102, am_s83_104, am_s83_105, am_s83_106, am_s83_108, am_s83_110, am_s83_111, am_s83_112, am_s83_113, am_s83_115, am_cal_ok am_cat_0 am_v0 (am_y119 hn _), h1, h2, h3, e20, e21, am_f10_6, am_a15, am_t15, ix, ic, k4', am_cal_ok am_cat_0 am_v0 (am_e1 (D := 98)), am_cal_ok am_cat_0 am_v0 (am_e2 (D := 98)), am_cal_ok am_cat_0 am_v0 (am_e3 (D := 98)), am_cal_ok am_cat_0 am_v0 (am_e4 (D := 98)), am_cal_ok am_cat_0 am_v0 (am_e5 (D := 98)), am_cal_ok am_cat_0 am_rcv_f (am_m123 (D := 98) _ _), am_cal_ok am_cat_0 am_rcv_f (am_m121 (D := 97) _), am_cal_ok am_cat_0 am_rcv_f (am_m122 (D := 97) _), am_bI0, am_f0_0, am_f0_1, am_f0_2, am_f0_3, am_f0_4, am_f0_5, am_f0_6, am_f0_7, am_f1_2, am_ec1, am_ec2, am_ec3, am_ec4, am_ec5, am_er_f, am_sy_f, Bool.false_and, Bool.and_false, reduceCtorEq, not_false_eq_true, not_true_eq_false, eq_self, am_os_some, Option.toList_some, Option.toList_none, List.cons_append, List.nil_append, if_true, if_false, true_and, am_nw1_i, am_nw1_r, am_nw1_n, cond_true]
/-- owe -/
theorem am_ipp_nI {n : Nat} {a b : Int32} (hn : n ≤ 8) (h : am_ipp n a b = true) : a.toNatClampNeg < n ∧ a = nI a.toNatClampNeg ∧ b.toNatClampNeg < n ∧ b = nI b.toNatClampNeg ∧ a.toNatClampNeg ≠ b.toNatClampNeg := by
  unfold am_ipp at h
  rw [Bool.and_eq_true, Bool.and_eq_true] at h
  obtain ⟨h1, h2, h3⟩ := h
  obtain ⟨a1, a2⟩ := am_ip_nI hn h1
  obtain ⟨b1, b2⟩ := am_ip_nI hn h2
  exact ⟨a1, a2, b1, b2, fun e => of_decide_eq_true h3 (by rw [a2, b2, e])⟩
def am_O84 (a b c : Int32) (s : am_St) : Int32 × am_St :=
  if (am_ipp (s.1.1 13 0) a b && am_wi c 99) = false then am_er 1 s
  else (nI (s.1.1 (5 + a.toNatClampNeg) b.toNatClampNeg), am_sS (am_su s.1.1 (5 + a.toNatClampNeg) b.toNatClampNeg c.toNatClampNeg) s)
theorem am_rld17 {p : Nat} (hp : p < 8) : am_rld (am_L0 q, G) 17 (nI p) = some (18 + p) := am_ra (a := 10) (am_ist_p am_10) hp
theorem am_ald18 {p r : Nat} (hp : p < 8) (hr : r < 8) : am_ald X (am_L0 q, G) (18 + p) (nI r) = some (G (18 + p) r) := am_ad (a := 10) (am_ist_p am_10) hp hr
theorem am_ast18 {p r : Nat} {x : Int32} (hp : p < 8) (hr : r < 8) : am_astM (am_L0 q, G) (18 + p) (nI r) x = some (am_L0 q, am_up G (18 + p) r x) := am_td (a := 10) (am_ist_p am_10) hp hr
theorem am_c84 {a b c : Int32} {s : am_St} (hs : am_oks s) : am_cO 84 [.int a, .int b, .int c] s (am_O84 a b c s) := by
  unfold am_O84
  have h8 := hs.1.1.1
  cases h1 : am_ipp (s.1.1 13 0) a b with
  | false =>
    refine am_cop_err (k := 1) (by decide) fun X q G hc => am_CD_of (M := am_N84) rfl rfl ?_
    have hn : G 10 8 = nI (s.1.1 13 0) := hc.1.1.2.2.1
    show am_Rn _ _ ((Option.some FieldType.int)) am_J84 0 [some (.ref 0), some (.int a), some (.int b), some (.int c), none, none] [] (am_L0 q, G) _
    simp only [am_s84_0, am_s84_1, am_s84_2, am_s84_3, am_s84_6, am_s84_9, am_s84_10, am_s84_12, am_s84_15, am_s84_18, am_s84_19, am_s84_20, am_s84_23, am_s84_24, am_s84_25, am_s84_28, am_s84_31, am_s84_34, am_s84_37, am_s84_38, am_s84_39, am_s84_41, am_s84_43, am_s84_44, am_s84_45, am_s84_47, am_s84_49, am_s84_50, am_s84_51, am_s84_52, am_s84_54, am_cal_ok am_cat_0 am_v0 (am_y120 hn _ _), h1, am_cal_ok am_cat_0 am_v0 (am_e1 (D := 98)), am_cal_ok am_cat_0 am_v0 (am_e2 (D := 98)), am_cal_ok am_cat_0 am_v0 (am_e3 (D := 98)), am_cal_ok am_cat_0 am_v0 (am_e4 (D := 98)), am_cal_ok am_cat_0 am_v0 (am_e5 (D := 98)), am_cal_ok am_cat_0 am_rcv_f (am_m123 (D := 98) _ _), am_cal_ok am_cat_0 am_rcv_f (am_m121 (D := 97) _), am_cal_ok am_cat_0 am_rcv_f (am_m122 (D := 97) _), am_bI0, am_f0_0, am_f0_1, am_f0_2, am_f0_3, am_f0_4, am_f0_5, am_f0_6, am_f0_7, am_f1_2, am_ec1, am_ec2, am_ec3, am_ec4, am_ec5, am_er_f, am_sy_f, Bool.false_and, Bool.and_false, reduceCtorEq, not_false_eq_true, not_true_eq_false, eq_self, am_os_some, Option.toList_some, Option.toList_none, List.cons_append, List.nil_append, if_true, if_false, true_and, am_nw1_i, am_nw1_r, am_nw1_n, cond_true]
  | true =>
    cases h2 : am_wi c 99 with
    | false =>
      refine am_cop_err (k := 1) (by decide) fun X q G hc => am_CD_of (M := am_N84) rfl rfl ?_
      have hn : G 10 8 = nI (s.1.1 13 0) := hc.1.1.2.2.1
      show am_Rn _ _ ((Option.some FieldType.int)) am_J84 0 [some (.ref 0), some (.int a), some (.int b), some (.int c), none, none] [] (am_L0 q, G) _
      simp only [am_s84_0, am_s84_1, am_s84_2, am_s84_3, am_s84_6, am_s84_9, am_s84_10, am_s84_12, am_s84_15, am_s84_18, am_s84_19, am_s84_20, am_s84_23, am_s84_24, am_s84_25, am_s84_28, am_s84_31, am_s84_34, am_s84_37, am_s84_38, am_s84_39, am_s84_41, am_s84_43, am_s84_44, am_s84_45, am_s84_47, am_s84_49, am_s84_50, am_s84_51, am_s84_52, am_s84_54, am_cal_ok am_cat_0 am_v0 (am_y120 hn _ _), h1, h2, am_cal_ok am_cat_0 am_v0 (am_e1 (D := 98)), am_cal_ok am_cat_0 am_v0 (am_e2 (D := 98)), am_cal_ok am_cat_0 am_v0 (am_e3 (D := 98)), am_cal_ok am_cat_0 am_v0 (am_e4 (D := 98)), am_cal_ok am_cat_0 am_v0 (am_e5 (D := 98)), am_cal_ok am_cat_0 am_rcv_f (am_m123 (D := 98) _ _), am_cal_ok am_cat_0 am_rcv_f (am_m121 (D := 97) _), am_cal_ok am_cat_0 am_rcv_f (am_m122 (D := 97) _), am_bI0, am_f0_0, am_f0_1, am_f0_2, am_f0_3, am_f0_4, am_f0_5, am_f0_6, am_f0_7, am_f1_2, am_ec1, am_ec2, am_ec3, am_ec4, am_ec5, am_er_f, am_sy_f, Bool.false_and, Bool.and_false, reduceCtorEq, not_false_eq_true, not_true_eq_false, eq_self, am_os_some, Option.toList_some, Option.toList_none, List.cons_append, List.nil_append, if_true, if_false, true_and, am_nw1_i, am_nw1_r, am_nw1_n, cond_true]
    | true =>
      rw [if_neg (by decide)]
      obtain ⟨a1, a2, b1, b2, ab⟩ := am_ipp_nI h8 h1
      have cc := (am_wi_nI (n := 99) (by decide) h2).2
      generalize a.toNatClampNeg = p at a1 a2
      generalize b.toNatClampNeg = r at b1 b2
      subst a2 b2
      intro N xs q G hc
      have hn : G 10 8 = nI (s.1.1 13 0) := hc.1.1.2.2.1
      have kk : G (18 + p) r = nI (s.1.1 (5 + p) r) := hc.1.1.2.1 p r (by omega) (by omega)
      refine ⟨q, am_up G (18 + p) r (nI c.toNatClampNeg), fun i j hi => by rw [am_up_get, if_neg (by omega)], am_cfl_S hc (fun i j _ hi _ => by rw [am_up_get, if_neg (by omega)]) (am_cp_upd hc.1.1 (by omega) (by omega)) (by rw [am_up_get, if_neg (by omega)]), am_CD_of (M := am_N84) rfl rfl ?_⟩
      rw [← cc]
      show am_Rn _ _ ((Option.some FieldType.int)) am_J84 0 [some (.ref 0), some (.int (nI p)), some (.int (nI r)), some (.int c), none, none] [] (am_L0 q, G) _
      simp only [am_s84_0, am_s84_1, am_s84_2, am_s84_3, am_s84_6, am_s84_9, am_s84_10, am_s84_12, am_s84_15, am_s84_18, am_s84_19, am_s84_20, am_s84_23, am_s84_24, am_s84_25, am_s84_28, am_s84_31, am_s84_34, am_s84_37, am_s84_38, am_s84_39, am_s84_41, am_s84_43, am_s84_44, am_s84_45, am_s84_47, am_s84_49, am_s84_50, am_s84_51, am_s84_52, am_s84_54, am_cal_ok am_cat_0 am_v0 (am_y120 hn _ _), h1, h2, am_f10_7, am_f16_0, am_rld17 (show p < 8 by omega), am_ald18 (show p < 8 by omega) (show r < 8 by omega), am_ast18 (show p < 8 by omega) (show r < 8 by omega), kk, am_cal_ok am_cat_0 am_v0 (am_e1 (D := 98)), am_cal_ok am_cat_0 am_v0 (am_e2 (D := 98)), am_cal_ok am_cat_0 am_v0 (am_e3 (D := 98)), am_cal_ok am_cat_0 am_v0 (am_e4 (D := 98)), am_cal_ok am_cat_0 am_v0 (am_e5 (D := 98)), am_cal_ok am_cat_0 am_rcv_f (am_m123 (D := 98) _ _), am_cal_ok am_cat_0 am_rcv_f (am_m121 (D := 97) _), am_cal_ok am_cat_0 am_rcv_f (am_m122 (D := 97) _), am_bI0, am_f0_0, am_f0_1, am_f0_2, am_f0_3, am_f0_4, am_f0_5, am_f0_6, am_f0_7, am_f1_2, am_ec1, am_ec2, am_ec3, am_ec4, am_ec5, am_er_f, am_sy_f, Bool.false_and, Bool.and_false, reduceCtorEq, not_false_eq_true, not_true_eq_false, eq_self, am_os_some, Option.toList_some, Option.toList_none, List.cons_append, List.nil_append, if_true, if_false, true_and, am_nw1_i, am_nw1_r, am_nw1_n, cond_true]
/-- owes -/
def am_O85 (a b : Int32) (s : am_St) : Int32 × am_St :=
  if am_ipp (s.1.1 13 0) a b = false then am_er 1 s
  else am_sy (nI (s.1.1 (5 + a.toNatClampNeg) b.toNatClampNeg)) s
theorem am_c85 {a b : Int32} {s : am_St} (hs : am_oks s) : am_cO 85 [.int a, .int b] s (am_O85 a b s) := by
  unfold am_O85
  have h8 := hs.1.1.1
  cases h1 : am_ipp (s.1.1 13 0) a b with
  | false =>
    refine am_cop_err (k := 1) (by decide) fun X q G hc => am_CD_of (M := am_N85) rfl rfl ?_
    have hn : G 10 8 = nI (s.1.1 13 0) := hc.1.1.2.2.1
    show am_Rn _ _ ((Option.some FieldType.int)) am_J85 0 [some (.ref 0), some (.int a), some (.int b)] [] (am_L0 q, G) _
    simp only [am_s85_0, am_s85_1, am_s85_2, am_s85_3, am_s85_6, am_s85_9, am_s85_10, am_s85_11, am_s85_14, am_s85_15, am_s85_16, am_s85_19, am_s85_22, am_s85_25, am_s85_28, am_s85_29, am_s85_30, am_s85_31, am_s85_32, am_cal_ok am_cat_0 am_v0 (am_y120 hn _ _), h1, am_cal_ok am_cat_0 am_v0 (am_e1 (D := 98)), am_cal_ok am_cat_0 am_v0 (am_e2 (D := 98)), am_cal_ok am_cat_0 am_v0 (am_e3 (D := 98)), am_cal_ok am_cat_0 am_v0 (am_e4 (D := 98)), am_cal_ok am_cat_0 am_v0 (am_e5 (D := 98)), am_cal_ok am_cat_0 am_rcv_f (am_m123 (D := 98) _ _), am_cal_ok am_cat_0 am_rcv_f (am_m121 (D := 97) _), am_cal_ok am_cat_0 am_rcv_f (am_m122 (D := 97) _), am_bI0, am_f0_0, am_f0_1, am_f0_2, am_f0_3, am_f0_4, am_f0_5, am_f0_6, am_f0_7, am_f1_2, am_ec1, am_ec2, am_ec3, am_ec4, am_ec5, am_er_f, am_sy_f, Bool.false_and, Bool.and_false, reduceCtorEq, not_false_eq_true, not_true_eq_false, eq_self, am_os_some, Option.toList_some, Option.toList_none, List.cons_append, List.nil_append, if_true, if_false, true_and, am_nw1_i, am_nw1_r, am_nw1_n, cond_true]
  | true =>
    rw [if_neg (by decide)]
    obtain ⟨a1, a2, b1, b2, ab⟩ := am_ipp_nI h8 h1
    generalize a.toNatClampNeg = p at a1 a2
    generalize b.toNatClampNeg = r at b1 b2
    subst a2 b2
    refine am_cop_same fun N xs q G hc => ?_
    have hn : G 10 8 = nI (s.1.1 13 0) := hc.1.1.2.2.1
    have kk : G (18 + p) r = nI (s.1.1 (5 + p) r) := hc.1.1.2.1 p r (by omega) (by omega)
    refine ⟨q, G, fun _ _ _ => rfl, am_CD_of (M := am_N85) rfl rfl ?_⟩
    show am_Rn _ _ ((Option.some FieldType.int)) am_J85 0 [some (.ref 0), some (.int (nI p)), some (.int (nI r))] [] (am_L0 q, G) _
    simp only [am_s85_0, am_s85_1, am_s85_2, am_s85_3, am_s85_6, am_s85_9, am_s85_10, am_s85_11, am_s85_14, am_s85_15, am_s85_16, am_s85_19, am_s85_22, am_s85_25, am_s85_28, am_s85_29, am_s85_30, am_s85_31, am_s85_32, am_cal_ok am_cat_0 am_v0 (am_y120 hn _ _), h1, am_f10_7, am_f16_0, am_rld17 (show p < 8 by omega), am_ald18 (show p < 8 by omega) (show r < 8 by omega), kk, am_cal_ok am_cat_0 am_v0 (am_e1 (D := 98)), am_cal_ok am_cat_0 am_v0 (am_e2 (D := 98)), am_cal_ok am_cat_0 am_v0 (am_e3 (D := 98)), am_cal_ok am_cat_0 am_v0 (am_e4 (D := 98)), am_cal_ok am_cat_0 am_v0 (am_e5 (D := 98)), am_cal_ok am_cat_0 am_rcv_f (am_m123 (D := 98) _ _), am_cal_ok am_cat_0 am_rcv_f (am_m121 (D := 97) _), am_cal_ok am_cat_0 am_rcv_f (am_m122 (D := 97) _), am_bI0, am_f0_0, am_f0_1, am_f0_2, am_f0_3, am_f0_4, am_f0_5, am_f0_6, am_f0_7, am_f1_2, am_ec1, am_ec2, am_ec3, am_ec4, am_ec5, am_er_f, am_sy_f, Bool.false_and, Bool.and_false, reduceCtorEq, not_false_eq_true, not_true_eq_false, eq_self, am_os_some, Option.toList_some, Option.toList_none, List.cons_append, List.nil_append, if_true, if_false, true_and, am_nw1_i, am_nw1_r, am_nw1_n, cond_true]
/-- become -/
def am_O86 (a b : Int32) (s : am_St) : Int32 × am_St :=
  if (am_ip (s.1.1 13 0) a && am_wi b 69) = false then am_er 1 s
  else (nI (s.1.1 0 a.toNatClampNeg), am_sS (am_be s.1.1 a.toNatClampNeg b.toNatClampNeg) s)
theorem am_c86 {a b : Int32} {s : am_St} (hs : am_oks s) : am_cO 86 [.int a, .int b] s (am_O86 a b s) := by
  unfold am_O86
  have h8 := hs.1.1.1
  cases h1 : am_ip (s.1.1 13 0) a with
  | false =>
    refine am_cop_err (k := 1) (by decide) fun X q G hc => am_CD_of (M := am_N86) rfl rfl ?_
    have hn : G 10 8 = nI (s.1.1 13 0) := hc.1.1.2.2.1
    show am_Rn _ _ ((Option.some FieldType.int)) am_J86 0 [some (.ref 0), some (.int a), some (.int b), none] [] (am_L0 q, G) _
    simp only [am_s86_0, am_s86_1, am_s86_2, am_s86_5, am_s86_8, am_s86_9, am_s86_12, am_s86_15, am_s86_16, am_s86_17, am_s86_20, am_s86_21, am_s86_22, am_s86_25, am_s86_28, am_s86_31, am_s86_32, am_s86_33, am_s86_34, am_s86_35, am_s86_38, am_s86_41, am_s86_42, am_s86_43, am_s86_46, am_s86_47, am_cal_ok am_cat_0 am_v0 (am_y119 hn _), h1, am_cal_ok am_cat_0 am_v0 (am_e1 (D := 98)), am_cal_ok am_cat_0 am_v0 (am_e2 (D := 98)), am_cal_ok am_cat_0 am_v0 (am_e3 (D := 98)), am_cal_ok am_cat_0 am_v0 (am_e4 (D := 98)), am_cal_ok am_cat_0 am_v0 (am_e5 (D := 98)), am_cal_ok am_cat_0 am_rcv_f (am_m123 (D := 98) _ _), am_cal_ok am_cat_0 am_rcv_f (am_m121 (D := 97) _), am_cal_ok am_cat_0 am_rcv_f (am_m122 (D := 97) _), am_bI0, am_f0_0, am_f0_1, am_f0_2, am_f0_3, am_f0_4, am_f0_5, am_f0_6, am_f0_7, am_f1_2, am_ec1, am_ec2, am_ec3, am_ec4, am_ec5, am_er_f, am_sy_f, Bool.false_and, Bool.and_false, reduceCtorEq, not_false_eq_true, not_true_eq_false, eq_self, am_os_some, Option.toList_some, Option.toList_none, List.cons_append, List.nil_append, if_true, if_false, true_and, am_nw1_i, am_nw1_r, am_nw1_n, cond_true]
  | true =>
    cases h2 : am_wi b 69 with
    | false =>
      refine am_cop_err (k := 1) (by decide) fun X q G hc => am_CD_of (M := am_N86) rfl rfl ?_
      have hn : G 10 8 = nI (s.1.1 13 0) := hc.1.1.2.2.1
      show am_Rn _ _ ((Option.some FieldType.int)) am_J86 0 [some (.ref 0), some (.int a), some (.int b), none] [] (am_L0 q, G) _
      simp only [am_s86_0, am_s86_1, am_s86_2, am_s86_5, am_s86_8, am_s86_9, am_s86_12, am_s86_15, am_s86_16, am_s86_17, am_s86_20, am_s86_21, am_s86_22, am_s86_25, am_s86_28, am_s86_31, am_s86_32, am_s86_33, am_s86_34, am_s86_35, am_s86_38, am_s86_41, am_s86_42, am_s86_43, am_s86_46, am_s86_47, am_cal_ok am_cat_0 am_v0 (am_y119 hn _), h1, h2, am_cal_ok am_cat_0 am_v0 (am_e1 (D := 98)), am_cal_ok am_cat_0 am_v0 (am_e2 (D := 98)), am_cal_ok am_cat_0 am_v0 (am_e3 (D := 98)), am_cal_ok am_cat_0 am_v0 (am_e4 (D := 98)), am_cal_ok am_cat_0 am_v0 (am_e5 (D := 98)), am_cal_ok am_cat_0 am_rcv_f (am_m123 (D := 98) _ _), am_cal_ok am_cat_0 am_rcv_f (am_m121 (D := 97) _), am_cal_ok am_cat_0 am_rcv_f (am_m122 (D := 97) _), am_bI0, am_f0_0, am_f0_1, am_f0_2, am_f0_3, am_f0_4, am_f0_5, am_f0_6, am_f0_7, am_f1_2, am_ec1, am_ec2, am_ec3, am_ec4, am_ec5, am_er_f, am_sy_f, Bool.false_and, Bool.and_false, reduceCtorEq, not_false_eq_true, not_true_eq_false, eq_self, am_os_some, Option.toList_some, Option.toList_none, List.cons_append, List.nil_append, if_true, if_false, true_and, am_nw1_i, am_nw1_r, am_nw1_n, cond_true]
    | true =>
      rw [if_neg (by decide)]
      obtain ⟨a1, a2⟩ := am_ip_nI h8 h1
      obtain ⟨b1, b2⟩ := am_wi_nI (n := 69) (by decide) h2
      generalize a.toNatClampNeg = p at a1 a2
      generalize b.toNatClampNeg = r at b1 b2
      subst a2 b2
      have p8 : p < 8 := by omega
      intro N xs q G hc
      have hn : G 10 8 = nI (s.1.1 13 0) := hc.1.1.2.2.1
      have k0 : G 11 p = nI (s.1.1 0 p) := (hc.1.1.1 p p8).1
      obtain ⟨G1, f1, c1, g1⟩ := am_m23 (X := am_X0 N xs) (D := 98) (q := q) hc.1.1 p8 b1
      have ix : am_in (nI p) 8 = true := am_in_nI p8 (by decide)
      have ic : (nI p).toNatClampNeg = p := nI_clamp (by omega)
      refine ⟨q, G1, fun i j hi => f1 i j (by omega) (by omega), am_cfl_S hc (fun i j _ hi _ => f1 i j (by omega) (by omega)) c1 (f1 1 5 (by decide) (by decide)), am_CD_of (M := am_N86) rfl rfl ?_⟩
      show am_Rn _ _ ((Option.some FieldType.int)) am_J86 0 [some (.ref 0), some (.int (nI p)), some (.int (nI r)), none] [] (am_L0 q, G) _
      simp only [am_s86_0, am_s86_1, am_s86_2, am_s86_5, am_s86_8, am_s86_9, am_s86_12, am_s86_15, am_s86_16, am_s86_17, am_s86_20, am_s86_21, am_s86_22, am_s86_25, am_s86_28, am_s86_31, am_s86_32, am_s86_33, am_s86_34, am_s86_35, am_s86_38, am_s86_41, am_s86_42, am_s86_43, am_s86_46, am_s86_47, am_cal_ok am_cat_0 am_v0 (am_y119 hn _), h1, h2, am_f10_2, am_a11, ix, ic, k0, am_cal_ok am_cat_0 am_v10 (g1), am_cal_ok am_cat_0 am_v0 (am_e1 (D := 98)), am_cal_ok am_cat_0 am_v0 (am_e2 (D := 98)), am_cal_ok am_cat_0 am_v0 (am_e3 (D := 98)), am_cal_ok am_cat_0 am_v0 (am_e4 (D := 98)), am_cal_ok am_cat_0 am_v0 (am_e5 (D := 98)), am_cal_ok am_cat_0 am_rcv_f (am_m123 (D := 98) _ _), am_cal_ok am_cat_0 am_rcv_f (am_m121 (D := 97) _), am_cal_ok am_cat_0 am_rcv_f (am_m122 (D := 97) _), am_bI0, am_f0_0, am_f0_1, am_f0_2, am_f0_3, am_f0_4, am_f0_5, am_f0_6, am_f0_7, am_f1_2, am_ec1, am_ec2, am_ec3, am_ec4, am_ec5, am_er_f, am_sy_f, Bool.false_and, Bool.and_false, reduceCtorEq, not_false_eq_true, not_true_eq_false, eq_self, am_os_some, Option.toList_some, Option.toList_none, List.cons_append, List.nil_append, if_true, if_false, true_and, am_nw1_i, am_nw1_r, am_nw1_n, cond_true]
/-- as -/
def am_O87 (a b : Int32) (s : am_St) : Int32 × am_St :=
  if (am_ip (s.1.1 13 0) a && am_wi b 6) = false then am_er 1 s
  else if am_und (s.1.1 0 a.toNatClampNeg) b.toNatClampNeg = false then am_er 5 s
  else am_sy (nI (s.1.1 1 a.toNatClampNeg)) s
theorem am_c87 {a b : Int32} {s : am_St} (hs : am_oks s) : am_cO 87 [.int a, .int b] s (am_O87 a b s) := by
  unfold am_O87
  have h8 := hs.1.1.1
  cases h1 : am_ip (s.1.1 13 0) a with
  | false =>
    refine am_cop_err (k := 1) (by decide) fun X q G hc => am_CD_of (M := am_N87) rfl rfl ?_
    have hn : G 10 8 = nI (s.1.1 13 0) := hc.1.1.2.2.1
    show am_Rn _ _ ((Option.some FieldType.int)) am_J87 0 [some (.ref 0), some (.int a), some (.int b)] [] (am_L0 q, G) _
    simp only [am_s87_0, am_s87_1, am_s87_2, am_s87_5, am_s87_8, am_s87_9, am_s87_11, am_s87_14, am_s87_17, am_s87_18, am_s87_19, am_s87_22, am_s87_23, am_s87_24, am_s87_27, am_s87_30, am_s87_33, am_s87_34, am_s87_35, am_s87_36, am_s87_39, am_s87_42, am_s87_43, am_s87_44, am_s87_47, am_s87_48, am_s87_49, am_s87_52, am_s87_55, am_s87_58, am_s87_59, am_s87_60, am_cal_ok am_cat_0 am_v0 (am_y119 hn _), h1, am_cal_ok am_cat_0 am_v0 (am_e1 (D := 98)), am_cal_ok am_cat_0 am_v0 (am_e2 (D := 98)), am_cal_ok am_cat_0 am_v0 (am_e3 (D := 98)), am_cal_ok am_cat_0 am_v0 (am_e4 (D := 98)), am_cal_ok am_cat_0 am_v0 (am_e5 (D := 98)), am_cal_ok am_cat_0 am_rcv_f (am_m123 (D := 98) _ _), am_cal_ok am_cat_0 am_rcv_f (am_m121 (D := 97) _), am_cal_ok am_cat_0 am_rcv_f (am_m122 (D := 97) _), am_bI0, am_f0_0, am_f0_1, am_f0_2, am_f0_3, am_f0_4, am_f0_5, am_f0_6, am_f0_7, am_f1_2, am_ec1, am_ec2, am_ec3, am_ec4, am_ec5, am_er_f, am_sy_f, Bool.false_and, Bool.and_false, reduceCtorEq, not_false_eq_true, not_true_eq_false, eq_self, am_os_some, Option.toList_some, Option.toList_none, List.cons_append, List.nil_append, if_true, if_false, true_and, am_nw1_i, am_nw1_r, am_nw1_n, cond_true]
  | true =>
    cases h2 : am_wi b 6 with
    | false =>
      refine am_cop_err (k := 1) (by decide) fun X q G hc => am_CD_of (M := am_N87) rfl rfl ?_
      have hn : G 10 8 = nI (s.1.1 13 0) := hc.1.1.2.2.1
      show am_Rn _ _ ((Option.some FieldType.int)) am_J87 0 [some (.ref 0), some (.int a), some (.int b)] [] (am_L0 q, G) _
      simp only [am_s87_0, am_s87_1, am_s87_2, am_s87_5, am_s87_8, am_s87_9, am_s87_11, am_s87_14, am_s87_17, am_s87_18, am_s87_19, am_s87_22, am_s87_23, am_s87_24, am_s87_27, am_s87_30, am_s87_33, am_s87_34, am_s87_35, am_s87_36, am_s87_39, am_s87_42, am_s87_43, am_s87_44, am_s87_47, am_s87_48, am_s87_49, am_s87_52, am_s87_55, am_s87_58, am_s87_59, am_s87_60, am_cal_ok am_cat_0 am_v0 (am_y119 hn _), h1, h2, am_cal_ok am_cat_0 am_v0 (am_e1 (D := 98)), am_cal_ok am_cat_0 am_v0 (am_e2 (D := 98)), am_cal_ok am_cat_0 am_v0 (am_e3 (D := 98)), am_cal_ok am_cat_0 am_v0 (am_e4 (D := 98)), am_cal_ok am_cat_0 am_v0 (am_e5 (D := 98)), am_cal_ok am_cat_0 am_rcv_f (am_m123 (D := 98) _ _), am_cal_ok am_cat_0 am_rcv_f (am_m121 (D := 97) _), am_cal_ok am_cat_0 am_rcv_f (am_m122 (D := 97) _), am_bI0, am_f0_0, am_f0_1, am_f0_2, am_f0_3, am_f0_4, am_f0_5, am_f0_6, am_f0_7, am_f1_2, am_ec1, am_ec2, am_ec3, am_ec4, am_ec5, am_er_f, am_sy_f, Bool.false_and, Bool.and_false, reduceCtorEq, not_false_eq_true, not_true_eq_false, eq_self, am_os_some, Option.toList_some, Option.toList_none, List.cons_append, List.nil_append, if_true, if_false, true_and, am_nw1_i, am_nw1_r, am_nw1_n, cond_true]
    | true =>
      rw [if_neg (by decide)]
      obtain ⟨a1, a2⟩ := am_ip_nI h8 h1
      obtain ⟨b1, b2⟩ := am_wi_nI (n := 6) (by decide) h2
      generalize a.toNatClampNeg = p at a1 a2
      generalize b.toNatClampNeg = r at b1 b2
      subst a2 b2
      have p8 : p < 8 := by omega
      have w0 := (hs.1.1.2.1 p p8).1
      have ix : am_in (nI p) 8 = true := am_in_nI p8 (by decide)
      have ic : (nI p).toNatClampNeg = p := nI_clamp (by omega)
      cases h3 : am_und (s.1.1 0 p) r with
      | false =>
        rw [if_pos rfl]
        intro N xs q G hc
        have hn : G 10 8 = nI (s.1.1 13 0) := hc.1.1.2.2.1
        have k0 : G 11 p = nI (s.1.1 0 p) := (hc.1.1.1 p p8).1
        have g9 := am_m9 (D := 98) (q := q) (G := G) (N := N) (xs := xs) w0 b1
        rw [h3] at g9
        refine ⟨q, _, fun i j hi => by rw [am_up_get, if_neg (by omega)], am_cfl_E hc (by decide), am_CD_of (M := am_N87) rfl rfl ?_⟩
        show am_Rn _ _ ((Option.some FieldType.int)) am_J87 0 [some (.ref 0), some (.int (nI p)), some (.int (nI r))] [] (am_L0 q, G) _
        simp only [am_s87_0, am_s87_1, am_s87_2, am_s87_5, am_s87_8, am_s87_9, am_s87_11, am_s87_14, am_s87_17, am_s87_18, am_s87_19, am_s87_22, am_s87_23, am_s87_24, am_s87_27, am_s87_30, am_s87_33, am_s87_34, am_s87_35, am_s87_36, am_s87_39, am_s87_42, am_s87_43, am_s87_44, am_s87_47, am_s87_48, am_s87_49, am_s87_52, am_s87_55, am_s87_58, am_s87_59, am_s87_60, am_cal_ok am_cat_0 am_v0 (am_y119 hn _), h1, h2, am_f10_2, am_a11, ix, ic, k0, am_cal_ok am_cat_0 am_rcv_f (g9), am_cal_ok am_cat_0 am_v0 (am_e1 (D := 98)), am_cal_ok am_cat_0 am_v0 (am_e2 (D := 98)), am_cal_ok am_cat_0 am_v0 (am_e3 (D := 98)), am_cal_ok am_cat_0 am_v0 (am_e4 (D := 98)), am_cal_ok am_cat_0 am_v0 (am_e5 (D := 98)), am_cal_ok am_cat_0 am_rcv_f (am_m123 (D := 98) _ _), am_cal_ok am_cat_0 am_rcv_f (am_m121 (D := 97) _), am_cal_ok am_cat_0 am_rcv_f (am_m122 (D := 97) _), am_bI0, am_f0_0, am_f0_1, am_f0_2, am_f0_3, am_f0_4, am_f0_5, am_f0_6, am_f0_7, am_f1_2, am_ec1, am_ec2, am_ec3, am_ec4, am_ec5, am_er_f, am_sy_f, Bool.false_and, Bool.and_false, reduceCtorEq, not_false_eq_true, not_true_eq_false, eq_self, am_os_some, Option.toList_some, Option.toList_none, List.cons_append, List.nil_append, if_true, if_false, true_and, am_nw1_i, am_nw1_r, am_nw1_n, cond_true]
      | true =>
        rw [if_neg (by decide)]
        refine am_cop_same fun N xs q G hc => ?_
        have hn : G 10 8 = nI (s.1.1 13 0) := hc.1.1.2.2.1
        have k0 : G 11 p = nI (s.1.1 0 p) := (hc.1.1.1 p p8).1
        have k1 : G 12 p = nI (s.1.1 1 p) := (hc.1.1.1 p p8).2.1
        have g9 := am_m9 (D := 98) (q := q) (G := G) (N := N) (xs := xs) w0 b1
        rw [h3] at g9
        refine ⟨q, G, fun _ _ _ => rfl, am_CD_of (M := am_N87) rfl rfl ?_⟩
        show am_Rn _ _ ((Option.some FieldType.int)) am_J87 0 [some (.ref 0), some (.int (nI p)), some (.int (nI r))] [] (am_L0 q, G) _
        simp only [am_s87_0, am_s87_1, am_s87_2, am_s87_5, am_s87_8, am_s87_9, am_s87_11, am_s87_14, am_s87_17, am_s87_18, am_s87_19, am_s87_22, am_s87_23, am_s87_24, am_s87_27, am_s87_30, am_s87_33, am_s87_34, am_s87_35, am_s87_36, am_s87_39, am_s87_42, am_s87_43, am_s87_44, am_s87_47, am_s87_48, am_s87_49, am_s87_52, am_s87_55, am_s87_58, am_s87_59, am_s87_60, am_cal_ok am_cat_0 am_v0 (am_y119 hn _), h1, h2, am_f10_2, am_f10_3, am_a11, am_a12, ix, ic, k0, k1, am_cal_ok am_cat_0 am_rcv_f (g9), am_cal_ok am_cat_0 am_v0 (am_e1 (D := 98)), am_cal_ok am_cat_0 am_v0 (am_e2 (D := 98)), am_cal_ok am_cat_0 am_v0 (am_e3 (D := 98)), am_cal_ok am_cat_0 am_v0 (am_e4 (D := 98)), am_cal_ok am_cat_0 am_v0 (am_e5 (D := 98)), am_cal_ok am_cat_0 am_rcv_f (am_m123 (D := 98) _ _), am_cal_ok am_cat_0 am_rcv_f (am_m121 (D := 97) _), am_cal_ok am_cat_0 am_rcv_f (am_m122 (D := 97) _), am_bI0, am_f0_0, am_f0_1, am_f0_2, am_f0_3, am_f0_4, am_f0_5, am_f0_6, am_f0_7, am_f1_2, am_ec1, am_ec2, am_ec3, am_ec4, am_ec5, am_er_f, am_sy_f, Bool.false_and, Bool.and_false, reduceCtorEq, not_false_eq_true, not_true_eq_false, eq_self, am_os_some, Option.toList_some, Option.toList_none, List.cons_append, List.nil_append, if_true, if_false, true_and, am_nw1_i, am_nw1_r, am_nw1_n, cond_true]
end AMOP2
