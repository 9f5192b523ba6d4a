/-! move, traits, judge -/
section AMOP7
variable {X : am_X} {D q : Nat} {G : am_G}
def am_O109 (a i b k n : Int32) (s : am_St) : Int32 × am_St :=
  if (am_wi a 3 && am_wi b 3) = false then am_er 1 s
  else if (s.2.2.2.2.2 a.toNatClampNeg).1 = 0 ∨ (s.2.2.2.2.2 b.toNatClampNeg).1 = 0 then am_er 2 s
  else if ¬ (s.2.2.2.2.2 a.toNatClampNeg).1 = (s.2.2.2.2.2 b.toNatClampNeg).1 then am_er 5 s
  else if (am_hol (s.2.2.2.2.2 a.toNatClampNeg).2.1 i n && am_hol (s.2.2.2.2.2 b.toNatClampNeg).2.1 k n) = false then am_er 1 s
  else (n, am_sH b.toNatClampNeg ((s.2.2.2.2.2 b.toNatClampNeg).1, (s.2.2.2.2.2 b.toNatClampNeg).2.1, fun m => if k.toNatClampNeg ≤ m ∧ m < k.toNatClampNeg + n.toNatClampNeg then (s.2.2.2.2.2 a.toNatClampNeg).2.2 (i.toNatClampNeg + (m - k.toNatClampNeg)) else (s.2.2.2.2.2 b.toNatClampNeg).2.2 m) s)
theorem am_c109 {a i b k n : Int32} {s : am_St} (hs : am_oks s) : am_cO 109 [.int a, .int i, .int b, .int k, .int n] s (am_O109 a i b k n s) := by
  unfold am_O109
  cases h1 : am_wi a 3 with
  | false =>
    refine am_cop_err (k := 1) (by decide) fun X q G hc => am_CD_of (M := am_N109) rfl rfl ?_
    show am_Rn _ _ ((Option.some FieldType.int)) am_J109 0 [some (.ref 0), some (.int a), some (.int i), some (.int b), some (.int k), some (.int n), none, none] [] (am_L0 q, G) _
    simp only [am_s109_0, am_s109_1, am_s109_4, am_s109_7, am_s109_8, am_s109_11, am_s109_14, am_s109_15, am_s109_16, am_s109_19, am_s109_20, am_s109_21, am_s109_24, am_s109_25, am_s109_26, am_s109_28, am_s109_29, am_s109_32, am_s109_33, am_s109_34, am_s109_36, am_s109_38, am_s109_41, am_s109_44, am_s109_46, am_s109_49, am_s109_52, am_s109_53, am_s109_54, am_s109_57, am_s109_58, am_s109_60, am_s109_63, am_s109_65, am_s109_68, am_s109_71, am_s109_72, am_s109_73, am_s109_76, am_s109_77, am_s109_79, am_s109_80, am_s109_82, am_s109_85, am_s109_88, am_s109_90, am_s109_92, am_s109_94, am_s109_97, am_s109_100, am_s109_101, am_s109_102, am_s109_105, am_s109_106, am_s109_108, am_s109_111, am_s109_112, am_s109_114, am_s109_117, am_s109_119, am_s109_121, am_s109_124, am_s109_126, h1, am_cal_ok am_cat_0 am_v0 (am_e1 (D := 98)), am_cal_ok am_cat_0 am_v0 (am_e2 (D := 98)), am_cal_ok am_cat_0 am_v0 (am_e3 (D := 98)), am_cal_ok am_cat_0 am_v0 (am_e4 (D := 98)), am_cal_ok am_cat_0 am_v0 (am_e5 (D := 98)), am_cal_ok am_cat_0 am_rcv_f (am_m123 (D := 98) _ _), am_cal_ok am_cat_0 am_rcv_f (am_m121 (D := 97) _), am_cal_ok am_cat_0 am_rcv_f (am_m122 (D := 97) _), am_bI0, am_f0_0, am_f0_1, am_f0_2, am_f0_3, am_f0_4, am_f0_5, am_f0_6, am_f0_7, am_f1_2, am_ec1, am_ec2, am_ec3, am_ec4, am_ec5, am_er_f, am_sy_f, Bool.false_and, Bool.and_false, reduceCtorEq, not_false_eq_true, not_true_eq_false, eq_self, am_os_some, Option.toList_some, Option.toList_none, List.cons_append, List.nil_append, if_true, if_false, true_and, am_nw1_i, am_nw1_r, am_nw1_n, cond_true]
  | true =>
    cases h2 : am_wi b 3 with
    | false =>
      refine am_cop_err (k := 1) (by decide) fun X q G hc => am_CD_of (M := am_N109) rfl rfl ?_
      show am_Rn _ _ ((Option.some FieldType.int)) am_J109 0 [some (.ref 0), some (.int a), some (.int i), some (.int b), some (.int k), some (.int n), none, none] [] (am_L0 q, G) _
      simp only [am_s109_0, am_s109_1, am_s109_4, am_s109_7, am_s109_8, am_s109_11, am_s109_14, am_s109_15, am_s109_16, am_s109_19, am_s109_20, am_s109_21, am_s109_24, am_s109_25, am_s109_26, am_s109_28, am_s109_29, am_s109_32, am_s109_33, am_s109_34, am_s109_36, am_s109_38, am_s109_41, am_s109_44, am_s109_46, am_s109_49, am_s109_52, am_s109_53, am_s109_54, am_s109_57, am_s109_58, am_s109_60, am_s109_63, am_s109_65, am_s109_68, am_s109_71, am_s109_72, am_s109_73, am_s109_76, am_s109_77, am_s109_79, am_s109_80, am_s109_82, am_s109_85, am_s109_88, am_s109_90, am_s109_92, am_s109_94, am_s109_97, am_s109_100, am_s109_101, am_s109_102, am_s109_105, am_s109_106, am_s109_108, am_s109_111, am_s109_112, am_s109_114, am_s109_117, am_s109_119, am_s109_121, am_s109_124, am_s109_126, h1, h2, am_cal_ok am_cat_0 am_v0 (am_e1 (D := 98)), am_cal_ok am_cat_0 am_v0 (am_e2 (D := 98)), am_cal_ok am_cat_0 am_v0 (am_e3 (D := 98)), am_cal_ok am_cat_0 am_v0 (am_e4 (D := 98)), am_cal_ok am_cat_0 am_v0 (am_e5 (D := 98)), am_cal_ok am_cat_0 am_rcv_f (am_m123 (D := 98) _ _), am_cal_ok am_cat_0 am_rcv_f (am_m121 (D := 97) _), am_cal_ok am_cat_0 am_rcv_f (am_m122 (D := 97) _), am_bI0, am_f0_0, am_f0_1, am_f0_2, am_f0_3, am_f0_4, am_f0_5, am_f0_6, am_f0_7, am_f1_2, am_ec1, am_ec2, am_ec3, am_ec4, am_ec5, am_er_f, am_sy_f, Bool.false_and, Bool.and_false, reduceCtorEq, not_false_eq_true, not_true_eq_false, eq_self, am_os_some, Option.toList_some, Option.toList_none, List.cons_append, List.nil_append, if_true, if_false, true_and, am_nw1_i, am_nw1_r, am_nw1_n, cond_true]
    | true =>
      rw [if_neg (by decide)]
      obtain ⟨a1, a2⟩ := am_wi_nI (n := 3) (by decide) h1
      obtain ⟨b1, b2⟩ := am_wi_nI (n := 3) (by decide) h2
      generalize a.toNatClampNeg = j at a1 a2
      generalize b.toNatClampNeg = r at b1 b2
      subst a2 b2
      have hj : j < 4 := by omega
      have hr : r < 4 := by omega
      by_cases h3 : (s.2.2.2.2.2 j).1 = 0
      · rw [if_pos (Or.inl h3)]
        refine am_cop_err (k := 2) (by decide) fun X q G hc => am_CD_of (M := am_N109) rfl rfl ?_
        show am_Rn _ _ ((Option.some FieldType.int)) am_J109 0 [some (.ref 0), some (.int (nI j)), some (.int i), some (.int (nI r)), some (.int k), some (.int n), none, none] [] (am_L0 q, G) _
        simp only [am_s109_0, am_s109_1, am_s109_4, am_s109_7, am_s109_8, am_s109_11, am_s109_14, am_s109_15, am_s109_16, am_s109_19, am_s109_20, am_s109_21, am_s109_24, am_s109_25, am_s109_26, am_s109_28, am_s109_29, am_s109_32, am_s109_33, am_s109_34, am_s109_36, am_s109_38, am_s109_41, am_s109_44, am_s109_46, am_s109_49, am_s109_52, am_s109_53, am_s109_54, am_s109_57, am_s109_58, am_s109_60, am_s109_63, am_s109_65, am_s109_68, am_s109_71, am_s109_72, am_s109_73, am_s109_76, am_s109_77, am_s109_79, am_s109_80, am_s109_82, am_s109_85, am_s109_88, am_s109_90, am_s109_92, am_s109_94, am_s109_97, am_s109_100, am_s109_101, am_s109_102, am_s109_105, am_s109_106, am_s109_108, am_s109_111, am_s109_112, am_s109_114, am_s109_117, am_s109_119, am_s109_121, am_s109_124, am_s109_126, h1, h2, am_rld_104 hj, am_rld_104 hr, am_cal_ok am_cat_0 (am_sh_v hj) (am_y58 (X := X) (q := q) hj (hc.2.2.2.2.2 j hj).1), h3, decide_true, am_cal_ok am_cat_0 am_v0 (am_e1 (D := 98)), am_cal_ok am_cat_0 am_v0 (am_e2 (D := 98)), am_cal_ok am_cat_0 am_v0 (am_e3 (D := 98)), am_cal_ok am_cat_0 am_v0 (am_e4 (D := 98)), am_cal_ok am_cat_0 am_v0 (am_e5 (D := 98)), am_cal_ok am_cat_0 am_rcv_f (am_m123 (D := 98) _ _), am_cal_ok am_cat_0 am_rcv_f (am_m121 (D := 97) _), am_cal_ok am_cat_0 am_rcv_f (am_m122 (D := 97) _), am_bI0, am_f0_0, am_f0_1, am_f0_2, am_f0_3, am_f0_4, am_f0_5, am_f0_6, am_f0_7, am_f1_2, am_ec1, am_ec2, am_ec3, am_ec4, am_ec5, am_er_f, am_sy_f, Bool.false_and, Bool.and_false, reduceCtorEq, not_false_eq_true, not_true_eq_false, eq_self, am_os_some, Option.toList_some, Option.toList_none, List.cons_append, List.nil_append, if_true, if_false, true_and, am_nw1_i, am_nw1_r, am_nw1_n, cond_true]
      · by_cases h4 : (s.2.2.2.2.2 r).1 = 0
        · rw [if_pos (Or.inr h4)]
          refine am_cop_err (k := 2) (by decide) fun X q G hc => am_CD_of (M := am_N109) rfl rfl ?_
          show am_Rn _ _ ((Option.some FieldType.int)) am_J109 0 [some (.ref 0), some (.int (nI j)), some (.int i), some (.int (nI r)), some (.int k), some (.int n), none, none] [] (am_L0 q, G) _
          simp only [am_s109_0, am_s109_1, am_s109_4, am_s109_7, am_s109_8, am_s109_11, am_s109_14, am_s109_15, am_s109_16, am_s109_19, am_s109_20, am_s109_21, am_s109_24, am_s109_25, am_s109_26, am_s109_28, am_s109_29, am_s109_32, am_s109_33, am_s109_34, am_s109_36, am_s109_38, am_s109_41, am_s109_44, am_s109_46, am_s109_49, am_s109_52, am_s109_53, am_s109_54, am_s109_57, am_s109_58, am_s109_60, am_s109_63, am_s109_65, am_s109_68, am_s109_71, am_s109_72, am_s109_73, am_s109_76, am_s109_77, am_s109_79, am_s109_80, am_s109_82, am_s109_85, am_s109_88, am_s109_90, am_s109_92, am_s109_94, am_s109_97, am_s109_100, am_s109_101, am_s109_102, am_s109_105, am_s109_106, am_s109_108, am_s109_111, am_s109_112, am_s109_114, am_s109_117, am_s109_119, am_s109_121, am_s109_124, am_s109_126, h1, h2, am_rld_104 hj, am_rld_104 hr, am_cal_ok am_cat_0 (am_sh_v hj) (am_y58 (X := X) (q := q) hj (hc.2.2.2.2.2 j hj).1), am_cal_ok am_cat_0 (am_sh_v hr) (am_y58 (X := X) (q := q) hr (hc.2.2.2.2.2 r hr).1), h3, h4, decide_true, decide_false, am_cal_ok am_cat_0 am_v0 (am_e1 (D := 98)), am_cal_ok am_cat_0 am_v0 (am_e2 (D := 98)), am_cal_ok am_cat_0 am_v0 (am_e3 (D := 98)), am_cal_ok am_cat_0 am_v0 (am_e4 (D := 98)), am_cal_ok am_cat_0 am_v0 (am_e5 (D := 98)), am_cal_ok am_cat_0 am_rcv_f (am_m123 (D := 98) _ _), am_cal_ok am_cat_0 am_rcv_f (am_m121 (D := 97) _), am_cal_ok am_cat_0 am_rcv_f (am_m122 (D := 97) _), am_bI0, am_f0_0, am_f0_1, am_f0_2, am_f0_3, am_f0_4, am_f0_5, am_f0_6, am_f0_7, am_f1_2, am_ec1, am_ec2, am_ec3, am_ec4, am_ec5, am_er_f, am_sy_f, Bool.false_and, Bool.and_false, reduceCtorEq, not_false_eq_true, not_true_eq_false, eq_self, am_os_some, Option.toList_some, Option.toList_none, List.cons_append, List.nil_append, if_true, if_false, true_and, am_nw1_i, am_nw1_r, am_nw1_n, cond_true]
        · rw [if_neg (fun h => h.elim h3 h4)]
          by_cases h5 : (s.2.2.2.2.2 j).1 = (s.2.2.2.2.2 r).1
          · rw [if_neg (fun h => h h5)]
            have zj := (hs.2.2.2 j hj).1
            have zr := (hs.2.2.2 r hr).1
            cases h6 : am_hol (s.2.2.2.2.2 j).2.1 i n with
            | false =>
              refine am_cop_err (k := 1) (by decide) fun X q G hc => am_CD_of (M := am_N109) rfl rfl ?_
              show am_Rn _ _ ((Option.some FieldType.int)) am_J109 0 [some (.ref 0), some (.int (nI j)), some (.int i), some (.int (nI r)), some (.int k), some (.int n), none, none] [] (am_L0 q, G) _
              simp only [am_s109_0, am_s109_1, am_s109_4, am_s109_7, am_s109_8, am_s109_11, am_s109_14, am_s109_15, am_s109_16, am_s109_19, am_s109_20, am_s109_21, am_s109_24, am_s109_25, am_s109_26, am_s109_28, am_s109_29, am_s109_32, am_s109_33, am_s109_34, am_s109_36, am_s109_38, am_s109_41, am_s109_44, am_s109_46, am_s109_49, am_s109_52, am_s109_53, am_s109_54, am_s109_57, am_s109_58, am_s109_60, am_s109_63, am_s109_65, am_s109_68, am_s109_71, am_s109_72, am_s109_73, am_s109_76, am_s109_77, am_s109_79, am_s109_80, am_s109_82, am_s109_85, am_s109_88, am_s109_90, am_s109_92, am_s109_94, am_s109_97, am_s109_100, am_s109_101, am_s109_102, am_s109_105, am_s109_106, am_s109_108, am_s109_111, am_s109_112, am_s109_114, am_s109_117, am_s109_119, am_s109_121, am_s109_124, am_s109_126, h1, h2, am_rld_104 hj, am_rld_104 hr, am_cal_ok am_cat_0 (am_sh_v hj) (am_y58 (X := X) (q := q) hj (hc.2.2.2.2.2 j hj).1), am_cal_ok am_cat_0 (am_sh_v hr) (am_y58 (X := X) (q := q) hr (hc.2.2.2.2.2 r hr).1), am_sh_f1 hj, am_sh_f1 hr, (hc.2.2.2.2.2 j hj).1, (hc.2.2.2.2.2 r hr).1, h3, h4, h5, am_cal_ok am_cat_0 (am_sh_v hj) (am_m61 (X := X) (D := 98) (q := q) hj (hc.2.2.2.2.2 j hj).2.1 i n), h6, decide_false, am_cal_ok am_cat_0 am_v0 (am_e1 (D := 98)), am_cal_ok am_cat_0 am_v0 (am_e2 (D := 98)), am_cal_ok am_cat_0 am_v0 (am_e3 (D := 98)), am_cal_ok am_cat_0 am_v0 (am_e4 (D := 98)), am_cal_ok am_cat_0 am_v0 (am_e5 (D := 98)), am_cal_ok am_cat_0 am_rcv_f (am_m123 (D := 98) _ _), am_cal_ok am_cat_0 am_rcv_f (am_m121 (D := 97) _), am_cal_ok am_cat_0 am_rcv_f (am_m122 (D := 97) _), am_bI0, am_f0_0, am_f0_1, am_f0_2, am_f0_3, am_f0_4, am_f0_5, am_f0_6, am_f0_7, am_f1_2, am_ec1, am_ec2, am_ec3, am_ec4, am_ec5, am_er_f, am_sy_f, Bool.false_and, Bool.and_false, reduceCtorEq, not_false_eq_true, not_true_eq_false, eq_self, am_os_some, Option.toList_some, Option.toList_none, List.cons_append, List.nil_append, if_true, if_false, true_and, am_nw1_i, am_nw1_r, am_nw1_n, cond_true]
            | true =>
              cases h7 : am_hol (s.2.2.2.2.2 r).2.1 k n with
              | false =>
                refine am_cop_err (k := 1) (by decide) fun X q G hc => am_CD_of (M := am_N109) rfl rfl ?_
                show am_Rn _ _ ((Option.some FieldType.int)) am_J109 0 [some (.ref 0), some (.int (nI j)), some (.int i), some (.int (nI r)), some (.int k), some (.int n), none, none] [] (am_L0 q, G) _
                simp only [am_s109_0, am_s109_1, am_s109_4, am_s109_7, am_s109_8, am_s109_11, am_s109_14, am_s109_15, am_s109_16, am_s109_19, am_s109_20, am_s109_21, am_s109_24, am_s109_25, am_s109_26, am_s109_28, am_s109_29, am_s109_32, am_s109_33, am_s109_34, am_s109_36, am_s109_38, am_s109_41, am_s109_44, am_s109_46, am_s109_49, am_s109_52, am_s109_53, am_s109_54, am_s109_57, am_s109_58, am_s109_60, am_s109_63, am_s109_65, am_s109_68, am_s109_71, am_s109_72, am_s109_73, am_s109_76, am_s109_77, am_s109_79, am_s109_80, am_s109_82, am_s109_85, am_s109_88, am_s109_90, am_s109_92, am_s109_94, am_s109_97, am_s109_100, am_s109_101, am_s109_102, am_s109_105, am_s109_106, am_s109_108, am_s109_111, am_s109_112, am_s109_114, am_s109_117, am_s109_119, am_s109_121, am_s109_124, am_s109_126, h1, h2, am_rld_104 hj, am_rld_104 hr, am_cal_ok am_cat_0 (am_sh_v hj) (am_y58 (X := X) (q := q) hj (hc.2.2.2.2.2 j hj).1), am_cal_ok am_cat_0 (am_sh_v hr) (am_y58 (X := X) (q := q) hr (hc.2.2.2.2.2 r hr).1), am_sh_f1 hj, am_sh_f1 hr, (hc.2.2.2.2.2 j hj).1, (hc.2.2.2.2.2 r hr).1, h3, h4, h5, am_cal_ok am_cat_0 (am_sh_v hj) (am_m61 (X := X) (D := 98) (q := q) hj (hc.2.2.2.2.2 j hj).2.1 i n), am_cal_ok am_cat_0 (am_sh_v hr) (am_m61 (X := X) (D := 98) (q := q) hr (hc.2.2.2.2.2 r hr).2.1 k n), h6, h7, decide_false, am_cal_ok am_cat_0 am_v0 (am_e1 (D := 98)), am_cal_ok am_cat_0 am_v0 (am_e2 (D := 98)), am_cal_ok am_cat_0 am_v0 (am_e3 (D := 98)), am_cal_ok am_cat_0 am_v0 (am_e4 (D := 98)), am_cal_ok am_cat_0 am_v0 (am_e5 (D := 98)), am_cal_ok am_cat_0 am_rcv_f (am_m123 (D := 98) _ _), am_cal_ok am_cat_0 am_rcv_f (am_m121 (D := 97) _), am_cal_ok am_cat_0 am_rcv_f (am_m122 (D := 97) _), am_bI0, am_f0_0, am_f0_1, am_f0_2, am_f0_3, am_f0_4, am_f0_5, am_f0_6, am_f0_7, am_f1_2, am_ec1, am_ec2, am_ec3, am_ec4, am_ec5, am_er_f, am_sy_f, Bool.false_and, Bool.and_false, reduceCtorEq, not_false_eq_true, not_true_eq_false, eq_self, am_os_some, Option.toList_some, Option.toList_none, List.cons_append, List.nil_append, if_true, if_false, true_and, am_nw1_i, am_nw1_r, am_nw1_n, cond_true]
              | true =>
                rw [if_neg (by decide)]
                obtain ⟨i1, n1, l1⟩ := am_hol_nI zj h6
                obtain ⟨k1, -, l2⟩ := am_hol_nI zr h7
                generalize i.toNatClampNeg = i at i1 l1
                generalize k.toNatClampNeg = k at k1 l2
                generalize n.toNatClampNeg = n at n1 l1 l2
                subst i1 k1 n1
                intro N xs q G hc
                obtain ⟨e1, e2, e3, e4⟩ := hc.2.2.2.2.2 j hj
                obtain ⟨r1, r2, r3, r4⟩ := hc.2.2.2.2.2 r hr
                have hcp := am_acp40 (q := q) (G := G) hj hr (show i + n ≤ 40 by omega) (show k + n ≤ 40 by omega)
                have F : ∀ x m, x ≠ 107 + 2 * r → am_cpy G (107 + 2 * j) (107 + 2 * r) i k n x m = G x m := fun x m h => by rw [am_cpy_get, if_neg h]
                refine ⟨q, am_cpy G (107 + 2 * j) (107 + 2 * r) i k n, fun x m hx => F x m (by omega), am_cfl_H (x := ((s.2.2.2.2.2 r).1, (s.2.2.2.2.2 r).2.1, fun m => if k ≤ m ∧ m < k + n then (s.2.2.2.2.2 j).2.2 (i + (m - k)) else (s.2.2.2.2.2 r).2.2 m)) hr hc (fun x m a b => F x m b) ⟨by rw [F _ _ (by omega)]; exact r1, by rw [F _ _ (by omega)]; exact r2, r3, fun m hm => ?_⟩, am_CD_of (M := am_N109) rfl rfl ?_⟩
                · rw [am_cpy_get, if_pos rfl]
                  by_cases c : k ≤ m ∧ m < k + n
                  · rw [if_pos c]
                    simp only [if_pos c]
                    exact e4 _ (by omega)
                  · rw [if_neg c]
                    simp only [if_neg c]
                    exact r4 m hm
                · show am_Rn _ _ ((Option.some FieldType.int)) am_J109 0 [some (.ref 0), some (.int (nI j)), some (.int (nI i)), some (.int (nI r)), some (.int (nI k)), some (.int (nI n)), none, none] [] (am_L0 q, G) _
                  simp only [am_s109_0, am_s109_1, am_s109_4, am_s109_7, am_s109_8, am_s109_11, am_s109_14, am_s109_15, am_s109_16, am_s109_19, am_s109_20, am_s109_21, am_s109_24, am_s109_25, am_s109_26, am_s109_28, am_s109_29, am_s109_32, am_s109_33, am_s109_34, am_s109_36, am_s109_38, am_s109_41, am_s109_44, am_s109_46, am_s109_49, am_s109_52, am_s109_53, am_s109_54, am_s109_57, am_s109_58, am_s109_60, am_s109_63, am_s109_65, am_s109_68, am_s109_71, am_s109_72, am_s109_73, am_s109_76, am_s109_77, am_s109_79, am_s109_80, am_s109_82, am_s109_85, am_s109_88, am_s109_90, am_s109_92, am_s109_94, am_s109_97, am_s109_100, am_s109_101, am_s109_102, am_s109_105, am_s109_106, am_s109_108, am_s109_111, am_s109_112, am_s109_114, am_s109_117, am_s109_119, am_s109_121, am_s109_124, am_s109_126, h1, h2, am_rld_104 hj, am_rld_104 hr, am_cal_ok am_cat_0 (am_sh_v hj) (am_y58 (X := am_X0 N xs) (q := q) hj (hc.2.2.2.2.2 j hj).1), am_cal_ok am_cat_0 (am_sh_v hr) (am_y58 (X := am_X0 N xs) (q := q) hr (hc.2.2.2.2.2 r hr).1), am_sh_f1 hj, am_sh_f1 hr, am_sh_f0 hj, am_sh_f0 hr, e1, r1, h3, h4, h5, am_cal_ok am_cat_0 (am_sh_v hj) (am_m61 (X := am_X0 N xs) (D := 98) (q := q) hj e2 (nI i) (nI n)), am_cal_ok am_cat_0 (am_sh_v hr) (am_m61 (X := am_X0 N xs) (D := 98) (q := q) hr r2 (nI k) (nI n)), h6, h7, hcp, decide_false, am_cal_ok am_cat_0 am_v0 (am_e1 (D := 98)), am_cal_ok am_cat_0 am_v0 (am_e2 (D := 98)), am_cal_ok am_cat_0 am_v0 (am_e3 (D := 98)), am_cal_ok am_cat_0 am_v0 (am_e4 (D := 98)), am_cal_ok am_cat_0 am_v0 (am_e5 (D := 98)), am_cal_ok am_cat_0 am_rcv_f (am_m123 (D := 98) _ _), am_cal_ok am_cat_0 am_rcv_f (am_m121 (D := 97) _), am_cal_ok am_cat_0 am_rcv_f (am_m122 (D := 97) _), am_bI0, am_f0_0, am_f0_1, am_f0_2, am_f0_3, am_f0_4, am_f0_5, am_f0_6, am_f0_7, am_f1_2, am_ec1, am_ec2, am_ec3, am_ec4, am_ec5, am_er_f, am_sy_f, Bool.false_and, Bool.and_false, reduceCtorEq, not_false_eq_true, not_true_eq_false, eq_self, am_os_some, Option.toList_some, Option.toList_none, List.cons_append, List.nil_append, if_true, if_false, true_and, am_nw1_i, am_nw1_r, am_nw1_n, cond_true]
          · rw [if_pos h5]
            refine am_cop_err (k := 5) (by decide) fun X q G hc => am_CD_of (M := am_N109) rfl rfl ?_
            show am_Rn _ _ ((Option.some FieldType.int)) am_J109 0 [some (.ref 0), some (.int (nI j)), some (.int i), some (.int (nI r)), some (.int k), some (.int n), none, none] [] (am_L0 q, G) _
            simp only [am_s109_0, am_s109_1, am_s109_4, am_s109_7, am_s109_8, am_s109_11, am_s109_14, am_s109_15, am_s109_16, am_s109_19, am_s109_20, am_s109_21, am_s109_24, am_s109_25, am_s109_26, am_s109_28, am_s109_29, am_s109_32, am_s109_33, am_s109_34, am_s109_36, am_s109_38, am_s109_41, am_s109_44, am_s109_46, am_s109_49, am_s109_52, am_s109_53, am_s109_54, am_s109_57, am_s109_58, am_s109_60, am_s109_63, am_s109_65, am_s109_68, am_s109_71, am_s109_72, am_s109_73, am_s109_76, am_s109_77, am_s109_79, am_s109_80, am_s109_82, am_s109_85, am_s109_88, am_s109_90, am_s109_92, am_s109_94, am_s109_97, am_s109_100, am_s109_101, am_s109_102, am_s109_105, am_s109_106, am_s109_108, am_s109_111, am_s109_112, am_s109_114, am_s109_117, am_s109_119, am_s109_121, am_s109_124, am_s109_126, h1, h2, am_rld_104 hj, am_rld_104 hr, am_cal_ok am_cat_0 (am_sh_v hj) (am_y58 (X := X) (q := q) hj (hc.2.2.2.2.2 j hj).1), am_cal_ok am_cat_0 (am_sh_v hr) (am_y58 (X := X) (q := q) hr (hc.2.2.2.2.2 r hr).1), am_sh_f1 hj, am_sh_f1 hr, (hc.2.2.2.2.2 j hj).1, (hc.2.2.2.2.2 r hr).1, h3, h4, h5, decide_false, am_cal_ok am_cat_0 am_v0 (am_e1 (D := 98)), am_cal_ok am_cat_0 am_v0 (am_e2 (D := 98)), am_cal_ok am_cat_0 am_v0 (am_e3 (D := 98)), am_cal_ok am_cat_0 am_v0 (am_e4 (D := 98)), am_cal_ok am_cat_0 am_v0 (am_e5 (D := 98)), am_cal_ok am_cat_0 am_rcv_f (am_m123 (D := 98) _ _), am_cal_ok am_cat_0 am_rcv_f (am_m121 (D := 97) _), am_cal_ok am_cat_0 am_rcv_f (am_m122 (D := 97) _), am_bI0, am_f0_0, am_f0_1, am_f0_2, am_f0_3, am_f0_4, am_f0_5, am_f0_6, am_f0_7, am_f1_2, am_ec1, am_ec2, am_ec3, am_ec4, am_ec5, am_er_f, am_sy_f, Bool.false_and, Bool.and_false, reduceCtorEq, not_false_eq_true, not_true_eq_false, eq_self, am_os_some, Option.toList_some, Option.toList_none, List.cons_append, List.nil_append, if_true, if_false, true_and, am_nw1_i, am_nw1_r, am_nw1_n, cond_true]
/-- traits -/
def am_trs (V : Nat → Int32) : Nat → Nat → am_S → am_S × Nat
  | 0, k, S => (S, k)
  | d + 1, k, S => if am_wi (V k) 15 = true then am_trs V d (k + 1) (am_su S 2 k (V k).toNatClampNeg) else (S, k)
def am_O110 (a : Int32) (s : am_St) : Int32 × am_St :=
  if am_wi a 3 = false then am_er 1 s
  else if (s.2.2.2.2.2 a.toNatClampNeg).1 = 0 then am_er 2 s
  else (nI (am_trs (s.2.2.2.2.2 a.toNatClampNeg).2.2 (min (s.2.2.2.2.2 a.toNatClampNeg).2.1 (s.1.1 13 0)) 0 s.1.1).2, am_sS (am_trs (s.2.2.2.2.2 a.toNatClampNeg).2.2 (min (s.2.2.2.2.2 a.toNatClampNeg).2.1 (s.1.1 13 0)) 0 s.1.1).1 s)
theorem am_l110 {j z n : Nat} {b : Int32} {V : Nat → Int32} (hj : j < 4) (hn8 : n ≤ 8) : ∀ (d k : Nat) (S : am_S) (G : am_G), k + d = min z n → S 13 0 = n → am_csh G j b z V → am_cp 10 G S → ∃ G' : am_G, (∀ i a, i ≠ 13 → G' i a = G i a) ∧ am_cp 10 G' (am_trs V d k S).1 ∧ am_Rn X 99 (some .int) am_J110 44 [some (.ref 0), some (.int (nI j)), some (.ref (106 + 2 * j)), some (.ref 10), some (.int (nI k))] [] (am_L0 q, G) (some (.int (nI (am_trs V d k S).2)), (am_L0 q, G')) := by
  intro d
  induction d with
  | zero =>
    intro k S G hk hn hV hS
    obtain ⟨e1, e2, e3, e4⟩ := hV
    have hd := hS.2.2.1
    rw [hn] at hd
    refine ⟨G, fun _ _ _ => rfl, hS, ?_⟩
    unfold am_trs
    by_cases c : k < z
    · have c1 : nI k < nI z := nI_lt c (by omega)
      have c2 : ¬ nI k < nI n := nI_nlt (by omega) (by omega)
      simp only [am_s110_44, am_s110_46, am_s110_47, am_s110_50, am_s110_53, am_s110_55, am_s110_56, am_s110_59, am_s110_97, am_s110_99, am_sh_f2 hj, e2, am_f10_8, hd, c1, c2, eq_self, am_os_some, Option.toList_some, Option.toList_none, List.cons_append, List.nil_append, if_true, if_false, true_and, am_nw1_i, am_nw1_r, am_nw1_n, cond_true]
    · have c1 : ¬ nI k < nI z := nI_nlt (by omega) (by omega)
      simp only [am_s110_44, am_s110_46, am_s110_47, am_s110_50, am_s110_53, am_s110_55, am_s110_56, am_s110_59, am_s110_97, am_s110_99, am_sh_f2 hj, e2, c1, eq_self, am_os_some, Option.toList_some, Option.toList_none, List.cons_append, List.nil_append, if_true, if_false, true_and, am_nw1_i, am_nw1_r, am_nw1_n, cond_true]
  | succ d ih =>
    intro k S G hk hn hV hS
    have hV0 := hV
    obtain ⟨e1, e2, e3, e4⟩ := hV
    have hd := hS.2.2.1
    rw [hn] at hd
    have c1 : nI k < nI z := nI_lt (by omega) (by omega)
    have c2 : nI k < nI n := nI_lt (by omega) (by omega)
    have ek := e4 k (by omega)
    have hi : nI k + 1 = nI (k + 1) := nI_add k 1
    cases hw : am_wi (V k) 15 with
    | false =>
      have et : am_trs V (d + 1) k S = (S, k) := by rw [am_trs, hw]; rfl
      rw [et]
      refine ⟨G, fun _ _ _ => rfl, hS, ?_⟩
      simp only [am_s110_44, am_s110_46, am_s110_47, am_s110_50, am_s110_53, am_s110_55, am_s110_56, am_s110_59, am_s110_62, am_s110_63, am_s110_66, am_s110_68, am_s110_69, am_s110_71, am_s110_74, am_s110_97, am_s110_99, am_sh_f2 hj, am_sh_f0 hj, am_sh_a hj (show k < 40 by omega), ek, e2, am_f10_8, hd, c1, c2, hw, am_cal_ok am_cat_0 am_v0 (am_e1 (D := 98)), am_cal_ok am_cat_0 am_v0 (am_e2 (D := 98)), am_cal_ok am_cat_0 am_v0 (am_e3 (D := 98)), am_cal_ok am_cat_0 am_v0 (am_e4 (D := 98)), am_cal_ok am_cat_0 am_v0 (am_e5 (D := 98)), am_cal_ok am_cat_0 am_rcv_f (am_m123 (D := 98) _ _), am_cal_ok am_cat_0 am_rcv_f (am_m121 (D := 97) _), am_cal_ok am_cat_0 am_rcv_f (am_m122 (D := 97) _), am_bI0, am_f0_0, am_f0_1, am_f0_2, am_f0_3, am_f0_4, am_f0_5, am_f0_6, am_f0_7, am_f1_2, am_ec1, am_ec2, am_ec3, am_ec4, am_ec5, am_er_f, am_sy_f, Bool.false_and, Bool.and_false, reduceCtorEq, not_false_eq_true, not_true_eq_false, eq_self, am_os_some, Option.toList_some, Option.toList_none, List.cons_append, List.nil_append, if_true, if_false, true_and, am_nw1_i, am_nw1_r, am_nw1_n, cond_true]
    | true =>
      have et : am_trs V (d + 1) k S = am_trs V d (k + 1) (am_su S 2 k (V k).toNatClampNeg) := by rw [am_trs, if_pos hw]
      rw [et]
      obtain ⟨-, v2⟩ := am_wi_nI (n := 15) (by decide) hw
      have cp := am_cp_up (f := 2) (v := (V k).toNatClampNeg) hS (by decide) (show k < 8 by omega)
      rw [← v2] at cp
      obtain ⟨G', f, c, g⟩ := ih (k + 1) (am_su S 2 k (V k).toNatClampNeg) (am_up G 13 k (V k)) (by omega) hn (am_csh_fr hV0 fun m => ⟨by rw [am_up_get, if_neg (by omega)], by rw [am_up_get, if_neg (by omega)]⟩) cp
      refine ⟨G', fun i a hi => by rw [f i a hi, am_up_get, if_neg hi], c, ?_⟩
      simp only [am_s110_44, am_s110_46, am_s110_47, am_s110_50, am_s110_53, am_s110_55, am_s110_56, am_s110_59, am_s110_62, am_s110_63, am_s110_66, am_s110_68, am_s110_69, am_s110_71, am_s110_74, am_s110_77, am_s110_78, am_s110_81, am_s110_83, am_s110_84, am_s110_87, am_s110_89, am_s110_90, am_s110_91, am_sh_f2 hj, am_sh_f0 hj, am_sh_a hj (show k < 40 by omega), ek, e2, am_f10_8, am_f10_4, am_t13, am_in_nI (show k < 8 by omega) (by decide), nI_clamp (show k < 2 ^ 31 by omega), hd, c1, c2, hw, am_cal_ok am_cat_0 am_v0 (am_e1 (D := 98)), am_cal_ok am_cat_0 am_v0 (am_e2 (D := 98)), am_cal_ok am_cat_0 am_v0 (am_e3 (D := 98)), am_cal_ok am_cat_0 am_v0 (am_e4 (D := 98)), am_cal_ok am_cat_0 am_v0 (am_e5 (D := 98)), am_cal_ok am_cat_0 am_rcv_f (am_m123 (D := 98) _ _), am_cal_ok am_cat_0 am_rcv_f (am_m121 (D := 97) _), am_cal_ok am_cat_0 am_rcv_f (am_m122 (D := 97) _), am_bI0, am_f0_0, am_f0_1, am_f0_2, am_f0_3, am_f0_4, am_f0_5, am_f0_6, am_f0_7, am_f1_2, am_ec1, am_ec2, am_ec3, am_ec4, am_ec5, am_er_f, am_sy_f, Bool.false_and, Bool.and_false, reduceCtorEq, not_false_eq_true, not_true_eq_false, eq_self, am_os_some, Option.toList_some, Option.toList_none, List.cons_append, List.nil_append, if_true, if_false, true_and, am_nw1_i, am_nw1_r, am_nw1_n, cond_true]
      rw [am_s110_94, hi]
      exact g
theorem am_c110 {a : Int32} {s : am_St} (hs : am_oks s) : am_cO 110 [.int a] s (am_O110 a s) := by
  unfold am_O110
  cases h1 : am_wi a 3 with
  | false =>
    rw [if_pos rfl]
    refine am_cop_err (k := 1) (by decide) fun X q G hc => am_CD_of (M := am_N110) rfl rfl ?_
    show am_Rn _ _ ((Option.some FieldType.int)) am_J110 0 [some (.ref 0), some (.int a), none, none, none] [] (am_L0 q, G) _
    simp only [am_s110_0, am_s110_1, am_s110_4, am_s110_7, am_s110_8, am_s110_9, am_s110_12, am_s110_13, am_s110_14, am_s110_17, am_s110_18, am_s110_19, am_s110_20, am_s110_21, am_s110_24, am_s110_27, am_s110_28, am_s110_29, am_s110_32, am_s110_33, am_s110_34, am_s110_37, am_s110_40, am_s110_41, am_s110_42, h1, am_cal_ok am_cat_0 am_v0 (am_e1 (D := 98)), am_cal_ok am_cat_0 am_v0 (am_e2 (D := 98)), am_cal_ok am_cat_0 am_v0 (am_e3 (D := 98)), am_cal_ok am_cat_0 am_v0 (am_e4 (D := 98)), am_cal_ok am_cat_0 am_v0 (am_e5 (D := 98)), am_cal_ok am_cat_0 am_rcv_f (am_m123 (D := 98) _ _), am_cal_ok am_cat_0 am_rcv_f (am_m121 (D := 97) _), am_cal_ok am_cat_0 am_rcv_f (am_m122 (D := 97) _), am_bI0, am_f0_0, am_f0_1, am_f0_2, am_f0_3, am_f0_4, am_f0_5, am_f0_6, am_f0_7, am_f1_2, am_ec1, am_ec2, am_ec3, am_ec4, am_ec5, am_er_f, am_sy_f, Bool.false_and, Bool.and_false, reduceCtorEq, not_false_eq_true, not_true_eq_false, eq_self, am_os_some, Option.toList_some, Option.toList_none, List.cons_append, List.nil_append, if_true, if_false, true_and, am_nw1_i, am_nw1_r, am_nw1_n, cond_true]
  | true =>
    rw [if_neg (by decide)]
    obtain ⟨a1, a2⟩ := am_wi_nI (n := 3) (by decide) h1
    generalize a.toNatClampNeg = j at a1 a2
    subst a2
    have hj : j < 4 := by omega
    by_cases h3 : (s.2.2.2.2.2 j).1 = 0
    · rw [if_pos h3]
      refine am_cop_err (k := 2) (by decide) fun X q G hc => am_CD_of (M := am_N110) rfl rfl ?_
      show am_Rn _ _ ((Option.some FieldType.int)) am_J110 0 [some (.ref 0), some (.int (nI j)), none, none, none] [] (am_L0 q, G) _
      simp only [am_s110_0, am_s110_1, am_s110_4, am_s110_7, am_s110_8, am_s110_9, am_s110_12, am_s110_13, am_s110_14, am_s110_17, am_s110_18, am_s110_19, am_s110_20, am_s110_21, am_s110_24, am_s110_27, am_s110_28, am_s110_29, am_s110_32, am_s110_33, am_s110_34, am_s110_37, am_s110_40, am_s110_41, am_s110_42, h1, am_rld_104 hj, am_cal_ok am_cat_0 (am_sh_v hj) (am_y58 (X := X) (q := q) hj (hc.2.2.2.2.2 j hj).1), h3, decide_true, am_cal_ok am_cat_0 am_v0 (am_e1 (D := 98)), am_cal_ok am_cat_0 am_v0 (am_e2 (D := 98)), am_cal_ok am_cat_0 am_v0 (am_e3 (D := 98)), am_cal_ok am_cat_0 am_v0 (am_e4 (D := 98)), am_cal_ok am_cat_0 am_v0 (am_e5 (D := 98)), am_cal_ok am_cat_0 am_rcv_f (am_m123 (D := 98) _ _), am_cal_ok am_cat_0 am_rcv_f (am_m121 (D := 97) _), am_cal_ok am_cat_0 am_rcv_f (am_m122 (D := 97) _), am_bI0, am_f0_0, am_f0_1, am_f0_2, am_f0_3, am_f0_4, am_f0_5, am_f0_6, am_f0_7, am_f1_2, am_ec1, am_ec2, am_ec3, am_ec4, am_ec5, am_er_f, am_sy_f, Bool.false_and, Bool.and_false, reduceCtorEq, not_false_eq_true, not_true_eq_false, eq_self, am_os_some, Option.toList_some, Option.toList_none, List.cons_append, List.nil_append, if_true, if_false, true_and, am_nw1_i, am_nw1_r, am_nw1_n, cond_true]
    · rw [if_neg h3]
      intro N xs q G hc
      obtain ⟨G1, f1, c1, g1⟩ := am_l110 (X := am_X0 N xs) (q := q) hj hs.1.1.1 (min (s.2.2.2.2.2 j).2.1 (s.1.1 13 0)) 0 s.1.1 G (by omega) rfl (hc.2.2.2.2.2 j hj) hc.1.1
      refine ⟨q, G1, fun i k hi => f1 i k (by omega), am_cfl_S hc (fun i k _ b _ => f1 i k (by omega)) c1 (f1 1 5 (by decide)), am_CD_of (M := am_N110) rfl rfl ?_⟩
      show am_Rn _ _ ((Option.some FieldType.int)) am_J110 0 [some (.ref 0), some (.int (nI j)), none, none, none] [] (am_L0 q, G) _
      simp only [am_s110_0, am_s110_1, am_s110_4, am_s110_7, am_s110_8, am_s110_9, am_s110_12, am_s110_13, am_s110_14, am_s110_17, am_s110_18, am_s110_19, am_s110_20, am_s110_21, am_s110_24, am_s110_27, am_s110_28, am_s110_29, am_s110_32, am_s110_33, am_s110_34, am_s110_37, am_s110_40, am_s110_41, am_s110_42, h1, am_rld_104 hj, am_cal_ok am_cat_0 (am_sh_v hj) (am_y58 (X := am_X0 N xs) (q := q) hj (hc.2.2.2.2.2 j hj).1), h3, decide_false, am_cal_ok am_cat_0 am_v0 (am_e1 (D := 98)), am_cal_ok am_cat_0 am_v0 (am_e2 (D := 98)), am_cal_ok am_cat_0 am_v0 (am_e3 (D := 98)), am_cal_ok am_cat_0 am_v0 (am_e4 (D := 98)), am_cal_ok am_cat_0 am_v0 (am_e5 (D := 98)), am_cal_ok am_cat_0 am_rcv_f (am_m123 (D := 98) _ _), am_cal_ok am_cat_0 am_rcv_f (am_m121 (D := 97) _), am_cal_ok am_cat_0 am_rcv_f (am_m122 (D := 97) _), am_bI0, am_f0_0, am_f0_1, am_f0_2, am_f0_3, am_f0_4, am_f0_5, am_f0_6, am_f0_7, am_f1_2, am_ec1, am_ec2, am_ec3, am_ec4, am_ec5, am_er_f, am_sy_f, Bool.false_and, Bool.and_false, reduceCtorEq, not_false_eq_true, not_true_eq_false, eq_self, am_os_some, Option.toList_some, Option.toList_none, List.cons_append, List.nil_append, if_true, if_false, true_and, am_nw1_i, am_nw1_r, am_nw1_n, cond_true]
      exact g1
/-- judge -/
def am_jdg (S : am_S) (V : Nat → Int32) : Nat → Nat → Nat
  | 0, k => k
  | d + 1, k => if V k = nI (S 3 k) then am_jdg S V d (k + 1) else k
theorem am_jdg_le {S : am_S} {V : Nat → Int32} : ∀ d k, k ≤ am_jdg S V d k ∧ am_jdg S V d k ≤ k + d
  | 0, k => ⟨Nat.le_refl _, Nat.le_refl _⟩
  | d + 1, k => by
    unfold am_jdg
    split
    · have := am_jdg_le (S := S) (V := V) d (k + 1); omega
    · omega
def am_O111 (a : Int32) (s : am_St) : Int32 × am_St :=
  if am_wi a 3 = false then am_er 1 s
  else if (s.2.2.2.2.2 a.toNatClampNeg).1 = 0 then am_er 2 s
  else am_sy (if am_jdg s.1.1 (s.2.2.2.2.2 a.toNatClampNeg).2.2 (min (s.2.2.2.2.2 a.toNatClampNeg).2.1 (s.1.1 13 0)) 0 = (s.2.2.2.2.2 a.toNatClampNeg).2.1 ∧ am_jdg s.1.1 (s.2.2.2.2.2 a.toNatClampNeg).2.2 (min (s.2.2.2.2.2 a.toNatClampNeg).2.1 (s.1.1 13 0)) 0 = s.1.1 13 0 then -1 else nI (am_jdg s.1.1 (s.2.2.2.2.2 a.toNatClampNeg).2.2 (min (s.2.2.2.2.2 a.toNatClampNeg).2.1 (s.1.1 13 0)) 0)) s
theorem am_l111 {j z n : Nat} {b : Int32} {V : Nat → Int32} {S : am_S} (hj : j < 4) (hn8 : n ≤ 8) (hn : S 13 0 = n) (hV : am_csh G j b z V) (hS : am_cp 10 G S) : ∀ (d k : Nat), k + d = min z n → ∀ o, am_Rn X 99 (some .int) am_J111 44 [some (.ref 0), some (.int (nI j)), some (.ref (106 + 2 * j)), some (.ref 10), some (.int (nI k))] [] (am_L0 q, G) o = am_Rn X 99 (some .int) am_J111 85 [some (.ref 0), some (.int (nI j)), some (.ref (106 + 2 * j)), some (.ref 10), some (.int (nI (am_jdg S V d k)))] [] (am_L0 q, G) o := by
  obtain ⟨e1, e2, e3, e4⟩ := hV
  have hd := hS.2.2.1
  rw [hn] at hd
  intro d
  induction d with
  | zero =>
    intro k hk o
    unfold am_jdg
    by_cases c : k < z
    · have c1 : nI k < nI z := nI_lt c (by omega)
      have c2 : ¬ nI k < nI n := nI_nlt (by omega) (by omega)
      simp only [am_s111_44, am_s111_46, am_s111_47, am_s111_50, am_s111_53, am_s111_55, am_s111_56, am_s111_59, am_sh_f2 hj, e2, am_f10_8, hd, c1, c2, eq_self, am_os_some, Option.toList_some, Option.toList_none, List.cons_append, List.nil_append, if_true, if_false, true_and, am_nw1_i, am_nw1_r, am_nw1_n, cond_true]
    · have c1 : ¬ nI k < nI z := nI_nlt (by omega) (by omega)
      simp only [am_s111_44, am_s111_46, am_s111_47, am_s111_50, am_s111_53, am_s111_55, am_s111_56, am_s111_59, am_sh_f2 hj, e2, c1, eq_self, am_os_some, Option.toList_some, Option.toList_none, List.cons_append, List.nil_append, if_true, if_false, true_and, am_nw1_i, am_nw1_r, am_nw1_n, cond_true]
  | succ d ih =>
    intro k hk o
    have c1 : nI k < nI z := nI_lt (by omega) (by omega)
    have c2 : nI k < nI n := nI_lt (by omega) (by omega)
    have ek := e4 k (by omega)
    have ew : G 14 k = nI (S 3 k) := (hS.1 k (by omega)).2.2.2.1
    have hi : nI k + 1 = nI (k + 1) := nI_add k 1
    unfold am_jdg
    by_cases c : V k = nI (S 3 k)
    · rw [if_pos c, ← ih (k + 1) (by omega) o, ← hi]
      refine Eq.trans ?_ am_s111_82
      simp only [am_s111_44, am_s111_46, am_s111_47, am_s111_50, am_s111_53, am_s111_55, am_s111_56, am_s111_59, am_s111_62, am_s111_63, am_s111_66, am_s111_68, am_s111_69, am_s111_70, am_s111_73, am_s111_75, am_s111_76, am_s111_79, am_sh_f2 hj, am_sh_f0 hj, am_sh_a hj (show k < 40 by omega), ek, ew, e2, am_f10_8, am_f10_5, am_a14, am_in_nI (show k < 8 by omega) (by decide), nI_clamp (show k < 2 ^ 31 by omega), hd, c1, c2, c, am_cal_ok am_cat_0 am_v0 (am_e1 (D := 98)), am_cal_ok am_cat_0 am_v0 (am_e2 (D := 98)), am_cal_ok am_cat_0 am_v0 (am_e3 (D := 98)), am_cal_ok am_cat_0 am_v0 (am_e4 (D := 98)), am_cal_ok am_cat_0 am_v0 (am_e5 (D := 98)), am_cal_ok am_cat_0 am_rcv_f (am_m123 (D := 98) _ _), am_cal_ok am_cat_0 am_rcv_f (am_m121 (D := 97) _), am_cal_ok am_cat_0 am_rcv_f (am_m122 (D := 97) _), am_bI0, am_f0_0, am_f0_1, am_f0_2, am_f0_3, am_f0_4, am_f0_5, am_f0_6, am_f0_7, am_f1_2, am_ec1, am_ec2, am_ec3, am_ec4, am_ec5, am_er_f, am_sy_f, Bool.false_and, Bool.and_false, reduceCtorEq, not_false_eq_true, not_true_eq_false, eq_self, am_os_some, Option.toList_some, Option.toList_none, List.cons_append, List.nil_append, if_true, if_false, true_and, am_nw1_i, am_nw1_r, am_nw1_n, cond_true]
    · rw [if_neg c]
      simp only [am_s111_44, am_s111_46, am_s111_47, am_s111_50, am_s111_53, am_s111_55, am_s111_56, am_s111_59, am_s111_62, am_s111_63, am_s111_66, am_s111_68, am_s111_69, am_s111_70, am_s111_73, am_s111_75, am_s111_76, am_s111_79, am_sh_f2 hj, am_sh_f0 hj, am_sh_a hj (show k < 40 by omega), ek, ew, e2, am_f10_8, am_f10_5, am_a14, am_in_nI (show k < 8 by omega) (by decide), nI_clamp (show k < 2 ^ 31 by omega), hd, c1, c2, c, am_cal_ok am_cat_0 am_v0 (am_e1 (D := 98)), am_cal_ok am_cat_0 am_v0 (am_e2 (D := 98)), am_cal_ok am_cat_0 am_v0 (am_e3 (D := 98)), am_cal_ok am_cat_0 am_v0 (am_e4 (D := 98)), am_cal_ok am_cat_0 am_v0 (am_e5 (D := 98)), am_cal_ok am_cat_0 am_rcv_f (am_m123 (D := 98) _ _), am_cal_ok am_cat_0 am_rcv_f (am_m121 (D := 97) _), am_cal_ok am_cat_0 am_rcv_f (am_m122 (D := 97) _), am_bI0, am_f0_0, am_f0_1, am_f0_2, am_f0_3, am_f0_4, am_f0_5, am_f0_6, am_f0_7, am_f1_2, am_ec1, am_ec2, am_ec3, am_ec4, am_ec5, am_er_f, am_sy_f, Bool.false_and, Bool.and_false, reduceCtorEq, not_false_eq_true, not_true_eq_false, eq_self, am_os_some, Option.toList_some, Option.toList_none, List.cons_append, List.nil_append, if_true, if_false, true_and, am_nw1_i, am_nw1_r, am_nw1_n, cond_true]
theorem am_c111 {a : Int32} {s : am_St} (hs : am_oks s) : am_cO 111 [.int a] s (am_O111 a s) := by
  unfold am_O111
  cases h1 : am_wi a 3 with
  | false =>
    rw [if_pos rfl]
    refine am_cop_err (k := 1) (by decide) fun X q G hc => am_CD_of (M := am_N111) rfl rfl ?_
    show am_Rn _ _ ((Option.some FieldType.int)) am_J111 0 [some (.ref 0), some (.int a), none, none, none] [] (am_L0 q, G) _
    simp only [am_s111_0, am_s111_1, am_s111_4, am_s111_7, am_s111_8, am_s111_9, am_s111_12, am_s111_13, am_s111_14, am_s111_17, am_s111_18, am_s111_19, am_s111_20, am_s111_21, am_s111_24, am_s111_27, am_s111_28, am_s111_29, am_s111_32, am_s111_33, am_s111_34, am_s111_37, am_s111_40, am_s111_41, am_s111_42, h1, am_cal_ok am_cat_0 am_v0 (am_e1 (D := 98)), am_cal_ok am_cat_0 am_v0 (am_e2 (D := 98)), am_cal_ok am_cat_0 am_v0 (am_e3 (D := 98)), am_cal_ok am_cat_0 am_v0 (am_e4 (D := 98)), am_cal_ok am_cat_0 am_v0 (am_e5 (D := 98)), am_cal_ok am_cat_0 am_rcv_f (am_m123 (D := 98) _ _), am_cal_ok am_cat_0 am_rcv_f (am_m121 (D := 97) _), am_cal_ok am_cat_0 am_rcv_f (am_m122 (D := 97) _), am_bI0, am_f0_0, am_f0_1, am_f0_2, am_f0_3, am_f0_4, am_f0_5, am_f0_6, am_f0_7, am_f1_2, am_ec1, am_ec2, am_ec3, am_ec4, am_ec5, am_er_f, am_sy_f, Bool.false_and, Bool.and_false, reduceCtorEq, not_false_eq_true, not_true_eq_false, eq_self, am_os_some, Option.toList_some, Option.toList_none, List.cons_append, List.nil_append, if_true, if_false, true_and, am_nw1_i, am_nw1_r, am_nw1_n, cond_true]
  | true =>
    rw [if_neg (by decide)]
    obtain ⟨a1, a2⟩ := am_wi_nI (n := 3) (by decide) h1
    generalize a.toNatClampNeg = j at a1 a2
    subst a2
    have hj : j < 4 := by omega
    by_cases h3 : (s.2.2.2.2.2 j).1 = 0
    · rw [if_pos h3]
      refine am_cop_err (k := 2) (by decide) fun X q G hc => am_CD_of (M := am_N111) rfl rfl ?_
      show am_Rn _ _ ((Option.some FieldType.int)) am_J111 0 [some (.ref 0), some (.int (nI j)), none, none, none] [] (am_L0 q, G) _
      simp only [am_s111_0, am_s111_1, am_s111_4, am_s111_7, am_s111_8, am_s111_9, am_s111_12, am_s111_13, am_s111_14, am_s111_17, am_s111_18, am_s111_19, am_s111_20, am_s111_21, am_s111_24, am_s111_27, am_s111_28, am_s111_29, am_s111_32, am_s111_33, am_s111_34, am_s111_37, am_s111_40, am_s111_41, am_s111_42, h1, am_rld_104 hj, am_cal_ok am_cat_0 (am_sh_v hj) (am_y58 (X := X) (q := q) hj (hc.2.2.2.2.2 j hj).1), h3, decide_true, am_cal_ok am_cat_0 am_v0 (am_e1 (D := 98)), am_cal_ok am_cat_0 am_v0 (am_e2 (D := 98)), am_cal_ok am_cat_0 am_v0 (am_e3 (D := 98)), am_cal_ok am_cat_0 am_v0 (am_e4 (D := 98)), am_cal_ok am_cat_0 am_v0 (am_e5 (D := 98)), am_cal_ok am_cat_0 am_rcv_f (am_m123 (D := 98) _ _), am_cal_ok am_cat_0 am_rcv_f (am_m121 (D := 97) _), am_cal_ok am_cat_0 am_rcv_f (am_m122 (D := 97) _), am_bI0, am_f0_0, am_f0_1, am_f0_2, am_f0_3, am_f0_4, am_f0_5, am_f0_6, am_f0_7, am_f1_2, am_ec1, am_ec2, am_ec3, am_ec4, am_ec5, am_er_f, am_sy_f, Bool.false_and, Bool.and_false, reduceCtorEq, not_false_eq_true, not_true_eq_false, eq_self, am_os_some, Option.toList_some, Option.toList_none, List.cons_append, List.nil_append, if_true, if_false, true_and, am_nw1_i, am_nw1_r, am_nw1_n, cond_true]
    · rw [if_neg h3]
      refine am_cop_same fun N xs q G hc => ?_
      have hz := (hs.2.2.2 j hj).1
      have h8 := hs.1.1.1
      obtain ⟨e1, e2, e3, e4⟩ := hc.2.2.2.2.2 j hj
      have hn : G 10 8 = nI (s.1.1 13 0) := hc.1.1.2.2.1
      have g1 := am_l111 (X := am_X0 N xs) (q := q) hj hs.1.1.1 rfl (hc.2.2.2.2.2 j hj) hc.1.1 (min (s.2.2.2.2.2 j).2.1 (s.1.1 13 0)) 0 (by omega)
      have le := (am_jdg_le (S := s.1.1) (V := (s.2.2.2.2.2 j).2.2) (min (s.2.2.2.2.2 j).2.1 (s.1.1 13 0)) 0).2
      generalize am_jdg s.1.1 (s.2.2.2.2.2 j).2.2 (min (s.2.2.2.2.2 j).2.1 (s.1.1 13 0)) 0 = k at g1 le
      generalize (s.2.2.2.2.2 j).2.1 = z at e2 e3 g1 le hz
      generalize s.1.1 13 0 = n at hn g1 le h8
      have c1 : (nI k = nI z) = (k = z) := propext (nI_eq (by omega) (by omega))
      have c2 : (nI k = nI n) = (k = n) := propext (nI_eq (by omega) (by omega))
      have g1' : ∀ o, am_Rn (am_X0 N xs) 99 (some .int) am_J111 44 [some (.ref 0), some (.int (nI j)), some (.ref (106 + 2 * j)), some (.ref 10), some (.int 0)] [] (am_L0 q, G) o = _ := g1
      refine ⟨q, G, fun _ _ _ => rfl, am_CD_of (M := am_N111) rfl rfl ?_⟩
      show am_Rn _ _ ((Option.some FieldType.int)) am_J111 0 [some (.ref 0), some (.int (nI j)), none, none, none] [] (am_L0 q, G) _
      simp only [am_s111_0, am_s111_1, am_s111_4, am_s111_7, am_s111_8, am_s111_9, am_s111_12, am_s111_13, am_s111_14, am_s111_17, am_s111_18, am_s111_19, am_s111_20, am_s111_21, am_s111_24, am_s111_27, am_s111_28, am_s111_29, am_s111_32, am_s111_33, am_s111_34, am_s111_37, am_s111_40, am_s111_41, am_s111_42, h1, am_rld_104 hj, am_cal_ok am_cat_0 (am_sh_v hj) (am_y58 (X := am_X0 N xs) (q := q) hj (hc.2.2.2.2.2 j hj).1), h3, decide_false, am_cal_ok am_cat_0 am_v0 (am_e1 (D := 98)), am_cal_ok am_cat_0 am_v0 (am_e2 (D := 98)), am_cal_ok am_cat_0 am_v0 (am_e3 (D := 98)), am_cal_ok am_cat_0 am_v0 (am_e4 (D := 98)), am_cal_ok am_cat_0 am_v0 (am_e5 (D := 98)), am_cal_ok am_cat_0 am_rcv_f (am_m123 (D := 98) _ _), am_cal_ok am_cat_0 am_rcv_f (am_m121 (D := 97) _), am_cal_ok am_cat_0 am_rcv_f (am_m122 (D := 97) _), am_bI0, am_f0_0, am_f0_1, am_f0_2, am_f0_3, am_f0_4, am_f0_5, am_f0_6, am_f0_7, am_f1_2, am_ec1, am_ec2, am_ec3, am_ec4, am_ec5, am_er_f, am_sy_f, Bool.false_and, Bool.and_false, reduceCtorEq, not_false_eq_true, not_true_eq_false, eq_self, am_os_some, Option.toList_some, Option.toList_none, List.cons_append, List.nil_append, if_true, if_false, true_and, am_nw1_i, am_nw1_r, am_nw1_n, cond_true]
      rw [g1']
      by_cases d1 : k = z
      · by_cases d2 : k = n
        · simp only [am_s111_85, am_s111_87, am_s111_88, am_s111_91, am_s111_94, am_s111_96, am_s111_97, am_s111_100, am_s111_103, am_s111_104, am_s111_107, am_s111_109, am_sh_f2 hj, e2, am_f10_8, hn, c1, c2, d1, d2, and_self, am_cal_ok am_cat_0 am_v0 (am_e1 (D := 98)), am_cal_ok am_cat_0 am_v0 (am_e2 (D := 98)), am_cal_ok am_cat_0 am_v0 (am_e3 (D := 98)), am_cal_ok am_cat_0 am_v0 (am_e4 (D := 98)), am_cal_ok am_cat_0 am_v0 (am_e5 (D := 98)), am_cal_ok am_cat_0 am_rcv_f (am_m123 (D := 98) _ _), am_cal_ok am_cat_0 am_rcv_f (am_m121 (D := 97) _), am_cal_ok am_cat_0 am_rcv_f (am_m122 (D := 97) _), am_bI0, am_f0_0, am_f0_1, am_f0_2, am_f0_3, am_f0_4, am_f0_5, am_f0_6, am_f0_7, am_f1_2, am_ec1, am_ec2, am_ec3, am_ec4, am_ec5, am_er_f, am_sy_f, Bool.false_and, Bool.and_false, reduceCtorEq, not_false_eq_true, not_true_eq_false, eq_self, am_os_some, Option.toList_some, Option.toList_none, List.cons_append, List.nil_append, if_true, if_false, true_and, am_nw1_i, am_nw1_r, am_nw1_n, cond_true]
          subst d1 d2
          simp
        · simp only [am_s111_85, am_s111_87, am_s111_88, am_s111_91, am_s111_94, am_s111_96, am_s111_97, am_s111_100, am_s111_103, am_s111_104, am_s111_107, am_s111_109, am_sh_f2 hj, e2, am_f10_8, hn, c1, c2, d1, d2, and_false, am_cal_ok am_cat_0 am_v0 (am_e1 (D := 98)), am_cal_ok am_cat_0 am_v0 (am_e2 (D := 98)), am_cal_ok am_cat_0 am_v0 (am_e3 (D := 98)), am_cal_ok am_cat_0 am_v0 (am_e4 (D := 98)), am_cal_ok am_cat_0 am_v0 (am_e5 (D := 98)), am_cal_ok am_cat_0 am_rcv_f (am_m123 (D := 98) _ _), am_cal_ok am_cat_0 am_rcv_f (am_m121 (D := 97) _), am_cal_ok am_cat_0 am_rcv_f (am_m122 (D := 97) _), am_bI0, am_f0_0, am_f0_1, am_f0_2, am_f0_3, am_f0_4, am_f0_5, am_f0_6, am_f0_7, am_f1_2, am_ec1, am_ec2, am_ec3, am_ec4, am_ec5, am_er_f, am_sy_f, Bool.false_and, Bool.and_false, reduceCtorEq, not_false_eq_true, not_true_eq_false, eq_self, am_os_some, Option.toList_some, Option.toList_none, List.cons_append, List.nil_append, if_true, if_false, true_and, am_nw1_i, am_nw1_r, am_nw1_n, cond_true]
          subst d1
          simp [c2, d2]
      · simp only [am_s111_85, am_s111_87, am_s111_88, am_s111_91, am_s111_94, am_s111_96, am_s111_97, am_s111_100, am_s111_103, am_s111_104, am_s111_107, am_s111_109, am_sh_f2 hj, e2, am_f10_8, hn, c1, d1, false_and, am_cal_ok am_cat_0 am_v0 (am_e1 (D := 98)), am_cal_ok am_cat_0 am_v0 (am_e2 (D := 98)), am_cal_ok am_cat_0 am_v0 (am_e3 (D := 98)), am_cal_ok am_cat_0 am_v0 (am_e4 (D := 98)), am_cal_ok am_cat_0 am_v0 (am_e5 (D := 98)), am_cal_ok am_cat_0 am_rcv_f (am_m123 (D := 98) _ _), am_cal_ok am_cat_0 am_rcv_f (am_m121 (D := 97) _), am_cal_ok am_cat_0 am_rcv_f (am_m122 (D := 97) _), am_bI0, am_f0_0, am_f0_1, am_f0_2, am_f0_3, am_f0_4, am_f0_5, am_f0_6, am_f0_7, am_f1_2, am_ec1, am_ec2, am_ec3, am_ec4, am_ec5, am_er_f, am_sy_f, Bool.false_and, Bool.and_false, reduceCtorEq, not_false_eq_true, not_true_eq_false, eq_self, am_os_some, Option.toList_some, Option.toList_none, List.cons_append, List.nil_append, if_true, if_false, true_and, am_nw1_i, am_nw1_r, am_nw1_n, cond_true]
end AMOP7
