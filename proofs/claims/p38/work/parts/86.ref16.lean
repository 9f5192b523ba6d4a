/-! THE REFERENCE: net -/
section AMRG6
variable {X : am_X} {D q : Nat}
theorem am_nt_8 {S : am_S} (hw : am_wf S) {p : Nat} (hp : p < 8) : ∀ d k, k + d = 8 → S 13 0 ≤ k → am_nt S p 8 = am_nt S p k := by
  intro d
  induction d with
  | zero =>
    intro k hk _
    obtain rfl : k = 8 := by omega
    rfl
  | succ d ih =>
    intro k hk hn
    rw [ih (k + 1) (by omega) (by omega)]
    show am_nt S p k + (nI (S (5 + k) p) - nI (S (5 + p) k)) = am_nt S p k
    rw [hw.2.2.2.2 k p (by omega) hp (Or.inl hn), hw.2.2.2.2 p k hp (by omega) (Or.inr (Or.inl hn))]
    simp
theorem am_r193 {a : Int32} {s : am_St} (hs : am_oks s) : am_rO 193 [.int a] s (am_O100 a s) := by
  unfold am_O100
  have h8 := hs.1.1.1
  cases h1 : am_ip (s.1.1 13 0) a with
  | false =>
    refine am_rO_err (k := 1) (r := -1000000001) (by decide) am_ec1.symm fun X q G hc => am_CD_of (M := am_N193) rfl rfl ?_
    have hn : G 115 2 = nI (s.1.1 13 0) := hc.1.1.2.1
    show am_Rn _ _ ((Option.some FieldType.int)) am_J193 0 [some (.ref 114), some (.int a), none, none] [] (am_L0 q, G) _
    simp only [am_s193_0, am_s193_1, am_s193_2, am_s193_5, am_s193_8, am_s193_9, am_s193_11, am_s193_14, am_s193_15, am_s193_16, am_s193_17, am_s193_18, h1, am_cal_ok am_cat_0 am_v114 (am_y132 (D := 97) h8 hn _), am_cal_ok am_cat_0 am_v114 (am_d1 (D := 98)), am_cal_ok am_cat_0 am_v114 (am_d2 (D := 98)), am_cal_ok am_cat_0 am_v114 (am_d3 (D := 98)), am_cal_ok am_cat_0 am_v114 (am_d4 (D := 98)), am_cal_ok am_cat_0 am_v114 (am_d5 (D := 98)), am_cal_ok am_cat_0 am_rcv_f (am_y125 _ _), am_cal_ok am_cat_0 am_rcv_f (am_m183 (D := 97) _), am_bI0, am_f114_0, am_er_f, am_sy_f, Bool.false_and, Bool.and_false, reduceCtorEq, not_false_eq_true, not_true_eq_false, eq_self, am_os_some, Option.toList_some, Option.toList_none, List.cons_append, List.nil_append, if_true, if_false, true_and, am_nw1_i, am_nw1_r, am_nw1_n, cond_true]
  | true =>
    rw [if_neg (by decide)]
    obtain ⟨a1, a2⟩ := am_ip_nI h8 h1
    generalize a.toNatClampNeg = p at a1 a2
    subst a2
    have p8 : p < 8 := by omega
    refine am_rO_same fun N xs q G hc => ?_
    have hn : G 115 2 = nI (s.1.1 13 0) := hc.1.1.2.1
    have hl : ∀ d k, k + d = s.1.1 13 0 → am_Rn (am_X0 N xs) 99 (some .int) am_J193 19 [some (.ref 114), some (.int (nI p)), some (.int (am_nt s.1.1 p k)), some (.int (nI k))] [] (am_L0 q, G) (some (.int (am_nt s.1.1 p (s.1.1 13 0))), (am_L0 q, G)) := by
      intro d
      induction d with
      | zero =>
        intro k hk
        obtain rfl : k = s.1.1 13 0 := by omega
        have h1 : ¬ nI (s.1.1 13 0) < nI (s.1.1 13 0) := Int32.lt_irrefl
        simp only [am_s193_19, am_s193_20, am_s193_21, am_s193_24, am_s193_25, am_s193_26, am_s193_51, am_s193_52, am_f114_0, am_r115_2, hn, h1, eq_self, am_os_some, Option.toList_some, Option.toList_none, List.cons_append, List.nil_append, if_true, if_false, true_and, am_nw1_i, am_nw1_r, am_nw1_n, cond_true]
      | succ d ih =>
        intro k hk
        have h1 : nI k < nI (s.1.1 13 0) := nI_lt (by omega) (by omega)
        have hi : nI k + 1 = nI (k + 1) := nI_add k 1
        have d1 := hc.1.1.2.2.2 k p (by omega) p8
        have d2 := hc.1.1.2.2.2 p k p8 (by omega)
        have e : am_nt s.1.1 p k + (nI (s.1.1 (5 + k) p) - nI (s.1.1 (5 + p) k)) = am_nt s.1.1 p (k + 1) := rfl
        simp only [am_s193_19, am_s193_20, am_s193_21, am_s193_24, am_s193_25, am_s193_26, am_s193_29, am_s193_30, am_s193_31, am_s193_32, am_s193_33, am_s193_36, am_s193_37, am_s193_38, am_s193_39, am_s193_42, am_s193_43, am_s193_44, am_s193_45, am_f114_0, am_r115_2, hn, h1, am_cal_ok (am_cat_1 _) am_v114 (am_m133 (D := 98) (show k < 8 by omega) p8), am_cal_ok (am_cat_2 _ _) am_v114 (am_m133 (D := 98) p8 (show k < 8 by omega)), d1, d2, e, eq_self, am_os_some, Option.toList_some, Option.toList_none, List.cons_append, List.nil_append, if_true, if_false, true_and, am_nw1_i, am_nw1_r, am_nw1_n, cond_true]
        rw [am_s193_48, hi]
        exact ih (k + 1) (by omega)
    have g := hl (s.1.1 13 0) 0 (by omega)
    rw [← am_nt_8 hs.1.1 p8 (8 - s.1.1 13 0) (s.1.1 13 0) (by omega) (Nat.le_refl _)] at g
    refine ⟨G, fun _ _ _ => rfl, fun _ _ _ _ _ _ _ _ => rfl, am_CD_of (M := am_N193) rfl rfl ?_⟩
    show am_Rn _ _ ((Option.some FieldType.int)) am_J193 0 [some (.ref 114), some (.int (nI p)), none, none] [] (am_L0 q, G) _
    simp only [am_s193_0, am_s193_1, am_s193_2, am_s193_5, am_s193_8, am_s193_9, am_s193_11, am_s193_14, am_s193_15, am_s193_16, am_s193_17, am_s193_18, am_cal_ok am_cat_0 am_v114 (am_y132 (D := 97) h8 hn _), h1, am_cal_ok am_cat_0 am_v114 (am_d1 (D := 98)), am_cal_ok am_cat_0 am_v114 (am_d2 (D := 98)), am_cal_ok am_cat_0 am_v114 (am_d3 (D := 98)), am_cal_ok am_cat_0 am_v114 (am_d4 (D := 98)), am_cal_ok am_cat_0 am_v114 (am_d5 (D := 98)), am_cal_ok am_cat_0 am_rcv_f (am_y125 _ _), am_cal_ok am_cat_0 am_rcv_f (am_m183 (D := 97) _), am_bI0, am_f114_0, am_er_f, am_sy_f, Bool.false_and, Bool.and_false, reduceCtorEq, not_false_eq_true, not_true_eq_false, eq_self, am_os_some, Option.toList_some, Option.toList_none, List.cons_append, List.nil_append, if_true, if_false, true_and, am_nw1_i, am_nw1_r, am_nw1_n, cond_true]
    exact g
end AMRG6
