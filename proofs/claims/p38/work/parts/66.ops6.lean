/-! SHEETS: rules, sheet, put, move, traits, judge -/
section AMOP6
variable {X : am_X} {D q : Nat} {G : am_G}
def am_sH (j : Nat) (x : Int32 × Nat × (Nat → Int32)) (s : am_St) : am_St := (s.1, s.2.1, s.2.2.1, s.2.2.2.1, s.2.2.2.2.1, fun i => if i = j then x else s.2.2.2.2.2 i)
theorem am_cfl_H {G' : am_G} {W I : am_We} {c : Nat} {L : List Int32} {E : Nat → Int32} {H : am_Sh} {j : Nat} {x : Int32 × Nat × (Nat → Int32)} (hj : j < 4) (h : am_cfl G W I c L E H) (hf : ∀ i k, i ≠ 106 + 2 * j → i ≠ 107 + 2 * j → G' i k = G i k) (h1 : am_csh G' j x.1 x.2.1 x.2.2) : am_cfl G' W I c L E (fun i => if i = j then x else H i) :=
  ⟨am_cwe_fr h.1 fun i j a b c d => hf i j (by omega) (by omega), am_cwe_fr h.2.1 fun i j a b c d => hf i j (by omega) (by omega), by rw [hf 0 8 (by omega) (by omega)]; exact h.2.2.1, am_crw_fr h.2.2.2.1 fun j => ⟨hf _ j (by omega) (by omega), hf _ j (by omega) (by omega)⟩, fun k hk => by rw [hf 105 k (by omega) (by omega)]; exact h.2.2.2.2.1 k hk, fun i hi => by
    by_cases e : i = j
    · subst e
      simp only [if_true]
      exact h1
    · simp only [if_neg e]
      exact am_csh_fr (h.2.2.2.2.2 i hi) fun k => ⟨hf _ k (by omega) (by omega), hf _ k (by omega) (by omega)⟩⟩
theorem am_hol_nI {z : Nat} {i n : Int32} (hz : z ≤ 40) (h : am_hol z i n = true) : i = nI i.toNatClampNeg ∧ n = nI n.toNatClampNeg ∧ i.toNatClampNeg + n.toNatClampNeg ≤ z := by
  unfold am_hol at h
  simp only [Bool.and_eq_true, decide_eq_true_eq] at h
  obtain ⟨h1, h2, h3, h4⟩ := h
  obtain ⟨a, ha, rfl⟩ := nI_of h1
  obtain ⟨b, hb, rfl⟩ := nI_of h2
  have h5 := (nI_leI ha (by omega)).mp h3
  rw [am_sub h5] at h4
  have h6 := (nI_leI hb (by omega)).mp h4
  rw [nI_clamp ha, nI_clamp hb]
  exact ⟨rfl, rfl, by omega⟩
theorem am_acp40 {a b p k n : Nat} (ha : a < 4) (hb : b < 4) (h1 : p + n ≤ 40) (h2 : k + n ≤ 40) : am_acpS [] (am_L0 q, G) (107 + 2 * a) (107 + 2 * b) (nI p) (nI k) (nI n) = some (am_L0 q, am_cpy G (107 + 2 * a) (107 + 2 * b) p k n) := by
  have c1 : (nI p).toNatClampNeg = p := nI_clamp (by omega)
  have c2 : (nI k).toNatClampNeg = k := nI_clamp (by omega)
  have c3 : (nI n).toNatClampNeg = n := nI_clamp (by omega)
  have p1 : ¬ nI p < 0 := nI_pos (by omega)
  have p2 : ¬ nI k < 0 := nI_pos (by omega)
  have p3 : ¬ nI n < 0 := nI_pos (by omega)
  unfold am_acpS am_acpM
  simp only [am_cat_0, am_sh_lc ha, am_sh_lc hb, c1, c2, c3, cond_true, p1, p2, p3, decide_false, Bool.not_false, Bool.true_and, Nat.ble_eq_true_of_le h1, Nat.ble_eq_true_of_le h2]
/-- rules -/
def am_O96 (a w : Int32) (s : am_St) : Int32 × am_St :=
  if (am_wi a 3 && am_wi w 2) = false then am_er 1 s
  else if (s.2.2.2.2.2 a.toNatClampNeg).1 = 0 then am_er 2 s
  else if w.toNatClampNeg = 0 then am_sy (nI (am_flr s.1.1 (s.2.2.2.2.2 a.toNatClampNeg).2.2 (s.2.2.2.2.2 a.toNatClampNeg).2.1 256).length) s
  else if w.toNatClampNeg = 2 then am_sy (nI (am_mev (am_flr s.1.1 (s.2.2.2.2.2 a.toNatClampNeg).2.2 (s.2.2.2.2.2 a.toNatClampNeg).2.1 256) 15).1) s
  else if (am_flr s.1.1 (s.2.2.2.2.2 a.toNatClampNeg).2.2 (s.2.2.2.2.2 a.toNatClampNeg).2.1 256).length = 0 then am_er 2 s
  else am_sy (nI ((am_flr s.1.1 (s.2.2.2.2.2 a.toNatClampNeg).2.2 (s.2.2.2.2.2 a.toNatClampNeg).2.1 256).getD 0 0)) s
theorem am_c96 {a w : Int32} {s : am_St} (hs : am_oks s) : am_cO 96 [.int a, .int w] s (am_O96 a w s) := by
  unfold am_O96
  cases h1 : am_wi a 3 with
  | false =>
    refine am_cop_err (k := 1) (by decide) fun X q G hc => am_CD_of (M := am_N96) rfl rfl ?_
    show am_Rn _ _ ((Option.some FieldType.int)) am_J96 0 [some (.ref 0), some (.int a), some (.int w)] [] (am_L0 q, G) _
    simp only [am_s96_0, am_s96_1, am_s96_4, am_s96_7, am_s96_8, am_s96_9, am_s96_12, am_s96_15, am_s96_16, am_s96_17, am_s96_20, am_s96_21, am_s96_22, am_s96_25, am_s96_26, am_s96_27, am_s96_30, am_s96_33, am_s96_34, am_s96_35, am_s96_38, am_s96_39, am_s96_40, am_s96_43, am_s96_44, am_s96_47, am_s96_50, am_s96_51, am_s96_54, am_s96_55, am_s96_56, am_s96_59, am_s96_60, am_s96_63, am_s96_64, am_s96_67, am_s96_70, am_s96_71, am_s96_72, am_s96_73, am_s96_76, am_s96_77, am_s96_80, am_s96_83, am_s96_84, am_s96_85, am_s96_88, am_s96_91, am_s96_94, am_s96_95, am_s96_96, am_s96_99, am_s96_102, am_s96_103, am_s96_106, am_s96_109, am_s96_110, am_s96_111, h1, am_cal_ok am_cat_0 am_v0 (am_e1 (D := 98)), am_cal_ok am_cat_0 am_v0 (am_e2 (D := 98)), am_cal_ok am_cat_0 am_v0 (am_e3 (D := 98)), am_cal_ok am_cat_0 am_v0 (am_e4 (D := 98)), am_cal_ok am_cat_0 am_v0 (am_e5 (D := 98)), am_cal_ok am_cat_0 am_rcv_f (am_m123 (D := 98) _ _), am_cal_ok am_cat_0 am_rcv_f (am_m121 (D := 97) _), am_cal_ok am_cat_0 am_rcv_f (am_m122 (D := 97) _), am_bI0, am_f0_0, am_f0_1, am_f0_2, am_f0_3, am_f0_4, am_f0_5, am_f0_6, am_f0_7, am_f1_2, am_ec1, am_ec2, am_ec3, am_ec4, am_ec5, am_er_f, am_sy_f, Bool.false_and, Bool.and_false, reduceCtorEq, not_false_eq_true, not_true_eq_false, eq_self, am_os_some, Option.toList_some, Option.toList_none, List.cons_append, List.nil_append, if_true, if_false, true_and, am_nw1_i, am_nw1_r, am_nw1_n, cond_true]
  | true =>
    cases h2 : am_wi w 2 with
    | false =>
      refine am_cop_err (k := 1) (by decide) fun X q G hc => am_CD_of (M := am_N96) rfl rfl ?_
      show am_Rn _ _ ((Option.some FieldType.int)) am_J96 0 [some (.ref 0), some (.int a), some (.int w)] [] (am_L0 q, G) _
      simp only [am_s96_0, am_s96_1, am_s96_4, am_s96_7, am_s96_8, am_s96_9, am_s96_12, am_s96_15, am_s96_16, am_s96_17, am_s96_20, am_s96_21, am_s96_22, am_s96_25, am_s96_26, am_s96_27, am_s96_30, am_s96_33, am_s96_34, am_s96_35, am_s96_38, am_s96_39, am_s96_40, am_s96_43, am_s96_44, am_s96_47, am_s96_50, am_s96_51, am_s96_54, am_s96_55, am_s96_56, am_s96_59, am_s96_60, am_s96_63, am_s96_64, am_s96_67, am_s96_70, am_s96_71, am_s96_72, am_s96_73, am_s96_76, am_s96_77, am_s96_80, am_s96_83, am_s96_84, am_s96_85, am_s96_88, am_s96_91, am_s96_94, am_s96_95, am_s96_96, am_s96_99, am_s96_102, am_s96_103, am_s96_106, am_s96_109, am_s96_110, am_s96_111, h1, h2, am_cal_ok am_cat_0 am_v0 (am_e1 (D := 98)), am_cal_ok am_cat_0 am_v0 (am_e2 (D := 98)), am_cal_ok am_cat_0 am_v0 (am_e3 (D := 98)), am_cal_ok am_cat_0 am_v0 (am_e4 (D := 98)), am_cal_ok am_cat_0 am_v0 (am_e5 (D := 98)), am_cal_ok am_cat_0 am_rcv_f (am_m123 (D := 98) _ _), am_cal_ok am_cat_0 am_rcv_f (am_m121 (D := 97) _), am_cal_ok am_cat_0 am_rcv_f (am_m122 (D := 97) _), am_bI0, am_f0_0, am_f0_1, am_f0_2, am_f0_3, am_f0_4, am_f0_5, am_f0_6, am_f0_7, am_f1_2, am_ec1, am_ec2, am_ec3, am_ec4, am_ec5, am_er_f, am_sy_f, Bool.false_and, Bool.and_false, reduceCtorEq, not_false_eq_true, not_true_eq_false, eq_self, am_os_some, Option.toList_some, Option.toList_none, List.cons_append, List.nil_append, if_true, if_false, true_and, am_nw1_i, am_nw1_r, am_nw1_n, cond_true]
    | true =>
      rw [if_neg (by decide)]
      obtain ⟨a1, a2⟩ := am_wi_nI (n := 3) (by decide) h1
      obtain ⟨w1, w2⟩ := am_wi_nI (n := 2) (by decide) h2
      generalize a.toNatClampNeg = j at a1 a2
      generalize w.toNatClampNeg = w at w1 w2
      subst a2 w2
      have hj : j < 4 := by omega
      by_cases h3 : (s.2.2.2.2.2 j).1 = 0
      · rw [if_pos h3]
        refine am_cop_err (k := 2) (by decide) fun X q G hc => am_CD_of (M := am_N96) rfl rfl ?_
        show am_Rn _ _ ((Option.some FieldType.int)) am_J96 0 [some (.ref 0), some (.int (nI j)), some (.int (nI w))] [] (am_L0 q, G) _
        simp only [am_s96_0, am_s96_1, am_s96_4, am_s96_7, am_s96_8, am_s96_9, am_s96_12, am_s96_15, am_s96_16, am_s96_17, am_s96_20, am_s96_21, am_s96_22, am_s96_25, am_s96_26, am_s96_27, am_s96_30, am_s96_33, am_s96_34, am_s96_35, am_s96_38, am_s96_39, am_s96_40, am_s96_43, am_s96_44, am_s96_47, am_s96_50, am_s96_51, am_s96_54, am_s96_55, am_s96_56, am_s96_59, am_s96_60, am_s96_63, am_s96_64, am_s96_67, am_s96_70, am_s96_71, am_s96_72, am_s96_73, am_s96_76, am_s96_77, am_s96_80, am_s96_83, am_s96_84, am_s96_85, am_s96_88, am_s96_91, am_s96_94, am_s96_95, am_s96_96, am_s96_99, am_s96_102, am_s96_103, am_s96_106, am_s96_109, am_s96_110, am_s96_111, h1, h2, am_rld_104 hj, am_cal_ok am_cat_0 (am_sh_v hj) (am_y58 (X := X) (q := q) hj (hc.2.2.2.2.2 j hj).1), h3, decide_true, am_cal_ok am_cat_0 am_v0 (am_e1 (D := 98)), am_cal_ok am_cat_0 am_v0 (am_e2 (D := 98)), am_cal_ok am_cat_0 am_v0 (am_e3 (D := 98)), am_cal_ok am_cat_0 am_v0 (am_e4 (D := 98)), am_cal_ok am_cat_0 am_v0 (am_e5 (D := 98)), am_cal_ok am_cat_0 am_rcv_f (am_m123 (D := 98) _ _), am_cal_ok am_cat_0 am_rcv_f (am_m121 (D := 97) _), am_cal_ok am_cat_0 am_rcv_f (am_m122 (D := 97) _), am_bI0, am_f0_0, am_f0_1, am_f0_2, am_f0_3, am_f0_4, am_f0_5, am_f0_6, am_f0_7, am_f1_2, am_ec1, am_ec2, am_ec3, am_ec4, am_ec5, am_er_f, am_sy_f, Bool.false_and, Bool.and_false, reduceCtorEq, not_false_eq_true, not_true_eq_false, eq_self, am_os_some, Option.toList_some, Option.toList_none, List.cons_append, List.nil_append, if_true, if_false, true_and, am_nw1_i, am_nw1_r, am_nw1_n, cond_true]
      · rw [if_neg h3]
        have key : ∀ (N : Nat) (xs : Nat → Int32) (q : Nat) (G : am_G), am_cfl G s.1 s.2.1 s.2.2.1 s.2.2.2.1 s.2.2.2.2.1 s.2.2.2.2.2 → ∃ G1 : am_G, (∀ i k, i ≠ 99 → i ≠ 100 → G1 i k = G i k) ∧ am_crl G1 (am_flr s.1.1 (s.2.2.2.2.2 j).2.2 (s.2.2.2.2.2 j).2.1 256) ∧ ∀ (r : Value) (G2 : am_G), am_Rn (am_X0 N xs) 99 (some .int) am_J96 59 [some (.ref 0), some (.int (nI j)), some (.int (nI w))] [] (am_L0 q, G1) (some r, (am_L0 q, G2)) → am_CD (am_X0 N xs) 100 96 [.ref 0, .int (nI j), .int (nI w)] (am_L0 q, G) = some (some r, (am_L0 q, G2)) := fun N xs q G hc => by
          obtain ⟨G1, f1, c1, g1⟩ := am_m52 (X := am_X0 N xs) (D := 96) (q := q) (am_ist_p am_10) hc.1.1 hs.1.1 hj (hc.2.2.2.2.2 j hj)
          refine ⟨G1, f1, c1, fun r G2 h => am_CD_of (M := am_N96) rfl rfl ?_⟩
          show am_Rn _ _ ((Option.some FieldType.int)) am_J96 0 [some (.ref 0), some (.int (nI j)), some (.int (nI w))] [] (am_L0 q, G) _
          simp only [am_s96_0, am_s96_1, am_s96_4, am_s96_7, am_s96_8, am_s96_9, am_s96_12, am_s96_15, am_s96_16, am_s96_17, am_s96_20, am_s96_21, am_s96_22, am_s96_25, am_s96_26, am_s96_27, am_s96_30, am_s96_33, am_s96_34, am_s96_35, am_s96_38, am_s96_39, am_s96_40, am_s96_43, am_s96_44, am_s96_47, am_s96_50, am_s96_51, am_s96_54, am_s96_55, am_s96_56, h1, h2, am_rld_104 hj, am_cal_ok am_cat_0 (am_sh_v hj) (am_y58 (X := am_X0 N xs) (q := q) hj (hc.2.2.2.2.2 j hj).1), h3, decide_false, am_cal_ok am_cat_0 am_v99 (g1), am_cal_ok am_cat_0 am_v0 (am_e1 (D := 98)), am_cal_ok am_cat_0 am_v0 (am_e2 (D := 98)), am_cal_ok am_cat_0 am_v0 (am_e3 (D := 98)), am_cal_ok am_cat_0 am_v0 (am_e4 (D := 98)), am_cal_ok am_cat_0 am_v0 (am_e5 (D := 98)), am_cal_ok am_cat_0 am_rcv_f (am_m123 (D := 98) _ _), am_cal_ok am_cat_0 am_rcv_f (am_m121 (D := 97) _), am_cal_ok am_cat_0 am_rcv_f (am_m122 (D := 97) _), am_bI0, am_f0_0, am_f0_1, am_f0_2, am_f0_3, am_f0_4, am_f0_5, am_f0_6, am_f0_7, am_f1_2, am_ec1, am_ec2, am_ec3, am_ec4, am_ec5, am_er_f, am_sy_f, Bool.false_and, Bool.and_false, reduceCtorEq, not_false_eq_true, not_true_eq_false, eq_self, am_os_some, Option.toList_some, Option.toList_none, List.cons_append, List.nil_append, if_true, if_false, true_and, am_nw1_i, am_nw1_r, am_nw1_n, cond_true]
          exact h
        have hlen := (am_flr_le (S := s.1.1) (V := (s.2.2.2.2.2 j).2.2) (z := (s.2.2.2.2.2 j).2.1) 256).1
        generalize am_flr s.1.1 (s.2.2.2.2.2 j).2.2 (s.2.2.2.2.2 j).2.1 256 = R at key hlen
        match w, w1, h2, key with
        | 0, _, h2, key =>
          have e : (nI 0 = 0) = True := by decide
          rw [if_pos rfl]
          refine am_cop_same fun N xs q G hc => ?_
          obtain ⟨G1, f1, c1, g1⟩ := key N xs q G hc
          refine ⟨q, G1, fun i k h => f1 i k (by omega) (by omega), g1 _ _ ?_⟩
          have e9 := c1.1
          simp only [am_s96_59, am_s96_60, am_s96_63, am_s96_64, am_s96_67, am_s96_70, am_s96_71, am_s96_72, am_s96_73, am_s96_76, am_s96_77, am_s96_80, am_s96_83, am_s96_84, am_s96_85, am_s96_88, am_s96_91, am_s96_94, am_s96_95, am_s96_96, am_s96_99, am_s96_102, am_s96_103, am_s96_106, am_s96_109, am_s96_110, am_s96_111, e, e9, am_f99_1, am_cal_ok am_cat_0 am_v0 (am_e1 (D := 98)), am_cal_ok am_cat_0 am_v0 (am_e2 (D := 98)), am_cal_ok am_cat_0 am_v0 (am_e3 (D := 98)), am_cal_ok am_cat_0 am_v0 (am_e4 (D := 98)), am_cal_ok am_cat_0 am_v0 (am_e5 (D := 98)), am_cal_ok am_cat_0 am_rcv_f (am_m123 (D := 98) _ _), am_cal_ok am_cat_0 am_rcv_f (am_m121 (D := 97) _), am_cal_ok am_cat_0 am_rcv_f (am_m122 (D := 97) _), am_bI0, am_f0_0, am_f0_1, am_f0_2, am_f0_3, am_f0_4, am_f0_5, am_f0_6, am_f0_7, am_f1_2, am_ec1, am_ec2, am_ec3, am_ec4, am_ec5, am_er_f, am_sy_f, Bool.false_and, Bool.and_false, reduceCtorEq, not_false_eq_true, not_true_eq_false, eq_self, am_os_some, Option.toList_some, Option.toList_none, List.cons_append, List.nil_append, if_true, if_false, true_and, am_nw1_i, am_nw1_r, am_nw1_n, cond_true]
        | 2, _, h2, key =>
          have e : (nI 2 = 0) = False := by decide
          have e2 : (nI 2 = 2) = True := by decide
          rw [if_neg (by decide), if_pos rfl]
          refine am_cop_same fun N xs q G hc => ?_
          obtain ⟨G1, f1, c1, g1⟩ := key N xs q G hc
          have g55 := am_m55 (X := am_X0 N xs) (D := 96) (q := q) c1
          refine ⟨q, G1, fun i k h => f1 i k (by omega) (by omega), g1 _ _ ?_⟩
          simp only [am_s96_59, am_s96_60, am_s96_63, am_s96_64, am_s96_67, am_s96_70, am_s96_71, am_s96_72, am_s96_73, am_s96_76, am_s96_77, am_s96_80, am_s96_83, am_s96_84, am_s96_85, am_s96_88, am_s96_91, am_s96_94, am_s96_95, am_s96_96, am_s96_99, am_s96_102, am_s96_103, am_s96_106, am_s96_109, am_s96_110, am_s96_111, e, e2, am_cal_ok am_cat_0 am_v99 (g55), am_cal_ok am_cat_0 am_v0 (am_e1 (D := 98)), am_cal_ok am_cat_0 am_v0 (am_e2 (D := 98)), am_cal_ok am_cat_0 am_v0 (am_e3 (D := 98)), am_cal_ok am_cat_0 am_v0 (am_e4 (D := 98)), am_cal_ok am_cat_0 am_v0 (am_e5 (D := 98)), am_cal_ok am_cat_0 am_rcv_f (am_m123 (D := 98) _ _), am_cal_ok am_cat_0 am_rcv_f (am_m121 (D := 97) _), am_cal_ok am_cat_0 am_rcv_f (am_m122 (D := 97) _), am_bI0, am_f0_0, am_f0_1, am_f0_2, am_f0_3, am_f0_4, am_f0_5, am_f0_6, am_f0_7, am_f1_2, am_ec1, am_ec2, am_ec3, am_ec4, am_ec5, am_er_f, am_sy_f, Bool.false_and, Bool.and_false, reduceCtorEq, not_false_eq_true, not_true_eq_false, eq_self, am_os_some, Option.toList_some, Option.toList_none, List.cons_append, List.nil_append, if_true, if_false, true_and, am_nw1_i, am_nw1_r, am_nw1_n, cond_true]
        | 1, _, h2, key =>
          have e : (nI 1 = 0) = False := by decide
          have e2 : (nI 1 = 2) = False := by decide
          rw [if_neg (by decide), if_neg (by decide)]
          by_cases hz : R.length = 0
          · rw [if_pos hz]
            intro N xs q G hc
            obtain ⟨G1, f1, c1, g1⟩ := key N xs q G hc
            have e9 : G1 99 1 = 0 := c1.1.trans (by rw [hz]; rfl)
            have hc1 := am_cfl_fr hc fun i k hi => f1 i k (by unfold am_kee at hi; omega) (by unfold am_kee at hi; omega)
            refine ⟨q, _, fun i k hi => by rw [am_up_get, if_neg (by omega), f1 i k (by omega) (by omega)], am_cfl_E hc1 (show 2 < 6 by decide), g1 _ _ ?_⟩
            simp only [am_s96_59, am_s96_60, am_s96_63, am_s96_64, am_s96_67, am_s96_70, am_s96_71, am_s96_72, am_s96_73, am_s96_76, am_s96_77, am_s96_80, am_s96_83, am_s96_84, am_s96_85, am_s96_88, am_s96_91, am_s96_94, am_s96_95, am_s96_96, am_s96_99, am_s96_102, am_s96_103, am_s96_106, am_s96_109, am_s96_110, am_s96_111, e, e2, e9, am_f99_1, am_cal_ok am_cat_0 am_v0 (am_e1 (D := 98)), am_cal_ok am_cat_0 am_v0 (am_e2 (D := 98)), am_cal_ok am_cat_0 am_v0 (am_e3 (D := 98)), am_cal_ok am_cat_0 am_v0 (am_e4 (D := 98)), am_cal_ok am_cat_0 am_v0 (am_e5 (D := 98)), am_cal_ok am_cat_0 am_rcv_f (am_m123 (D := 98) _ _), am_cal_ok am_cat_0 am_rcv_f (am_m121 (D := 97) _), am_cal_ok am_cat_0 am_rcv_f (am_m122 (D := 97) _), am_bI0, am_f0_0, am_f0_1, am_f0_2, am_f0_3, am_f0_4, am_f0_5, am_f0_6, am_f0_7, am_f1_2, am_ec1, am_ec2, am_ec3, am_ec4, am_ec5, am_er_f, am_sy_f, Bool.false_and, Bool.and_false, reduceCtorEq, not_false_eq_true, not_true_eq_false, eq_self, am_os_some, Option.toList_some, Option.toList_none, List.cons_append, List.nil_append, if_true, if_false, true_and, am_nw1_i, am_nw1_r, am_nw1_n, cond_true]
          · rw [if_neg hz]
            refine am_cop_same fun N xs q G hc => ?_
            obtain ⟨G1, f1, c1, g1⟩ := key N xs q G hc
            have e9 : ¬ G1 99 1 = 0 := by rw [c1.1]; exact nI_ne0 (by omega) (by omega)
            have e0 : G1 100 0 = nI (R.getD 0 0) := c1.2.2.2 0 (by omega)
            have ic : (0 : Int32).toNatClampNeg = 0 := by decide +kernel
            have ii : am_in 0 256 = true := by decide +kernel
            refine ⟨q, G1, fun i k h => f1 i k (by omega) (by omega), g1 _ _ ?_⟩
            simp only [am_s96_59, am_s96_60, am_s96_63, am_s96_64, am_s96_67, am_s96_70, am_s96_71, am_s96_72, am_s96_73, am_s96_76, am_s96_77, am_s96_80, am_s96_83, am_s96_84, am_s96_85, am_s96_88, am_s96_91, am_s96_94, am_s96_95, am_s96_96, am_s96_99, am_s96_102, am_s96_103, am_s96_106, am_s96_109, am_s96_110, am_s96_111, e, e2, e9, am_f99_0, am_f99_1, am_a100, ic, ii, e0, am_cal_ok am_cat_0 am_v0 (am_e1 (D := 98)), am_cal_ok am_cat_0 am_v0 (am_e2 (D := 98)), am_cal_ok am_cat_0 am_v0 (am_e3 (D := 98)), am_cal_ok am_cat_0 am_v0 (am_e4 (D := 98)), am_cal_ok am_cat_0 am_v0 (am_e5 (D := 98)), am_cal_ok am_cat_0 am_rcv_f (am_m123 (D := 98) _ _), am_cal_ok am_cat_0 am_rcv_f (am_m121 (D := 97) _), am_cal_ok am_cat_0 am_rcv_f (am_m122 (D := 97) _), am_bI0, am_f0_0, am_f0_1, am_f0_2, am_f0_3, am_f0_4, am_f0_5, am_f0_6, am_f0_7, am_f1_2, am_ec1, am_ec2, am_ec3, am_ec4, am_ec5, am_er_f, am_sy_f, Bool.false_and, Bool.and_false, reduceCtorEq, not_false_eq_true, not_true_eq_false, eq_self, am_os_some, Option.toList_some, Option.toList_none, List.cons_append, List.nil_append, if_true, if_false, true_and, am_nw1_i, am_nw1_r, am_nw1_n, cond_true]
/-- sheet -/
def am_O107 (a b n : Int32) (s : am_St) : Int32 × am_St :=
  if am_wi a 3 = false then am_er 1 s
  else if b = 0 then (1, am_sH a.toNatClampNeg (0, 0, fun _ => 0) s)
  else if ¬ (b = 8 ∨ b = 16 ∨ b = 32) then am_er 1 s
  else if n < 0 then am_er 3 s
  else if ¬ n ≤ 40 then am_er 1 s
  else (1, am_sH a.toNatClampNeg (b, n.toNatClampNeg, fun _ => 0) s)
theorem am_c107 {a b n : Int32} {s : am_St} : am_cO 107 [.int a, .int b, .int n] s (am_O107 a b n s) := by
  unfold am_O107
  have l8 : ((8 : Int32) = 0) = False := by decide
  have l16 : ((16 : Int32) = 0) = False := by decide
  have l32 : ((32 : Int32) = 0) = False := by decide
  have l168 : ((16 : Int32) = 8) = False := by decide
  have l328 : ((32 : Int32) = 8) = False := by decide
  have l3216 : ((32 : Int32) = 16) = False := by decide
  cases h1 : am_wi a 3 with
  | false =>
    rw [if_pos rfl]
    refine am_cop_err (k := 1) (by decide) fun X q G hc => am_CD_of (M := am_N107) rfl rfl ?_
    show am_Rn _ _ ((Option.some FieldType.int)) am_J107 0 [some (.ref 0), some (.int a), some (.int b), some (.int n)] [] (am_L0 q, G) _
    simp only [am_s107_0, am_s107_1, am_s107_4, am_s107_7, am_s107_8, am_s107_9, am_s107_12, am_s107_13, am_s107_14, am_s107_17, am_s107_18, am_s107_20, am_s107_23, am_s107_24, am_s107_26, am_s107_29, am_s107_30, am_s107_32, am_s107_35, am_s107_36, am_s107_37, am_s107_40, am_s107_41, am_s107_42, am_s107_45, am_s107_46, am_s107_49, am_s107_50, am_s107_51, am_s107_54, am_s107_55, am_s107_56, am_s107_59, am_s107_60, am_s107_62, am_s107_65, am_s107_66, am_s107_67, am_s107_70, am_s107_71, am_s107_72, am_s107_75, am_s107_76, am_s107_77, am_s107_78, am_s107_79, am_s107_82, am_s107_83, am_s107_86, am_s107_87, am_s107_90, am_s107_91, h1, am_cal_ok am_cat_0 am_v0 (am_e1 (D := 98)), am_cal_ok am_cat_0 am_v0 (am_e2 (D := 98)), am_cal_ok am_cat_0 am_v0 (am_e3 (D := 98)), am_cal_ok am_cat_0 am_v0 (am_e4 (D := 98)), am_cal_ok am_cat_0 am_v0 (am_e5 (D := 98)), am_cal_ok am_cat_0 am_rcv_f (am_m123 (D := 98) _ _), am_cal_ok am_cat_0 am_rcv_f (am_m121 (D := 97) _), am_cal_ok am_cat_0 am_rcv_f (am_m122 (D := 97) _), am_bI0, am_f0_0, am_f0_1, am_f0_2, am_f0_3, am_f0_4, am_f0_5, am_f0_6, am_f0_7, am_f1_2, am_ec1, am_ec2, am_ec3, am_ec4, am_ec5, am_er_f, am_sy_f, Bool.false_and, Bool.and_false, reduceCtorEq, not_false_eq_true, not_true_eq_false, eq_self, am_os_some, Option.toList_some, Option.toList_none, List.cons_append, List.nil_append, if_true, if_false, true_and, am_nw1_i, am_nw1_r, am_nw1_n, cond_true]
  | true =>
    rw [if_neg (by decide)]
    by_cases h0 : b = 0
    · rw [if_pos h0]
      subst h0
      obtain ⟨a1, a2⟩ := am_wi_nI (n := 3) (by decide) h1
      generalize a.toNatClampNeg = j at a1 a2
      subst a2
      have hj : j < 4 := by omega
      intro N xs q G hc
      obtain ⟨G1, f1, c1, g1⟩ := am_m59 (X := am_X0 N xs) (D := 97) (q := q) (G := G) hj 0 (Nat.zero_le 40)
      have g1' : am_CD (am_X0 N xs) 99 59 [.ref (106 + 2 * j), .int 0, .int 0] (am_L0 q, G) = some (none, (am_L0 q, G1)) := g1
      refine ⟨q, G1, fun i k hi => f1 i k (by omega) (by omega), am_cfl_H (x := (0, 0, fun _ => 0)) hj hc f1 c1, am_CD_of (M := am_N107) rfl rfl ?_⟩
      show am_Rn _ _ ((Option.some FieldType.int)) am_J107 0 [some (.ref 0), some (.int (nI j)), some (.int 0), some (.int n)] [] (am_L0 q, G) _
      simp only [am_s107_0, am_s107_1, am_s107_4, am_s107_7, am_s107_8, am_s107_9, am_s107_12, am_s107_13, am_s107_14, am_s107_17, am_s107_18, am_s107_20, am_s107_23, am_s107_24, am_s107_26, am_s107_29, am_s107_30, am_s107_32, am_s107_35, am_s107_36, am_s107_37, am_s107_40, am_s107_41, am_s107_42, am_s107_45, am_s107_46, am_s107_49, am_s107_50, am_s107_51, am_s107_54, am_s107_55, am_s107_56, am_s107_59, am_s107_60, am_s107_62, am_s107_65, am_s107_66, am_s107_67, am_s107_70, am_s107_71, am_s107_72, am_s107_75, am_s107_76, am_s107_77, am_s107_78, am_s107_79, am_s107_82, am_s107_83, am_s107_86, am_s107_87, am_s107_90, am_s107_91, h1, am_rld_104 hj, am_cal_ok am_cat_0 (am_sh_v hj) (g1'), am_cal_ok am_cat_0 am_v0 (am_e1 (D := 98)), am_cal_ok am_cat_0 am_v0 (am_e2 (D := 98)), am_cal_ok am_cat_0 am_v0 (am_e3 (D := 98)), am_cal_ok am_cat_0 am_v0 (am_e4 (D := 98)), am_cal_ok am_cat_0 am_v0 (am_e5 (D := 98)), am_cal_ok am_cat_0 am_rcv_f (am_m123 (D := 98) _ _), am_cal_ok am_cat_0 am_rcv_f (am_m121 (D := 97) _), am_cal_ok am_cat_0 am_rcv_f (am_m122 (D := 97) _), am_bI0, am_f0_0, am_f0_1, am_f0_2, am_f0_3, am_f0_4, am_f0_5, am_f0_6, am_f0_7, am_f1_2, am_ec1, am_ec2, am_ec3, am_ec4, am_ec5, am_er_f, am_sy_f, Bool.false_and, Bool.and_false, reduceCtorEq, not_false_eq_true, not_true_eq_false, eq_self, am_os_some, Option.toList_some, Option.toList_none, List.cons_append, List.nil_append, if_true, if_false, true_and, am_nw1_i, am_nw1_r, am_nw1_n, cond_true]
    · rw [if_neg h0]
      by_cases hb : b = 8 ∨ b = 16 ∨ b = 32
      · rw [if_neg (fun h => h hb)]
        by_cases hn : n < 0
        · rw [if_pos hn]
          refine am_cop_err (k := 3) (by decide) fun X q G hc => am_CD_of (M := am_N107) rfl rfl ?_
          show am_Rn _ _ ((Option.some FieldType.int)) am_J107 0 [some (.ref 0), some (.int a), some (.int b), some (.int n)] [] (am_L0 q, G) _
          rcases hb with rfl | rfl | rfl <;> simp only [am_s107_0, am_s107_1, am_s107_4, am_s107_7, am_s107_8, am_s107_9, am_s107_12, am_s107_13, am_s107_14, am_s107_17, am_s107_18, am_s107_20, am_s107_23, am_s107_24, am_s107_26, am_s107_29, am_s107_30, am_s107_32, am_s107_35, am_s107_36, am_s107_37, am_s107_40, am_s107_41, am_s107_42, am_s107_45, am_s107_46, am_s107_49, am_s107_50, am_s107_51, am_s107_54, am_s107_55, am_s107_56, am_s107_59, am_s107_60, am_s107_62, am_s107_65, am_s107_66, am_s107_67, am_s107_70, am_s107_71, am_s107_72, am_s107_75, am_s107_76, am_s107_77, am_s107_78, am_s107_79, am_s107_82, am_s107_83, am_s107_86, am_s107_87, am_s107_90, am_s107_91, h1, hn, l8, l16, l32, l168, l328, l3216, am_cal_ok am_cat_0 am_v0 (am_e1 (D := 98)), am_cal_ok am_cat_0 am_v0 (am_e2 (D := 98)), am_cal_ok am_cat_0 am_v0 (am_e3 (D := 98)), am_cal_ok am_cat_0 am_v0 (am_e4 (D := 98)), am_cal_ok am_cat_0 am_v0 (am_e5 (D := 98)), am_cal_ok am_cat_0 am_rcv_f (am_m123 (D := 98) _ _), am_cal_ok am_cat_0 am_rcv_f (am_m121 (D := 97) _), am_cal_ok am_cat_0 am_rcv_f (am_m122 (D := 97) _), am_bI0, am_f0_0, am_f0_1, am_f0_2, am_f0_3, am_f0_4, am_f0_5, am_f0_6, am_f0_7, am_f1_2, am_ec1, am_ec2, am_ec3, am_ec4, am_ec5, am_er_f, am_sy_f, Bool.false_and, Bool.and_false, reduceCtorEq, not_false_eq_true, not_true_eq_false, eq_self, am_os_some, Option.toList_some, Option.toList_none, List.cons_append, List.nil_append, if_true, if_false, true_and, am_nw1_i, am_nw1_r, am_nw1_n, cond_true]
        · rw [if_neg hn]
          by_cases hm : n ≤ 40
          · rw [if_neg (fun h => h hm)]
            obtain ⟨m, hm40, rfl⟩ := nI_of2 (n := 40) (by decide) hn hm
            rw [nI_clamp (show m < 2 ^ 31 by omega)]
            obtain ⟨a1, a2⟩ := am_wi_nI (n := 3) (by decide) h1
            generalize a.toNatClampNeg = j at a1 a2
            subst a2
            have hj : j < 4 := by omega
            intro N xs q G hc
            obtain ⟨G1, f1, c1, g1⟩ := am_m59 (X := am_X0 N xs) (D := 97) (q := q) (G := G) hj b hm40
            refine ⟨q, G1, fun i k hi => f1 i k (by omega) (by omega), am_cfl_H (x := (b, m, fun _ => 0)) hj hc f1 c1, am_CD_of (M := am_N107) rfl rfl ?_⟩
            show am_Rn _ _ ((Option.some FieldType.int)) am_J107 0 [some (.ref 0), some (.int (nI j)), some (.int b), some (.int (nI m))] [] (am_L0 q, G) _
            rcases hb with rfl | rfl | rfl <;> simp only [am_s107_0, am_s107_1, am_s107_4, am_s107_7, am_s107_8, am_s107_9, am_s107_12, am_s107_13, am_s107_14, am_s107_17, am_s107_18, am_s107_20, am_s107_23, am_s107_24, am_s107_26, am_s107_29, am_s107_30, am_s107_32, am_s107_35, am_s107_36, am_s107_37, am_s107_40, am_s107_41, am_s107_42, am_s107_45, am_s107_46, am_s107_49, am_s107_50, am_s107_51, am_s107_54, am_s107_55, am_s107_56, am_s107_59, am_s107_60, am_s107_62, am_s107_65, am_s107_66, am_s107_67, am_s107_70, am_s107_71, am_s107_72, am_s107_75, am_s107_76, am_s107_77, am_s107_78, am_s107_79, am_s107_82, am_s107_83, am_s107_86, am_s107_87, am_s107_90, am_s107_91, h1, hn, hm, am_rld_104 hj, l8, l16, l32, l168, l328, l3216, am_cal_ok am_cat_0 (am_sh_v hj) (g1), am_cal_ok am_cat_0 am_v0 (am_e1 (D := 98)), am_cal_ok am_cat_0 am_v0 (am_e2 (D := 98)), am_cal_ok am_cat_0 am_v0 (am_e3 (D := 98)), am_cal_ok am_cat_0 am_v0 (am_e4 (D := 98)), am_cal_ok am_cat_0 am_v0 (am_e5 (D := 98)), am_cal_ok am_cat_0 am_rcv_f (am_m123 (D := 98) _ _), am_cal_ok am_cat_0 am_rcv_f (am_m121 (D := 97) _), am_cal_ok am_cat_0 am_rcv_f (am_m122 (D := 97) _), am_bI0, am_f0_0, am_f0_1, am_f0_2, am_f0_3, am_f0_4, am_f0_5, am_f0_6, am_f0_7, am_f1_2, am_ec1, am_ec2, am_ec3, am_ec4, am_ec5, am_er_f, am_sy_f, Bool.false_and, Bool.and_false, reduceCtorEq, not_false_eq_true, not_true_eq_false, eq_self, am_os_some, Option.toList_some, Option.toList_none, List.cons_append, List.nil_append, if_true, if_false, true_and, am_nw1_i, am_nw1_r, am_nw1_n, cond_true]
          · rw [if_pos hm]
            refine am_cop_err (k := 1) (by decide) fun X q G hc => am_CD_of (M := am_N107) rfl rfl ?_
            show am_Rn _ _ ((Option.some FieldType.int)) am_J107 0 [some (.ref 0), some (.int a), some (.int b), some (.int n)] [] (am_L0 q, G) _
            rcases hb with rfl | rfl | rfl <;> simp only [am_s107_0, am_s107_1, am_s107_4, am_s107_7, am_s107_8, am_s107_9, am_s107_12, am_s107_13, am_s107_14, am_s107_17, am_s107_18, am_s107_20, am_s107_23, am_s107_24, am_s107_26, am_s107_29, am_s107_30, am_s107_32, am_s107_35, am_s107_36, am_s107_37, am_s107_40, am_s107_41, am_s107_42, am_s107_45, am_s107_46, am_s107_49, am_s107_50, am_s107_51, am_s107_54, am_s107_55, am_s107_56, am_s107_59, am_s107_60, am_s107_62, am_s107_65, am_s107_66, am_s107_67, am_s107_70, am_s107_71, am_s107_72, am_s107_75, am_s107_76, am_s107_77, am_s107_78, am_s107_79, am_s107_82, am_s107_83, am_s107_86, am_s107_87, am_s107_90, am_s107_91, h1, hn, hm, l8, l16, l32, l168, l328, l3216, am_cal_ok am_cat_0 am_v0 (am_e1 (D := 98)), am_cal_ok am_cat_0 am_v0 (am_e2 (D := 98)), am_cal_ok am_cat_0 am_v0 (am_e3 (D := 98)), am_cal_ok am_cat_0 am_v0 (am_e4 (D := 98)), am_cal_ok am_cat_0 am_v0 (am_e5 (D := 98)), am_cal_ok am_cat_0 am_rcv_f (am_m123 (D := 98) _ _), am_cal_ok am_cat_0 am_rcv_f (am_m121 (D := 97) _), am_cal_ok am_cat_0 am_rcv_f (am_m122 (D := 97) _), am_bI0, am_f0_0, am_f0_1, am_f0_2, am_f0_3, am_f0_4, am_f0_5, am_f0_6, am_f0_7, am_f1_2, am_ec1, am_ec2, am_ec3, am_ec4, am_ec5, am_er_f, am_sy_f, Bool.false_and, Bool.and_false, reduceCtorEq, not_false_eq_true, not_true_eq_false, eq_self, am_os_some, Option.toList_some, Option.toList_none, List.cons_append, List.nil_append, if_true, if_false, true_and, am_nw1_i, am_nw1_r, am_nw1_n, cond_true]
      · rw [if_pos hb]
        have b8 : ¬ b = 8 := fun e => hb (Or.inl e)
        have b16 : ¬ b = 16 := fun e => hb (Or.inr (Or.inl e))
        have b32 : ¬ b = 32 := fun e => hb (Or.inr (Or.inr e))
        refine am_cop_err (k := 1) (by decide) fun X q G hc => am_CD_of (M := am_N107) rfl rfl ?_
        show am_Rn _ _ ((Option.some FieldType.int)) am_J107 0 [some (.ref 0), some (.int a), some (.int b), some (.int n)] [] (am_L0 q, G) _
        simp only [am_s107_0, am_s107_1, am_s107_4, am_s107_7, am_s107_8, am_s107_9, am_s107_12, am_s107_13, am_s107_14, am_s107_17, am_s107_18, am_s107_20, am_s107_23, am_s107_24, am_s107_26, am_s107_29, am_s107_30, am_s107_32, am_s107_35, am_s107_36, am_s107_37, am_s107_40, am_s107_41, am_s107_42, am_s107_45, am_s107_46, am_s107_49, am_s107_50, am_s107_51, am_s107_54, am_s107_55, am_s107_56, am_s107_59, am_s107_60, am_s107_62, am_s107_65, am_s107_66, am_s107_67, am_s107_70, am_s107_71, am_s107_72, am_s107_75, am_s107_76, am_s107_77, am_s107_78, am_s107_79, am_s107_82, am_s107_83, am_s107_86, am_s107_87, am_s107_90, am_s107_91, h1, h0, b8, b16, b32, am_cal_ok am_cat_0 am_v0 (am_e1 (D := 98)), am_cal_ok am_cat_0 am_v0 (am_e2 (D := 98)), am_cal_ok am_cat_0 am_v0 (am_e3 (D := 98)), am_cal_ok am_cat_0 am_v0 (am_e4 (D := 98)), am_cal_ok am_cat_0 am_v0 (am_e5 (D := 98)), am_cal_ok am_cat_0 am_rcv_f (am_m123 (D := 98) _ _), am_cal_ok am_cat_0 am_rcv_f (am_m121 (D := 97) _), am_cal_ok am_cat_0 am_rcv_f (am_m122 (D := 97) _), am_bI0, am_f0_0, am_f0_1, am_f0_2, am_f0_3, am_f0_4, am_f0_5, am_f0_6, am_f0_7, am_f1_2, am_ec1, am_ec2, am_ec3, am_ec4, am_ec5, am_er_f, am_sy_f, Bool.false_and, Bool.and_false, reduceCtorEq, not_false_eq_true, not_true_eq_false, eq_self, am_os_some, Option.toList_some, Option.toList_none, List.cons_append, List.nil_append, if_true, if_false, true_and, am_nw1_i, am_nw1_r, am_nw1_n, cond_true]
/-- put -/
def am_O108 (a i v : Int32) (s : am_St) : Int32 × am_St :=
  if am_wi a 3 = false then am_er 1 s
  else if (s.2.2.2.2.2 a.toNatClampNeg).1 = 0 then am_er 2 s
  else if i < 0 ∨ ¬ i < nI (s.2.2.2.2.2 a.toNatClampNeg).2.1 then am_er 1 s
  else (1, am_sH a.toNatClampNeg ((s.2.2.2.2.2 a.toNatClampNeg).1, (s.2.2.2.2.2 a.toNatClampNeg).2.1, fun k => if k = i.toNatClampNeg then am_nrw (s.2.2.2.2.2 a.toNatClampNeg).1 v else (s.2.2.2.2.2 a.toNatClampNeg).2.2 k) s)
theorem am_c108 {a i v : Int32} {s : am_St} (hs : am_oks s) : am_cO 108 [.int a, .int i, .int v] s (am_O108 a i v s) := by
  unfold am_O108
  cases h1 : am_wi a 3 with
  | false =>
    rw [if_pos rfl]
    refine am_cop_err (k := 1) (by decide) fun X q G hc => am_CD_of (M := am_N108) rfl rfl ?_
    show am_Rn _ _ ((Option.some FieldType.int)) am_J108 0 [some (.ref 0), some (.int a), some (.int i), some (.int v)] [] (am_L0 q, G) _
    simp only [am_s108_0, am_s108_1, am_s108_4, am_s108_7, am_s108_8, am_s108_9, am_s108_12, am_s108_13, am_s108_14, am_s108_17, am_s108_18, am_s108_19, am_s108_22, am_s108_25, am_s108_26, am_s108_27, am_s108_30, am_s108_31, am_s108_32, am_s108_35, am_s108_36, am_s108_37, am_s108_40, am_s108_41, am_s108_42, am_s108_45, am_s108_48, am_s108_49, am_s108_50, am_s108_53, am_s108_54, am_s108_55, am_s108_58, am_s108_59, am_s108_60, am_s108_61, am_s108_62, am_s108_65, am_s108_66, h1, am_cal_ok am_cat_0 am_v0 (am_e1 (D := 98)), am_cal_ok am_cat_0 am_v0 (am_e2 (D := 98)), am_cal_ok am_cat_0 am_v0 (am_e3 (D := 98)), am_cal_ok am_cat_0 am_v0 (am_e4 (D := 98)), am_cal_ok am_cat_0 am_v0 (am_e5 (D := 98)), am_cal_ok am_cat_0 am_rcv_f (am_m123 (D := 98) _ _), am_cal_ok am_cat_0 am_rcv_f (am_m121 (D := 97) _), am_cal_ok am_cat_0 am_rcv_f (am_m122 (D := 97) _), am_bI0, am_f0_0, am_f0_1, am_f0_2, am_f0_3, am_f0_4, am_f0_5, am_f0_6, am_f0_7, am_f1_2, am_ec1, am_ec2, am_ec3, am_ec4, am_ec5, am_er_f, am_sy_f, Bool.false_and, Bool.and_false, reduceCtorEq, not_false_eq_true, not_true_eq_false, eq_self, am_os_some, Option.toList_some, Option.toList_none, List.cons_append, List.nil_append, if_true, if_false, true_and, am_nw1_i, am_nw1_r, am_nw1_n, cond_true]
  | true =>
    rw [if_neg (by decide)]
    obtain ⟨a1, a2⟩ := am_wi_nI (n := 3) (by decide) h1
    generalize a.toNatClampNeg = j at a1 a2
    subst a2
    have hj : j < 4 := by omega
    by_cases h3 : (s.2.2.2.2.2 j).1 = 0
    · rw [if_pos h3]
      refine am_cop_err (k := 2) (by decide) fun X q G hc => am_CD_of (M := am_N108) rfl rfl ?_
      show am_Rn _ _ ((Option.some FieldType.int)) am_J108 0 [some (.ref 0), some (.int (nI j)), some (.int i), some (.int v)] [] (am_L0 q, G) _
      simp only [am_s108_0, am_s108_1, am_s108_4, am_s108_7, am_s108_8, am_s108_9, am_s108_12, am_s108_13, am_s108_14, am_s108_17, am_s108_18, am_s108_19, am_s108_22, am_s108_25, am_s108_26, am_s108_27, am_s108_30, am_s108_31, am_s108_32, am_s108_35, am_s108_36, am_s108_37, am_s108_40, am_s108_41, am_s108_42, am_s108_45, am_s108_48, am_s108_49, am_s108_50, am_s108_53, am_s108_54, am_s108_55, am_s108_58, am_s108_59, am_s108_60, am_s108_61, am_s108_62, am_s108_65, am_s108_66, h1, am_rld_104 hj, am_cal_ok am_cat_0 (am_sh_v hj) (am_y58 (X := X) (q := q) hj (hc.2.2.2.2.2 j hj).1), h3, decide_true, am_cal_ok am_cat_0 am_v0 (am_e1 (D := 98)), am_cal_ok am_cat_0 am_v0 (am_e2 (D := 98)), am_cal_ok am_cat_0 am_v0 (am_e3 (D := 98)), am_cal_ok am_cat_0 am_v0 (am_e4 (D := 98)), am_cal_ok am_cat_0 am_v0 (am_e5 (D := 98)), am_cal_ok am_cat_0 am_rcv_f (am_m123 (D := 98) _ _), am_cal_ok am_cat_0 am_rcv_f (am_m121 (D := 97) _), am_cal_ok am_cat_0 am_rcv_f (am_m122 (D := 97) _), am_bI0, am_f0_0, am_f0_1, am_f0_2, am_f0_3, am_f0_4, am_f0_5, am_f0_6, am_f0_7, am_f1_2, am_ec1, am_ec2, am_ec3, am_ec4, am_ec5, am_er_f, am_sy_f, Bool.false_and, Bool.and_false, reduceCtorEq, not_false_eq_true, not_true_eq_false, eq_self, am_os_some, Option.toList_some, Option.toList_none, List.cons_append, List.nil_append, if_true, if_false, true_and, am_nw1_i, am_nw1_r, am_nw1_n, cond_true]
    · rw [if_neg h3]
      have hz := (hs.2.2.2 j hj).1
      by_cases h4 : i < 0
      · rw [if_pos (Or.inl h4)]
        refine am_cop_err (k := 1) (by decide) fun X q G hc => am_CD_of (M := am_N108) rfl rfl ?_
        show am_Rn _ _ ((Option.some FieldType.int)) am_J108 0 [some (.ref 0), some (.int (nI j)), some (.int i), some (.int v)] [] (am_L0 q, G) _
        simp only [am_s108_0, am_s108_1, am_s108_4, am_s108_7, am_s108_8, am_s108_9, am_s108_12, am_s108_13, am_s108_14, am_s108_17, am_s108_18, am_s108_19, am_s108_22, am_s108_25, am_s108_26, am_s108_27, am_s108_30, am_s108_31, am_s108_32, am_s108_35, am_s108_36, am_s108_37, am_s108_40, am_s108_41, am_s108_42, am_s108_45, am_s108_48, am_s108_49, am_s108_50, am_s108_53, am_s108_54, am_s108_55, am_s108_58, am_s108_59, am_s108_60, am_s108_61, am_s108_62, am_s108_65, am_s108_66, h1, am_rld_104 hj, am_cal_ok am_cat_0 (am_sh_v hj) (am_y58 (X := X) (q := q) hj (hc.2.2.2.2.2 j hj).1), h3, h4, decide_false, am_cal_ok am_cat_0 am_v0 (am_e1 (D := 98)), am_cal_ok am_cat_0 am_v0 (am_e2 (D := 98)), am_cal_ok am_cat_0 am_v0 (am_e3 (D := 98)), am_cal_ok am_cat_0 am_v0 (am_e4 (D := 98)), am_cal_ok am_cat_0 am_v0 (am_e5 (D := 98)), am_cal_ok am_cat_0 am_rcv_f (am_m123 (D := 98) _ _), am_cal_ok am_cat_0 am_rcv_f (am_m121 (D := 97) _), am_cal_ok am_cat_0 am_rcv_f (am_m122 (D := 97) _), am_bI0, am_f0_0, am_f0_1, am_f0_2, am_f0_3, am_f0_4, am_f0_5, am_f0_6, am_f0_7, am_f1_2, am_ec1, am_ec2, am_ec3, am_ec4, am_ec5, am_er_f, am_sy_f, Bool.false_and, Bool.and_false, reduceCtorEq, not_false_eq_true, not_true_eq_false, eq_self, am_os_some, Option.toList_some, Option.toList_none, List.cons_append, List.nil_append, if_true, if_false, true_and, am_nw1_i, am_nw1_r, am_nw1_n, cond_true]
      · by_cases h5 : i < nI (s.2.2.2.2.2 j).2.1
        · rw [if_neg (by simp only [h4, h5]; simp)]
          obtain ⟨k, hk, rfl⟩ := nI_of h4
          have hlt := (nI_ltI hk (by omega)).mp h5
          rw [nI_clamp hk]
          intro N xs q G hc
          obtain ⟨e1, e2, e3, e4⟩ := hc.2.2.2.2.2 j hj
          have g60 := am_m60 (X := am_X0 N xs) (D := 98) (q := q) (G := G) hj (show k < 40 by omega) v
          rw [e1] at g60
          refine ⟨q, am_up G (107 + 2 * j) k (am_nrw (s.2.2.2.2.2 j).1 v), fun i k hi => by rw [am_up_get, if_neg (by omega)], am_cfl_H (x := ((s.2.2.2.2.2 j).1, (s.2.2.2.2.2 j).2.1, fun m => if m = k then am_nrw (s.2.2.2.2.2 j).1 v else (s.2.2.2.2.2 j).2.2 m)) hj hc (fun i m a b => by rw [am_up_get, if_neg b]) ⟨by rw [am_up_get, if_neg (by omega)]; exact e1, by rw [am_up_get, if_neg (by omega)]; exact e2, e3, fun m hm => by
            rw [am_up_get, if_pos rfl]
            by_cases e : m = k
            · rw [if_pos e]; simp only [if_pos e]
            · rw [if_neg e]; simp only [if_neg e]; exact e4 m hm⟩, am_CD_of (M := am_N108) rfl rfl ?_⟩
          show am_Rn _ _ ((Option.some FieldType.int)) am_J108 0 [some (.ref 0), some (.int (nI j)), some (.int (nI k)), some (.int v)] [] (am_L0 q, G) _
          simp only [am_s108_0, am_s108_1, am_s108_4, am_s108_7, am_s108_8, am_s108_9, am_s108_12, am_s108_13, am_s108_14, am_s108_17, am_s108_18, am_s108_19, am_s108_22, am_s108_25, am_s108_26, am_s108_27, am_s108_30, am_s108_31, am_s108_32, am_s108_35, am_s108_36, am_s108_37, am_s108_40, am_s108_41, am_s108_42, am_s108_45, am_s108_48, am_s108_49, am_s108_50, am_s108_53, am_s108_54, am_s108_55, am_s108_58, am_s108_59, am_s108_60, am_s108_61, am_s108_62, am_s108_65, am_s108_66, h1, am_rld_104 hj, am_cal_ok am_cat_0 (am_sh_v hj) (am_y58 (X := am_X0 N xs) (q := q) hj (hc.2.2.2.2.2 j hj).1), h3, h4, h5, e2, am_sh_f2 hj, decide_false, am_cal_ok am_cat_0 (am_sh_v hj) (g60), am_cal_ok am_cat_0 am_v0 (am_e1 (D := 98)), am_cal_ok am_cat_0 am_v0 (am_e2 (D := 98)), am_cal_ok am_cat_0 am_v0 (am_e3 (D := 98)), am_cal_ok am_cat_0 am_v0 (am_e4 (D := 98)), am_cal_ok am_cat_0 am_v0 (am_e5 (D := 98)), am_cal_ok am_cat_0 am_rcv_f (am_m123 (D := 98) _ _), am_cal_ok am_cat_0 am_rcv_f (am_m121 (D := 97) _), am_cal_ok am_cat_0 am_rcv_f (am_m122 (D := 97) _), am_bI0, am_f0_0, am_f0_1, am_f0_2, am_f0_3, am_f0_4, am_f0_5, am_f0_6, am_f0_7, am_f1_2, am_ec1, am_ec2, am_ec3, am_ec4, am_ec5, am_er_f, am_sy_f, Bool.false_and, Bool.and_false, reduceCtorEq, not_false_eq_true, not_true_eq_false, eq_self, am_os_some, Option.toList_some, Option.toList_none, List.cons_append, List.nil_append, if_true, if_false, true_and, am_nw1_i, am_nw1_r, am_nw1_n, cond_true]
        · rw [if_pos (Or.inr h5)]
          refine am_cop_err (k := 1) (by decide) fun X q G hc => am_CD_of (M := am_N108) rfl rfl ?_
          show am_Rn _ _ ((Option.some FieldType.int)) am_J108 0 [some (.ref 0), some (.int (nI j)), some (.int i), some (.int v)] [] (am_L0 q, G) _
          simp only [am_s108_0, am_s108_1, am_s108_4, am_s108_7, am_s108_8, am_s108_9, am_s108_12, am_s108_13, am_s108_14, am_s108_17, am_s108_18, am_s108_19, am_s108_22, am_s108_25, am_s108_26, am_s108_27, am_s108_30, am_s108_31, am_s108_32, am_s108_35, am_s108_36, am_s108_37, am_s108_40, am_s108_41, am_s108_42, am_s108_45, am_s108_48, am_s108_49, am_s108_50, am_s108_53, am_s108_54, am_s108_55, am_s108_58, am_s108_59, am_s108_60, am_s108_61, am_s108_62, am_s108_65, am_s108_66, h1, am_rld_104 hj, am_cal_ok am_cat_0 (am_sh_v hj) (am_y58 (X := X) (q := q) hj (hc.2.2.2.2.2 j hj).1), h3, h4, h5, (hc.2.2.2.2.2 j hj).2.1, am_sh_f2 hj, decide_false, am_cal_ok am_cat_0 am_v0 (am_e1 (D := 98)), am_cal_ok am_cat_0 am_v0 (am_e2 (D := 98)), am_cal_ok am_cat_0 am_v0 (am_e3 (D := 98)), am_cal_ok am_cat_0 am_v0 (am_e4 (D := 98)), am_cal_ok am_cat_0 am_v0 (am_e5 (D := 98)), am_cal_ok am_cat_0 am_rcv_f (am_m123 (D := 98) _ _), am_cal_ok am_cat_0 am_rcv_f (am_m121 (D := 97) _), am_cal_ok am_cat_0 am_rcv_f (am_m122 (D := 97) _), am_bI0, am_f0_0, am_f0_1, am_f0_2, am_f0_3, am_f0_4, am_f0_5, am_f0_6, am_f0_7, am_f1_2, am_ec1, am_ec2, am_ec3, am_ec4, am_ec5, am_er_f, am_sy_f, Bool.false_and, Bool.and_false, reduceCtorEq, not_false_eq_true, not_true_eq_false, eq_self, am_os_some, Option.toList_some, Option.toList_none, List.cons_append, List.nil_append, if_true, if_false, true_and, am_nw1_i, am_nw1_r, am_nw1_n, cond_true]
end AMOP6
