/-! THE REFERENCE: sums, the given set, days -/
section AMRB
variable {X : am_X} {D q : Nat} {S : am_S} {T U : am_T} {wh : Int32} {G : am_G}
theorem am_m168 (h : am_rp (G 115) S) (h8 : S 13 0 ≤ 8) {f : Nat} (hf : f < 5) : am_CD X (D + 2) 168 [.ref 114, .int (nI f)] (am_L0 q, G) = some (some (.int (nI (am_sum S f (S 13 0)))), (am_L0 q, G)) := by
  have k2 : G 115 2 = nI (S 13 0) := h.2.1
  have hl : ∀ d k, k + d = S 13 0 → am_Rn X (D + 1) (some .int) am_J168 4 [some (.ref 114), some (.int (nI f)), some (.int (nI (am_sum S f k))), some (.int (nI k))] [] (am_L0 q, G) (some (.int (nI (am_sum S f (S 13 0)))), (am_L0 q, G)) := by
    intro d
    induction d with
    | zero =>
      intro k hk
      obtain rfl : k = S 13 0 := by omega
      have h1 : ¬ nI (S 13 0) < nI (S 13 0) := Int32.lt_irrefl
      simp only [am_s168_4, am_s168_5, am_s168_6, am_s168_9, am_s168_10, am_s168_11, am_s168_29, am_s168_30, am_f114_0, am_r115_2, k2, h1, eq_self, am_os_some, Option.toList_some, Option.toList_none, List.cons_append, List.nil_append, if_true, if_false, true_and, am_nw1_i, am_nw1_r, am_nw1_n, cond_true]
    | succ d ih =>
      intro k hk
      have h1 : nI k < nI (S 13 0) := nI_lt (by omega) (by omega)
      have hi : nI k + 1 = nI (k + 1) := nI_add k 1
      have kk := h.2.2.1 k f (by omega) hf
      have s1 : nI (am_sum S f k) + nI (S f k) = nI (am_sum S f (k + 1)) := nI_add _ _
      simp only [am_s168_4, am_s168_5, am_s168_6, am_s168_9, am_s168_10, am_s168_11, am_s168_14, am_s168_15, am_s168_16, am_s168_17, am_s168_18, am_s168_21, am_s168_22, am_s168_23, am_f114_0, am_r115_2, k2, h1, am_cal_ok (am_cat_1 _) am_v114 (am_m130 (D := D) (show k < 8 by omega) hf), kk, s1, eq_self, am_os_some, Option.toList_some, Option.toList_none, List.cons_append, List.nil_append, if_true, if_false, true_and, am_nw1_i, am_nw1_r, am_nw1_n, cond_true]
      rw [am_s168_26, hi]
      exact ih (k + 1) (by omega)
  refine am_CD_of (M := am_N168) rfl rfl ?_
  show am_Rn _ _ ((Option.some FieldType.int)) am_J168 0 [some (.ref 114), some (.int (nI f)), none, none] [] (am_L0 q, G) _
  simp only [am_s168_0, am_s168_1, am_s168_2, am_s168_3, eq_self, am_os_some, Option.toList_some, Option.toList_none, List.cons_append, List.nil_append, if_true, if_false, true_and, am_nw1_i, am_nw1_r, am_nw1_n, cond_true]
  exact hl (S 13 0) 0 (by omega)
theorem am_m190 (h : am_rc G S T U wh) (h8 : S 13 0 ≤ 8) (hD : S 13 1 < 2 ^ 31) : ∃ G' : am_G, am_frw G G' ∧ am_CD X (D + 49) 190 [.ref 114] (am_L0 q, G) = some (some (.int (am_gs T S (S 13 0))), (am_L0 q, G')) := by
  have hl : ∀ d k (G : am_G), k + d = S 13 0 → am_rc G S T U wh → ∃ G' : am_G, am_frw G G' ∧ am_Rn X (D + 48) (some .int) am_J190 4 [some (.ref 114), some (.int (am_gs T S k)), some (.int (nI k))] [] (am_L0 q, G) (some (.int (am_gs T S (S 13 0))), (am_L0 q, G')) := by
    intro d
    induction d with
    | zero =>
      intro k G hk h
      have k2 : G 115 2 = nI (S 13 0) := h.1.2.1
      obtain rfl : k = S 13 0 := by omega
      have h1 : ¬ nI (S 13 0) < nI (S 13 0) := Int32.lt_irrefl
      refine ⟨G, am_frw.rf G, ?_⟩
      simp only [am_s190_4, am_s190_5, am_s190_6, am_s190_9, am_s190_10, am_s190_11, am_s190_38, am_s190_39, am_f114_0, am_r115_2, k2, h1, eq_self, am_os_some, Option.toList_some, Option.toList_none, List.cons_append, List.nil_append, if_true, if_false, true_and, am_nw1_i, am_nw1_r, am_nw1_n, cond_true]
    | succ d ih =>
      intro k G hk h
      have k2 : G 115 2 = nI (S 13 0) := h.1.2.1
      have h1 : nI k < nI (S 13 0) := nI_lt (by omega) (by omega)
      have hi : nI k + 1 = nI (k + 1) := nI_add k 1
      obtain ⟨G1, f1, g1⟩ := am_m163 (X := X) (D := D) (q := q) h hD (show k < 8 by omega)
      obtain ⟨G', f2, g2⟩ := ih (k + 1) G1 (by omega) (h.fr f1)
      refine ⟨G', f1.tr f2, ?_⟩
      cases hv : am_gv T S k with
      | true =>
        rw [hv] at g1
        have e : am_gs T S (k + 1) = am_gs T S k ||| (1 <<< (nI k &&& 31)) := by rw [am_gs, if_pos hv]
        rw [e] at g2
        simp only [am_s190_4, am_s190_5, am_s190_6, am_s190_9, am_s190_10, am_s190_11, am_s190_14, am_s190_15, am_s190_16, am_s190_17, am_s190_20, am_s190_23, am_s190_24, am_s190_25, am_s190_26, am_s190_29, am_s190_30, am_s190_31, am_s190_32, am_f114_0, am_r115_2, k2, h1, am_cal_ok (am_cat_1 _) am_v114 (g1), am_bI0, reduceCtorEq, eq_self, am_os_some, Option.toList_some, Option.toList_none, List.cons_append, List.nil_append, if_true, if_false, true_and, am_nw1_i, am_nw1_r, am_nw1_n, cond_true]
        rw [am_s190_35, hi]
        exact g2
      | false =>
        rw [hv] at g1
        have e : am_gs T S (k + 1) = am_gs T S k := by rw [am_gs, if_neg (by rw [hv]; decide)]
        have e0 : am_gs T S k ||| 0 = am_gs T S k := Int32.or_zero
        rw [e] at g2
        simp only [am_s190_4, am_s190_5, am_s190_6, am_s190_9, am_s190_10, am_s190_11, am_s190_14, am_s190_15, am_s190_16, am_s190_17, am_s190_20, am_s190_23, am_s190_24, am_s190_25, am_s190_26, am_s190_29, am_s190_30, am_s190_31, am_s190_32, am_f114_0, am_r115_2, k2, h1, am_cal_ok (am_cat_1 _) am_v114 (g1), am_bI0, reduceCtorEq, e0, eq_self, am_os_some, Option.toList_some, Option.toList_none, List.cons_append, List.nil_append, if_true, if_false, true_and, am_nw1_i, am_nw1_r, am_nw1_n, cond_true]
        rw [am_s190_35, hi]
        exact g2
  obtain ⟨G', f, g⟩ := hl (S 13 0) 0 G (by omega) h
  refine ⟨G', f, am_CD_of (M := am_N190) rfl rfl ?_⟩
  show am_Rn _ _ ((Option.some FieldType.int)) am_J190 0 [some (.ref 114), none, none] [] (am_L0 q, G) _
  simp only [am_s190_0, am_s190_1, am_s190_2, am_s190_3, eq_self, am_os_some, Option.toList_some, Option.toList_none, List.cons_append, List.nil_append, if_true, if_false, true_and, am_nw1_i, am_nw1_r, am_nw1_n, cond_true]
  exact g
theorem am_rfl_rc {s : am_St} (h : am_rfl G s) : am_rc G s.1.1 s.1.2.1 s.1.2.2.1 (-1) := ⟨h.1.1, h.1.2.1, h.1.2.2.1, h.2.2.2.2.2.1⟩
/-- the people of the row have changed, by what oneDay and the like leave alone -/
theorem am_rfl_rS {G' : am_G} {s : am_St} {S1 : am_S} (h : am_rfl G s) (hf : am_frs G G') (h1 : am_rp (G' 115) S1) : am_rfl G' (am_sS S1 s) :=
  am_rfl_W h (fun i j _ b _ _ _ _ e => hf.1 i j (fun e1 => by have := e e1; omega) b) (am_rw8_S h.1 hf.2 h1)
theorem am_r169 {n : Int32} {s : am_St} (hs : am_oks s) : am_rO 169 [.int n] s (am_O91 n s) := by
  unfold am_O91
  have h8 := hs.1.1.1
  have hD := hs.1.2.1
  by_cases h : n < 1 ∨ ¬ n ≤ 60
  · rw [if_pos h]
    have h1 : (decide (¬ n < 1) && decide (n ≤ 60)) = false := by rcases h with h | h <;> simp [h]
    refine am_rO_err (k := 1) (r := -1000000001) (by decide) am_ec1.symm fun X q G hc => am_CD_of (M := am_N169) rfl rfl ?_
    have hn : G 115 2 = nI (s.1.1 13 0) := hc.1.1.2.1
    show am_Rn _ _ ((Option.some FieldType.int)) am_J169 0 [some (.ref 114), some (.int n)] [] (am_L0 q, G) _
    simp only [am_s169_0, am_s169_1, am_s169_2, am_s169_4, am_s169_7, am_s169_10, am_s169_11, am_s169_13, am_s169_16, am_s169_17, am_s169_18, am_s169_21, am_s169_22, am_s169_23, am_s169_24, am_s169_25, am_s169_28, am_s169_31, am_s169_32, am_s169_34, am_s169_37, am_s169_38, am_s169_39, am_s169_40, am_s169_43, am_s169_44, am_s169_45, am_s169_48, am_cal_ok am_cat_0 am_rcv_f (am_m125 (D := 98) _ _ _), h1, am_cal_ok am_cat_0 am_v114 (am_d1 (D := 98)), am_cal_ok am_cat_0 am_v114 (am_d2 (D := 98)), am_cal_ok am_cat_0 am_v114 (am_d3 (D := 98)), am_cal_ok am_cat_0 am_v114 (am_d4 (D := 98)), am_cal_ok am_cat_0 am_v114 (am_d5 (D := 98)), am_cal_ok am_cat_0 am_rcv_f (am_y125 _ _), am_cal_ok am_cat_0 am_rcv_f (am_m183 (D := 97) _), am_bI0, am_f114_0, am_er_f, am_sy_f, Bool.false_and, Bool.and_false, reduceCtorEq, not_false_eq_true, not_true_eq_false, eq_self, am_os_some, Option.toList_some, Option.toList_none, List.cons_append, List.nil_append, if_true, if_false, true_and, am_nw1_i, am_nw1_r, am_nw1_n, cond_true]
  · rw [if_neg h]
    have h' : ¬ n < 1 ∧ n ≤ 60 := ⟨fun e => h (Or.inl e), Decidable.not_not.mp fun e => h (Or.inr e)⟩
    have h1 : (decide (¬ n < 1) && decide (n ≤ 60)) = true := by simp [h'.1, h'.2]
    have h0 : ¬ n < 0 := fun h => h'.1 (Int32.lt_trans h (by decide))
    obtain ⟨m, hm, rfl⟩ := nI_of2 (n := 60) (by decide) h0 h'.2
    rw [nI_clamp (show m < 2 ^ 31 by omega)]
    have s1 : nI (s.1.1 13 1) + nI m = nI (s.1.1 13 1 + m) := nI_add _ _
    by_cases h3 : 9999 < s.1.1 13 1 + m
    · rw [if_pos h3]
      have h4 : ¬ nI (s.1.1 13 1 + m) ≤ 9999 := nI_ge (a := 9999) h3 (by omega)
      refine am_rO_err (k := 3) (r := -1000000003) (by decide) am_ec3.symm fun X q G hc => am_CD_of (M := am_N169) rfl rfl ?_
      have hn : G 115 2 = nI (s.1.1 13 0) := hc.1.1.2.1
      have k0 : G 115 0 = nI (s.1.1 13 1) := hc.1.1.1
      show am_Rn _ _ ((Option.some FieldType.int)) am_J169 0 [some (.ref 114), some (.int (nI m))] [] (am_L0 q, G) _
      simp only [am_s169_0, am_s169_1, am_s169_2, am_s169_4, am_s169_7, am_s169_10, am_s169_11, am_s169_13, am_s169_16, am_s169_17, am_s169_18, am_s169_21, am_s169_22, am_s169_23, am_s169_24, am_s169_25, am_s169_28, am_s169_31, am_s169_32, am_s169_34, am_s169_37, am_s169_38, am_s169_39, am_s169_40, am_s169_43, am_s169_44, am_s169_45, am_s169_48, am_cal_ok am_cat_0 am_rcv_f (am_m125 (D := 98) _ _ _), h1, am_r115_0, k0, s1, h4, am_cal_ok am_cat_0 am_v114 (am_d1 (D := 98)), am_cal_ok am_cat_0 am_v114 (am_d2 (D := 98)), am_cal_ok am_cat_0 am_v114 (am_d3 (D := 98)), am_cal_ok am_cat_0 am_v114 (am_d4 (D := 98)), am_cal_ok am_cat_0 am_v114 (am_d5 (D := 98)), am_cal_ok am_cat_0 am_rcv_f (am_y125 _ _), am_cal_ok am_cat_0 am_rcv_f (am_m183 (D := 97) _), am_bI0, am_f114_0, am_er_f, am_sy_f, Bool.false_and, Bool.and_false, reduceCtorEq, not_false_eq_true, not_true_eq_false, eq_self, am_os_some, Option.toList_some, Option.toList_none, List.cons_append, List.nil_append, if_true, if_false, true_and, am_nw1_i, am_nw1_r, am_nw1_n, cond_true]
    · rw [if_neg h3]
      have h4 : nI (s.1.1 13 1 + m) ≤ 9999 := nI_le (b := 9999) (by omega) (by decide)
      intro N xs q G hc
      have k0 : G 115 0 = nI (s.1.1 13 1) := hc.1.1.1
      obtain ⟨G', f, c, g⟩ := am_m167 (X := am_X0 N xs) (D := 48) (q := q) (n := m) (am_rfl_rc hc) hs.1.1 (by omega) am_hm1
      have w := am_wf_days (T := s.1.2.1) (U := s.1.2.2.1) (h := 8) hs.1.1 m
      have g168 := am_m168 (X := am_X0 N xs) (D := 97) (q := q) (f := 3) c.1 (by rw [w.2.1]; exact h8) (by decide)
      rw [w.2.1] at g168
      have g168' : am_CD (am_X0 N xs) 99 168 [.ref 114, .int 3] (am_L0 q, G') = _ := g168
      refine ⟨G', fun i j hi => f.1 i j (by omega) (by omega), am_rfl_rS hc f c.1, am_CD_of (M := am_N169) rfl rfl ?_⟩
      show am_Rn _ _ ((Option.some FieldType.int)) am_J169 0 [some (.ref 114), some (.int (nI m))] [] (am_L0 q, G) _
      simp only [am_s169_0, am_s169_1, am_s169_2, am_s169_4, am_s169_7, am_s169_10, am_s169_11, am_s169_13, am_s169_16, am_s169_17, am_s169_18, am_s169_21, am_s169_22, am_s169_23, am_s169_24, am_s169_25, am_s169_28, am_s169_31, am_s169_32, am_s169_34, am_s169_37, am_s169_38, am_s169_39, am_s169_40, am_s169_43, am_s169_44, am_s169_45, am_s169_48, am_cal_ok am_cat_0 am_rcv_f (am_m125 (D := 98) _ _ _), h1, am_r115_0, k0, s1, h4, am_cal_ok am_cat_0 am_v114 (g), am_cal_ok am_cat_0 am_v114 (g168'), am_cal_ok am_cat_0 am_v114 (am_d1 (D := 98)), am_cal_ok am_cat_0 am_v114 (am_d2 (D := 98)), am_cal_ok am_cat_0 am_v114 (am_d3 (D := 98)), am_cal_ok am_cat_0 am_v114 (am_d4 (D := 98)), am_cal_ok am_cat_0 am_v114 (am_d5 (D := 98)), am_cal_ok am_cat_0 am_rcv_f (am_y125 _ _), am_cal_ok am_cat_0 am_rcv_f (am_m183 (D := 97) _), am_bI0, am_f114_0, am_er_f, am_sy_f, Bool.false_and, Bool.and_false, reduceCtorEq, not_false_eq_true, not_true_eq_false, eq_self, am_os_some, Option.toList_some, Option.toList_none, List.cons_append, List.nil_append, if_true, if_false, true_and, am_nw1_i, am_nw1_r, am_nw1_n, cond_true]
end AMRB
