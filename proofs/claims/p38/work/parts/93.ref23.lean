/-! THE REFERENCE: first, dry -/
theorem am_dth_lt {T U : am_T} {S : am_S} {x : Nat} : ∀ (d n : Nat) {j : Nat}, am_dth T U S x d n = some j → am_ft (am_days T U 8 S j) x (S 13 0) 0 < S 13 0
  | 0, _, _, h => by cases h
  | d + 1, n, j, h => by
    unfold am_dth at h
    split at h
    · rename_i c
      cases h
      exact c
    · exact am_dth_lt d (n + 1) h
/-- an ERROR is told, from any heap that holds the state -/
theorem am_rfl_E {G : am_G} {s : am_St} {k : Nat} (hk : k < 6) (hc : am_rfl G s) : am_rfl (am_up G 119 k (G 119 k + 1)) (am_er k s).2 := by
  obtain ⟨h1, h2, h3, h4, h5, h6, h7, h8⟩ := hc
  have f : ∀ i j, i ≠ 119 → am_up G 119 k (G 119 k + 1) i j = G i j := fun i j h => by rw [am_up_get, if_neg h]
  have e : ∀ i, i ≠ 119 → am_up G 119 k (G 119 k + 1) i = G i := fun i h => funext fun j => f i j h
  refine ⟨by rw [e 115 (by decide)]; exact h1, fun hc => by rw [e 116 (by decide)]; exact h2 hc, by rw [f 114 4 (by decide)]; exact h3, by rw [f 114 5 (by decide)]; exact h4, fun i hi => ?_, by rw [f 114 15 (by decide)]; exact h6, by rw [f 114 25 (by decide), e 125 (by decide)]; exact h7, fun j hj => ?_⟩
  · show am_up G 119 k (G 119 k + 1) 119 i = am_ue s.2.2.2.2.1 k i
    rw [am_up_get, if_pos rfl]
    unfold am_ue
    split
    · rename_i e
      subst e
      rw [h5 i hi]
    · exact h5 i hi
  · obtain ⟨a, b, c⟩ := h8 j hj
    unfold am_rsh
    rw [e 120 (by decide), e 121 (by decide), e 122 (by decide)]
    exact ⟨a, b, c⟩
section AMRL3
variable {X : am_X} {D q : Nat} {S : am_S} {T U : am_T}
theorem am_m181 {G : am_G} (h : am_rp (G 115) S) (hw : am_wf S) {x : Nat} (hx : x ≤ 99) : am_CD X (D + 2) 181 [.ref 114, .int (nI x)] (am_L0 q, G) = some (some (.int (nI (am_ft S x (S 13 0) 0))), (am_L0 q, G)) := by
  have h8 := hw.1
  have k2 : G 115 2 = nI (S 13 0) := h.2.1
  have hl : ∀ d k, k + d = S 13 0 → am_Rn X (D + 1) (some .int) am_J181 2 [some (.ref 114), some (.int (nI x)), some (.int (nI k))] [] (am_L0 q, G) (some (.int (nI (am_ft S x d k))), (am_L0 q, G)) := by
    intro d
    induction d with
    | zero =>
      intro k hk
      obtain rfl : k = S 13 0 := by omega
      have h1 : ¬ nI (S 13 0) < nI (S 13 0) := Int32.lt_irrefl
      simp only [am_s181_2, am_s181_3, am_s181_4, am_s181_7, am_s181_8, am_s181_9, am_s181_28, am_s181_29, am_f114_0, am_r115_2, k2, h1, am_ft, eq_self, am_os_some, Option.toList_some, Option.toList_none, List.cons_append, List.nil_append, if_true, if_false, true_and, am_nw1_i, am_nw1_r, am_nw1_n, cond_true]
    | succ d ih =>
      intro k hk
      have k8 : k < 8 := by omega
      have h1 : nI k < nI (S 13 0) := nI_lt (by omega) (by omega)
      have hi : nI k + 1 = nI (k + 1) := nI_add k 1
      have kk := h.2.2.1 k 4 k8 (by decide)
      have wk := (hw.2.1 k k8).2.2.2.2
      unfold am_ft
      by_cases c : x ≤ S 4 k
      · rw [if_pos c]
        have j1 : ¬ nI (S 4 k) < nI x := nI_nlt c (by omega)
        simp only [am_s181_2, am_s181_3, am_s181_4, am_s181_7, am_s181_8, am_s181_9, am_s181_12, am_s181_13, am_s181_14, am_s181_15, am_s181_18, am_s181_19, am_s181_28, am_s181_29, am_f114_0, am_r115_2, k2, h1, am_cal_ok am_cat_0 am_v114 (am_i130_4 (D := D) k8), kk, j1, eq_self, am_os_some, Option.toList_some, Option.toList_none, List.cons_append, List.nil_append, if_true, if_false, true_and, am_nw1_i, am_nw1_r, am_nw1_n, cond_true]
      · rw [if_neg c]
        have j1 : nI (S 4 k) < nI x := nI_lt (by omega) (by omega)
        simp only [am_s181_2, am_s181_3, am_s181_4, am_s181_7, am_s181_8, am_s181_9, am_s181_12, am_s181_13, am_s181_14, am_s181_15, am_s181_18, am_s181_19, am_s181_22, am_f114_0, am_r115_2, k2, h1, am_cal_ok am_cat_0 am_v114 (am_i130_4 (D := D) k8), kk, j1, eq_self, am_os_some, Option.toList_some, Option.toList_none, List.cons_append, List.nil_append, if_true, if_false, true_and, am_nw1_i, am_nw1_r, am_nw1_n, cond_true]
        rw [am_s181_25, hi]
        exact ih (k + 1) (by omega)
  refine am_CD_of (M := am_N181) rfl rfl ?_
  show am_Rn _ _ ((Option.some FieldType.int)) am_J181 0 [some (.ref 114), some (.int (nI x)), none] [] (am_L0 q, G) _
  simp only [am_s181_0, am_s181_1, eq_self, am_os_some, Option.toList_some, Option.toList_none, List.cons_append, List.nil_append, if_true, if_false, true_and, am_nw1_i, am_nw1_r, am_nw1_n, cond_true]
  exact hl (S 13 0) 0 (by omega)
theorem am_l182 (hw : am_wf S) (hD : S 13 1 ≤ 9999) {x : Nat} {w : Int32} {y : Option Value} (hx : x ≤ 99) : ∀ (d n : Nat) (G : am_G), n + d = 61 → am_rc G (am_days T U 8 S n) T U (-1) → ∃ G' : am_G, am_frs G G' ∧ am_rc G' (am_days T U 8 S ((am_dth T U S x d n).getD 61)) T U (-1) ∧ ∀ o, am_Rn X 99 (some .int) am_J182 40 [some (.ref 114), some (.int (nI x)), some (.int w), some (.int (nI n)), y] [] (am_L0 q, G) o = am_Rn X 99 (some .int) am_J182 70 [some (.ref 114), some (.int (nI x)), some (.int w), some (.int (nI ((am_dth T U S x d n).getD 61))), y] [] (am_L0 q, G') o := by
  have h8 := hw.1
  intro d
  induction d with
  | zero =>
    intro n G hn h
    obtain rfl : n = 61 := by omega
    have h1 : ¬ nI 61 ≤ 60 := by decide +kernel
    refine ⟨G, (am_frw.rf G).s, h, fun o => ?_⟩
    simp only [am_s182_40, am_s182_41, am_s182_43, h1, am_dth, Option.getD_none, eq_self, am_os_some, Option.toList_some, Option.toList_none, List.cons_append, List.nil_append, if_true, if_false, true_and, am_nw1_i, am_nw1_r, am_nw1_n, cond_true]
  | succ d ih =>
    intro n G hn h
    have h1 : nI n ≤ 60 := nI_le (b := 60) (by omega) (by decide)
    have hi : nI n + 1 = nI (n + 1) := nI_add n 1
    have wd := am_wf_days (T := T) (U := U) (h := 8) hw n
    have k2 : G 115 2 = nI (S 13 0) := by have := h.1.2.1; rw [wd.2.1] at this; exact this
    have g181 := am_m181 (X := X) (D := 97) (q := q) h.1 wd.1 hx
    rw [wd.2.1] at g181
    have hge := (am_ft_ge (S := am_days T U 8 S n) (x := x) (S 13 0) 0).2
    unfold am_dth
    generalize hf : am_ft (am_days T U 8 S n) x (S 13 0) 0 = f at *
    by_cases c : f < S 13 0
    · rw [if_pos c]
      have j1 : ¬ nI f = nI (S 13 0) := fun e => by have := (nI_eq (by omega) (by omega)).mp e; omega
      refine ⟨G, (am_frw.rf G).s, h, fun o => ?_⟩
      simp only [am_s182_40, am_s182_41, am_s182_43, am_s182_46, am_s182_47, am_s182_48, am_s182_51, am_s182_52, am_s182_55, am_s182_56, am_s182_57, h1, am_cal_ok am_cat_0 am_v114 (g181), am_f114_0, am_r115_2, k2, j1, Option.getD_some, eq_self, am_os_some, Option.toList_some, Option.toList_none, List.cons_append, List.nil_append, if_true, if_false, true_and, am_nw1_i, am_nw1_r, am_nw1_n, cond_true]
    · rw [if_neg c]
      have j1 : nI f = nI (S 13 0) := by rw [show f = S 13 0 by omega]
      obtain ⟨G1, f1, c1, g1⟩ := am_m166 (X := X) (D := 49) (q := q) (G := G) h wd.1 (by rw [wd.2.2]; omega) am_hm1
      obtain ⟨G', f2, c2, g2⟩ := ih (n + 1) G1 (by omega) c1
      refine ⟨G', f1.tr f2, c2, fun o => ?_⟩
      simp only [am_s182_40, am_s182_41, am_s182_43, am_s182_46, am_s182_47, am_s182_48, am_s182_51, am_s182_52, am_s182_55, am_s182_56, am_s182_57, am_s182_60, am_s182_61, am_s182_64, h1, am_cal_ok am_cat_0 am_v114 (g181), am_f114_0, am_r115_2, k2, j1, am_cal_ok am_cat_0 am_v114 (g1), eq_self, am_os_some, Option.toList_some, Option.toList_none, List.cons_append, List.nil_append, if_true, if_false, true_and, am_nw1_i, am_nw1_r, am_nw1_n, cond_true]
      rw [am_s182_67, hi]
      exact g2 o
theorem am_r182 {x w : Int32} {s : am_St} (hs : am_oks s) : am_rO 182 [.int x, .int w] s (am_O95 x w s) := by
  unfold am_O95
  have h8 := hs.1.1.1
  have hD := hs.1.2.1
  by_cases h : x < 1 ∨ ¬ x ≤ 99
  · rw [if_pos (Or.inl h)]
    have h1 : (decide (¬ x < 1) && decide (x ≤ 99)) = false := by rcases h with h | h <;> simp [h]
    refine am_rO_err (k := 1) (r := -1000000001) (by decide) am_ec1.symm fun X q G hc => am_CD_of (M := am_N182) rfl rfl ?_
    have hn : G 115 2 = nI (s.1.1 13 0) := hc.1.1.2.1
    show am_Rn _ _ ((Option.some FieldType.int)) am_J182 0 [some (.ref 114), some (.int x), some (.int w), none, none] [] (am_L0 q, G) _
    simp only [am_s182_0, am_s182_1, am_s182_2, am_s182_4, am_s182_7, am_s182_10, am_s182_11, am_s182_12, am_s182_13, am_s182_16, am_s182_19, am_s182_20, am_s182_22, am_s182_25, am_cal_ok am_cat_0 am_rcv_f (am_m125 (D := 98) _ _ _), h1, am_cal_ok am_cat_0 am_v114 (am_d1 (D := 98)), am_cal_ok am_cat_0 am_v114 (am_d2 (D := 98)), am_cal_ok am_cat_0 am_v114 (am_d3 (D := 98)), am_cal_ok am_cat_0 am_v114 (am_d4 (D := 98)), am_cal_ok am_cat_0 am_v114 (am_d5 (D := 98)), am_cal_ok am_cat_0 am_rcv_f (am_y125 _ _), am_cal_ok am_cat_0 am_rcv_f (am_m183 (D := 97) _), am_bI0, am_f114_0, am_er_f, am_sy_f, Bool.false_and, Bool.and_false, reduceCtorEq, not_false_eq_true, not_true_eq_false, eq_self, am_os_some, Option.toList_some, Option.toList_none, List.cons_append, List.nil_append, if_true, if_false, true_and, am_nw1_i, am_nw1_r, am_nw1_n, cond_true]
  · have h' : ¬ x < 1 ∧ x ≤ 99 := ⟨fun e => h (Or.inl e), Decidable.not_not.mp fun e => h (Or.inr e)⟩
    have h1 : (decide (¬ x < 1) && decide (x ≤ 99)) = true := by simp [h'.1, h'.2]
    cases h2 : am_wi w 1 with
    | false =>
      rw [if_pos (Or.inr rfl)]
      have h2' : (decide (¬ w < 0) && decide (w ≤ 1)) = false := h2
      refine am_rO_err (k := 1) (r := -1000000001) (by decide) am_ec1.symm fun X q G hc => am_CD_of (M := am_N182) rfl rfl ?_
      have hn : G 115 2 = nI (s.1.1 13 0) := hc.1.1.2.1
      show am_Rn _ _ ((Option.some FieldType.int)) am_J182 0 [some (.ref 114), some (.int x), some (.int w), none, none] [] (am_L0 q, G) _
      simp only [am_s182_0, am_s182_1, am_s182_2, am_s182_4, am_s182_7, am_s182_10, am_s182_11, am_s182_12, am_s182_13, am_s182_16, am_s182_19, am_s182_20, am_s182_22, am_s182_25, am_cal_ok am_cat_0 am_rcv_f (am_m125 (D := 98) _ _ _), h1, h2', am_cal_ok am_cat_0 am_v114 (am_d1 (D := 98)), am_cal_ok am_cat_0 am_v114 (am_d2 (D := 98)), am_cal_ok am_cat_0 am_v114 (am_d3 (D := 98)), am_cal_ok am_cat_0 am_v114 (am_d4 (D := 98)), am_cal_ok am_cat_0 am_v114 (am_d5 (D := 98)), am_cal_ok am_cat_0 am_rcv_f (am_y125 _ _), am_cal_ok am_cat_0 am_rcv_f (am_m183 (D := 97) _), am_bI0, am_f114_0, am_er_f, am_sy_f, Bool.false_and, Bool.and_false, reduceCtorEq, not_false_eq_true, not_true_eq_false, eq_self, am_os_some, Option.toList_some, Option.toList_none, List.cons_append, List.nil_append, if_true, if_false, true_and, am_nw1_i, am_nw1_r, am_nw1_n, cond_true]
    | true =>
      rw [if_neg (by simp only [h]; simp)]
      have h2' : (decide (¬ w < 0) && decide (w ≤ 1)) = true := h2
      have h0 : ¬ x < 0 := fun h => h'.1 (Int32.lt_trans h (by decide))
      obtain ⟨m, hm, rfl⟩ := nI_of2 (n := 99) (by decide) h0 h'.2
      rw [nI_clamp (show m < 2 ^ 31 by omega)]
      obtain ⟨w1, w2⟩ := am_wi_nI (n := 1) (by decide) h2
      generalize w.toNatClampNeg = w at w1 w2
      subst w2
      have key : ∀ (N : Nat) (xs : Nat → Int32) (q : Nat) (G : am_G), am_rfl G s → ∃ G3 : am_G, am_rfl G3 s ∧ (∀ i j, i < 114 → G3 i j = G i j) ∧ ∀ o, am_Rn (am_X0 N xs) 99 (some .int) am_J182 89 [some (.ref 114), some (.int (nI m)), some (.int (nI w)), some (.int (nI ((am_dth s.1.2.1 s.1.2.2.1 s.1.1 m 61 0).getD 61))), some (.int (nI (am_ft (am_days s.1.2.1 s.1.2.2.1 8 s.1.1 ((am_dth s.1.2.1 s.1.2.2.1 s.1.1 m 61 0).getD 61)) m (s.1.1 13 0) 0)))] [] (am_L0 q, G3) o → am_CD (am_X0 N xs) 100 182 [.ref 114, .int (nI m), .int (nI w)] (am_L0 q, G) = some o := fun N xs q G hc => by
        obtain ⟨G1, a1, b1, g1⟩ := am_m128 (X := am_X0 N xs) (D := 98) (q := q) (G := G) am_is5 am_is7 (by decide)
        have hc1 : am_rfl G1 s := am_rfl_fr hc fun i j _ b _ _ _ _ => a1 i j b
        obtain ⟨G2, f, c2, g2⟩ := am_l182 (X := am_X0 N xs) (q := q) (w := nI w) (y := none) (T := s.1.2.1) (U := s.1.2.2.1) hs.1.1 hD hm 61 0 G1 rfl (am_rfl_rc hc1)
        generalize (am_dth s.1.2.1 s.1.2.2.1 s.1.1 m 61 0).getD 61 = e at *
        have wd := am_wf_days (T := s.1.2.1) (U := s.1.2.2.1) (h := 8) hs.1.1 e
        have g181 := am_m181 (X := am_X0 N xs) (D := 97) (q := q) c2.1 wd.1 hm
        rw [wd.2.1] at g181
        obtain ⟨G3, a3, b3, g3⟩ := am_m128 (X := am_X0 N xs) (D := 98) (q := q) (G := G2) am_is7 am_is5 (by decide)
        obtain ⟨r1, r2⟩ := am_rback hc hs a1 b1 f a3 b3
        refine ⟨G3, r1, r2, fun o ho => am_CD_of (M := am_N182) rfl rfl ?_⟩
        show am_Rn _ _ ((Option.some FieldType.int)) am_J182 0 [some (.ref 114), some (.int (nI m)), some (.int (nI w)), none, none] [] (am_L0 q, G) _
        simp only [am_s182_0, am_s182_1, am_s182_2, am_s182_4, am_s182_7, am_s182_10, am_s182_11, am_s182_12, am_s182_13, am_s182_16, am_s182_19, am_s182_20, am_s182_22, am_s182_25, am_s182_26, am_s182_27, am_s182_28, am_s182_31, am_s182_32, am_s182_35, am_s182_38, am_s182_39, am_cal_ok am_cat_0 am_rcv_f (am_m125 (D := 98) _ _ _), h1, h2', am_f114_0, am_f114_2, am_cal_ok am_cat_0 am_v114 (g1), am_cal_ok am_cat_0 am_v114 (am_d1 (D := 98)), am_cal_ok am_cat_0 am_v114 (am_d2 (D := 98)), am_cal_ok am_cat_0 am_v114 (am_d3 (D := 98)), am_cal_ok am_cat_0 am_v114 (am_d4 (D := 98)), am_cal_ok am_cat_0 am_v114 (am_d5 (D := 98)), am_cal_ok am_cat_0 am_rcv_f (am_y125 _ _), am_cal_ok am_cat_0 am_rcv_f (am_m183 (D := 97) _), am_bI0, am_f114_0, am_er_f, am_sy_f, Bool.false_and, Bool.and_false, reduceCtorEq, not_false_eq_true, not_true_eq_false, eq_self, am_os_some, Option.toList_some, Option.toList_none, List.cons_append, List.nil_append, if_true, if_false, true_and, am_nw1_i, am_nw1_r, am_nw1_n, cond_true]
        rw [nI_0] at g2
        rw [g2]
        simp only [am_s182_70, am_s182_71, am_s182_72, am_s182_75, am_s182_77, am_s182_78, am_s182_79, am_s182_82, am_s182_83, am_s182_86, am_cal_ok am_cat_0 am_v114 (g181), am_f114_0, am_f114_2, am_cal_ok am_cat_0 am_v114 (g3), am_cal_ok am_cat_0 am_v114 (am_d1 (D := 98)), am_cal_ok am_cat_0 am_v114 (am_d2 (D := 98)), am_cal_ok am_cat_0 am_v114 (am_d3 (D := 98)), am_cal_ok am_cat_0 am_v114 (am_d4 (D := 98)), am_cal_ok am_cat_0 am_v114 (am_d5 (D := 98)), am_cal_ok am_cat_0 am_rcv_f (am_y125 _ _), am_cal_ok am_cat_0 am_rcv_f (am_m183 (D := 97) _), am_bI0, am_f114_0, am_er_f, am_sy_f, Bool.false_and, Bool.and_false, reduceCtorEq, not_false_eq_true, not_true_eq_false, eq_self, am_os_some, Option.toList_some, Option.toList_none, List.cons_append, List.nil_append, if_true, if_false, true_and, am_nw1_i, am_nw1_r, am_nw1_n, cond_true]
        exact ho
      cases hd : am_dth s.1.2.1 s.1.2.2.1 s.1.1 m 61 0 with
      | none =>
        dsimp only
        intro N xs q G hc
        obtain ⟨G3, r1, r2, hk⟩ := key N xs q G hc
        rw [hd] at hk
        refine ⟨am_up G3 119 2 (G3 119 2 + 1), fun i j hi => by rw [am_up_get, if_neg (by omega)]; exact r2 i j hi, am_rfl_E (by decide) r1, hk _ ?_⟩
        have j1 : ¬ nI 61 ≤ 60 := by decide +kernel
        simp only [am_s182_89, am_s182_90, am_s182_92, am_s182_95, am_s182_96, am_s182_98, am_s182_101, Option.getD_none, j1, am_er_f, am_ec2, am_cal_ok am_cat_0 am_v114 (am_d1 (D := 98)), am_cal_ok am_cat_0 am_v114 (am_d2 (D := 98)), am_cal_ok am_cat_0 am_v114 (am_d3 (D := 98)), am_cal_ok am_cat_0 am_v114 (am_d4 (D := 98)), am_cal_ok am_cat_0 am_v114 (am_d5 (D := 98)), am_cal_ok am_cat_0 am_rcv_f (am_y125 _ _), am_cal_ok am_cat_0 am_rcv_f (am_m183 (D := 97) _), am_bI0, am_f114_0, am_er_f, am_sy_f, Bool.false_and, Bool.and_false, reduceCtorEq, not_false_eq_true, not_true_eq_false, eq_self, am_os_some, Option.toList_some, Option.toList_none, List.cons_append, List.nil_append, if_true, if_false, true_and, am_nw1_i, am_nw1_r, am_nw1_n, cond_true]
      | some d =>
        dsimp only
        have hdl := am_dth_le _ _ hd
        have hlt := am_dth_lt _ _ hd
        intro N xs q G hc
        obtain ⟨G3, r1, r2, hk⟩ := key N xs q G hc
        rw [hd] at hk
        refine ⟨G3, r2, r1, hk _ ?_⟩
        have j1 : nI d ≤ 60 := nI_le (b := 60) (by omega) (by decide)
        rw [if_pos hlt]
        by_cases c : w = 0
        · subst c
          have e0 : (nI 0 = 0) = True := by decide
          simp only [am_s182_89, am_s182_90, am_s182_92, am_s182_95, am_s182_96, am_s182_98, am_s182_101, am_s182_102, am_s182_103, am_s182_106, am_s182_107, am_s182_110, am_s182_112, Option.getD_some, j1, e0, not_true_eq_false, am_cal_ok am_cat_0 am_v114 (am_d1 (D := 98)), am_cal_ok am_cat_0 am_v114 (am_d2 (D := 98)), am_cal_ok am_cat_0 am_v114 (am_d3 (D := 98)), am_cal_ok am_cat_0 am_v114 (am_d4 (D := 98)), am_cal_ok am_cat_0 am_v114 (am_d5 (D := 98)), am_cal_ok am_cat_0 am_rcv_f (am_y125 _ _), am_cal_ok am_cat_0 am_rcv_f (am_m183 (D := 97) _), am_bI0, am_f114_0, am_er_f, am_sy_f, Bool.false_and, Bool.and_false, reduceCtorEq, not_false_eq_true, not_true_eq_false, eq_self, am_os_some, Option.toList_some, Option.toList_none, List.cons_append, List.nil_append, if_true, if_false, true_and, am_nw1_i, am_nw1_r, am_nw1_n, cond_true]
          all_goals rfl
        · have e0 : ¬ nI w = 0 := nI_ne0 (by omega) (by omega)
          simp only [am_s182_89, am_s182_90, am_s182_92, am_s182_95, am_s182_96, am_s182_98, am_s182_101, am_s182_102, am_s182_103, am_s182_106, am_s182_107, am_s182_110, am_s182_112, Option.getD_some, j1, e0, nI_clamp (show w < 2 ^ 31 by omega), c, not_false_eq_true, am_cal_ok am_cat_0 am_v114 (am_d1 (D := 98)), am_cal_ok am_cat_0 am_v114 (am_d2 (D := 98)), am_cal_ok am_cat_0 am_v114 (am_d3 (D := 98)), am_cal_ok am_cat_0 am_v114 (am_d4 (D := 98)), am_cal_ok am_cat_0 am_v114 (am_d5 (D := 98)), am_cal_ok am_cat_0 am_rcv_f (am_y125 _ _), am_cal_ok am_cat_0 am_rcv_f (am_m183 (D := 97) _), am_bI0, am_f114_0, am_er_f, am_sy_f, Bool.false_and, Bool.and_false, reduceCtorEq, not_false_eq_true, not_true_eq_false, eq_self, am_os_some, Option.toList_some, Option.toList_none, List.cons_append, List.nil_append, if_true, if_false, true_and, am_nw1_i, am_nw1_r, am_nw1_n, cond_true]
          all_goals rfl
theorem am_l196 (hw : am_wf S) (hD : S 13 1 ≤ 9999) : ∀ (d n : Nat) (G : am_G), n + d = 61 → am_rc G (am_days T U 8 S n) T U (-1) → ∃ G' : am_G, am_frs G G' ∧ am_rc G' (am_days T U 8 S ((am_dd T U S d n).getD 61)) T U (-1) ∧ ∀ o, am_Rn X 99 (some .int) am_J196 14 [some (.ref 114), some (.int (nI n))] [] (am_L0 q, G) o = am_Rn X 99 (some .int) am_J196 37 [some (.ref 114), some (.int (nI ((am_dd T U S d n).getD 61)))] [] (am_L0 q, G') o := by
  have h8 := hw.1
  intro d
  induction d with
  | zero =>
    intro n G hn h
    obtain rfl : n = 61 := by omega
    have h1 : ¬ nI 61 ≤ 60 := by decide +kernel
    refine ⟨G, (am_frw.rf G).s, h, fun o => ?_⟩
    simp only [am_s196_14, am_s196_15, am_s196_17, h1, am_dd, Option.getD_none, eq_self, am_os_some, Option.toList_some, Option.toList_none, List.cons_append, List.nil_append, if_true, if_false, true_and, am_nw1_i, am_nw1_r, am_nw1_n, cond_true]
  | succ d ih =>
    intro n G hn h
    have h1 : nI n ≤ 60 := nI_le (b := 60) (by omega) (by decide)
    have hi : nI n + 1 = nI (n + 1) := nI_add n 1
    have wd := am_wf_days (T := T) (U := U) (h := 8) hw n
    obtain ⟨G1, f1, g1⟩ := am_m190 (X := X) (D := 50) (q := q) h wd.1.1 (by rw [wd.2.2]; omega)
    rw [wd.2.1] at g1
    have hc1 := h.fr f1
    unfold am_dd
    by_cases c : am_gs T (am_days T U 8 S n) (S 13 0) = 0
    · rw [if_pos c]
      rw [c] at g1
      refine ⟨G1, f1.s, hc1, fun o => ?_⟩
      simp only [am_s196_14, am_s196_15, am_s196_17, am_s196_20, am_s196_21, am_s196_24, h1, am_cal_ok am_cat_0 am_v114 (g1), Option.getD_some, not_true_eq_false, eq_self, am_os_some, Option.toList_some, Option.toList_none, List.cons_append, List.nil_append, if_true, if_false, true_and, am_nw1_i, am_nw1_r, am_nw1_n, cond_true]
    · rw [if_neg c]
      obtain ⟨G2, f2, c2, g2⟩ := am_m166 (X := X) (D := 49) (q := q) (G := G1) hc1 wd.1 (by rw [wd.2.2]; omega) am_hm1
      obtain ⟨G', f3, c3, g3⟩ := ih (n + 1) G2 (by omega) c2
      refine ⟨G', (f1.s.tr f2).tr f3, c3, fun o => ?_⟩
      simp only [am_s196_14, am_s196_15, am_s196_17, am_s196_20, am_s196_21, am_s196_24, am_s196_27, am_s196_28, am_s196_31, h1, am_cal_ok am_cat_0 am_v114 (g1), c, am_cal_ok am_cat_0 am_v114 (g2), not_false_eq_true, eq_self, am_os_some, Option.toList_some, Option.toList_none, List.cons_append, List.nil_append, if_true, if_false, true_and, am_nw1_i, am_nw1_r, am_nw1_n, cond_true]
      rw [am_s196_34, hi]
      exact g3 o
theorem am_r196 {s : am_St} (hs : am_oks s) : am_rO 196 [] s (am_O103 s) := by
  unfold am_O103
  have h8 := hs.1.1.1
  have hD := hs.1.2.1
  have key : ∀ (N : Nat) (xs : Nat → Int32) (q : Nat) (G : am_G), am_rfl G s → ∃ G3 : am_G, am_rfl G3 s ∧ (∀ i j, i < 114 → G3 i j = G i j) ∧ ∀ o, am_Rn (am_X0 N xs) 99 (some .int) am_J196 49 [some (.ref 114), some (.int (nI ((am_dd s.1.2.1 s.1.2.2.1 s.1.1 61 0).getD 61)))] [] (am_L0 q, G3) o → am_CD (am_X0 N xs) 100 196 [.ref 114] (am_L0 q, G) = some o := fun N xs q G hc => by
    obtain ⟨G1, a1, b1, g1⟩ := am_m128 (X := am_X0 N xs) (D := 98) (q := q) (G := G) am_is5 am_is7 (by decide)
    have hc1 : am_rfl G1 s := am_rfl_fr hc fun i j _ b _ _ _ _ => a1 i j b
    obtain ⟨G2, f, c2, g2⟩ := am_l196 (X := am_X0 N xs) (q := q) (T := s.1.2.1) (U := s.1.2.2.1) hs.1.1 hD 61 0 G1 rfl (am_rfl_rc hc1)
    obtain ⟨G3, a3, b3, g3⟩ := am_m128 (X := am_X0 N xs) (D := 98) (q := q) (G := G2) am_is7 am_is5 (by decide)
    obtain ⟨r1, r2⟩ := am_rback hc hs a1 b1 f a3 b3
    refine ⟨G3, r1, r2, fun o ho => am_CD_of (M := am_N196) rfl rfl ?_⟩
    show am_Rn _ _ ((Option.some FieldType.int)) am_J196 0 [some (.ref 114), none] [] (am_L0 q, G) _
    simp only [am_s196_0, am_s196_1, am_s196_2, am_s196_5, am_s196_6, am_s196_9, am_s196_12, am_s196_13, am_f114_0, am_f114_2, am_cal_ok am_cat_0 am_v114 (g1), am_cal_ok am_cat_0 am_v114 (am_d1 (D := 98)), am_cal_ok am_cat_0 am_v114 (am_d2 (D := 98)), am_cal_ok am_cat_0 am_v114 (am_d3 (D := 98)), am_cal_ok am_cat_0 am_v114 (am_d4 (D := 98)), am_cal_ok am_cat_0 am_v114 (am_d5 (D := 98)), am_cal_ok am_cat_0 am_rcv_f (am_y125 _ _), am_cal_ok am_cat_0 am_rcv_f (am_m183 (D := 97) _), am_bI0, am_f114_0, am_er_f, am_sy_f, Bool.false_and, Bool.and_false, reduceCtorEq, not_false_eq_true, not_true_eq_false, eq_self, am_os_some, Option.toList_some, Option.toList_none, List.cons_append, List.nil_append, if_true, if_false, true_and, am_nw1_i, am_nw1_r, am_nw1_n, cond_true]
    rw [nI_0] at g2
    rw [g2]
    simp only [am_s196_37, am_s196_38, am_s196_39, am_s196_42, am_s196_43, am_s196_46, am_f114_0, am_f114_2, am_cal_ok am_cat_0 am_v114 (g3), am_cal_ok am_cat_0 am_v114 (am_d1 (D := 98)), am_cal_ok am_cat_0 am_v114 (am_d2 (D := 98)), am_cal_ok am_cat_0 am_v114 (am_d3 (D := 98)), am_cal_ok am_cat_0 am_v114 (am_d4 (D := 98)), am_cal_ok am_cat_0 am_v114 (am_d5 (D := 98)), am_cal_ok am_cat_0 am_rcv_f (am_y125 _ _), am_cal_ok am_cat_0 am_rcv_f (am_m183 (D := 97) _), am_bI0, am_f114_0, am_er_f, am_sy_f, Bool.false_and, Bool.and_false, reduceCtorEq, not_false_eq_true, not_true_eq_false, eq_self, am_os_some, Option.toList_some, Option.toList_none, List.cons_append, List.nil_append, if_true, if_false, true_and, am_nw1_i, am_nw1_r, am_nw1_n, cond_true]
    exact ho
  cases hd : am_dd s.1.2.1 s.1.2.2.1 s.1.1 61 0 with
  | none =>
    dsimp only
    intro N xs q G hc
    obtain ⟨G3, r1, r2, hk⟩ := key N xs q G hc
    rw [hd] at hk
    refine ⟨am_up G3 119 2 (G3 119 2 + 1), fun i j hi => by rw [am_up_get, if_neg (by omega)]; exact r2 i j hi, am_rfl_E (by decide) r1, hk _ ?_⟩
    have j1 : ¬ nI 61 ≤ 60 := by decide +kernel
    simp only [am_s196_49, am_s196_50, am_s196_52, am_s196_55, am_s196_56, am_s196_58, am_s196_61, am_s196_64, am_s196_65, Option.getD_none, j1, am_er_f, am_ec2, am_cal_ok am_cat_0 am_v114 (am_d1 (D := 98)), am_cal_ok am_cat_0 am_v114 (am_d2 (D := 98)), am_cal_ok am_cat_0 am_v114 (am_d3 (D := 98)), am_cal_ok am_cat_0 am_v114 (am_d4 (D := 98)), am_cal_ok am_cat_0 am_v114 (am_d5 (D := 98)), am_cal_ok am_cat_0 am_rcv_f (am_y125 _ _), am_cal_ok am_cat_0 am_rcv_f (am_m183 (D := 97) _), am_bI0, am_f114_0, am_er_f, am_sy_f, Bool.false_and, Bool.and_false, reduceCtorEq, not_false_eq_true, not_true_eq_false, eq_self, am_os_some, Option.toList_some, Option.toList_none, List.cons_append, List.nil_append, if_true, if_false, true_and, am_nw1_i, am_nw1_r, am_nw1_n, cond_true]
  | some d =>
    dsimp only
    have hdl := am_dd_le _ _ hd
    intro N xs q G hc
    obtain ⟨G3, r1, r2, hk⟩ := key N xs q G hc
    rw [hd] at hk
    refine ⟨G3, r2, r1, hk _ ?_⟩
    have j1 : nI d ≤ 60 := nI_le (b := 60) (by omega) (by decide)
    simp only [am_s196_49, am_s196_50, am_s196_52, am_s196_55, am_s196_56, am_s196_58, am_s196_61, am_s196_64, am_s196_65, Option.getD_some, j1, am_cal_ok am_cat_0 am_v114 (am_d1 (D := 98)), am_cal_ok am_cat_0 am_v114 (am_d2 (D := 98)), am_cal_ok am_cat_0 am_v114 (am_d3 (D := 98)), am_cal_ok am_cat_0 am_v114 (am_d4 (D := 98)), am_cal_ok am_cat_0 am_v114 (am_d5 (D := 98)), am_cal_ok am_cat_0 am_rcv_f (am_y125 _ _), am_cal_ok am_cat_0 am_rcv_f (am_m183 (D := 97) _), am_bI0, am_f114_0, am_er_f, am_sy_f, Bool.false_and, Bool.and_false, reduceCtorEq, not_false_eq_true, not_true_eq_false, eq_self, am_os_some, Option.toList_some, Option.toList_none, List.cons_append, List.nil_append, if_true, if_false, true_and, am_nw1_i, am_nw1_r, am_nw1_n, cond_true]
end AMRL3
