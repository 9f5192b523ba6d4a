/-! THE REFERENCE: check, count -/
theorem am_wi_sw {v M : Int32} {n : Nat} (hM : M.toInt = n) (h : am_wi v M = false) : (decide (v.toInt < 0) || decide ((n : Int) < v.toInt)) = true := by
  unfold am_wi at h
  by_cases a : v < 0
  · have e0 : (0 : Int32).toInt = 0 := by decide +kernel
    have := Int32.lt_iff_toInt_lt.mp a
    rw [e0] at this
    rw [decide_eq_true this]
    rfl
  · by_cases b : v ≤ M
    · simp [a, b] at h
    · have h2 : ¬ v.toInt ≤ M.toInt := fun e => b (Int32.le_iff_toInt_le.mpr e)
      have : (n : Int) < v.toInt := by omega
      rw [decide_eq_true this, Bool.or_true]
section AMRM4
variable {X : am_X} {D q : Nat} {S : am_S} {T U : am_T}
theorem am_l214 (hw : am_wf S) (hD : S 13 1 ≤ 9999) {V : Nat → Int32} {m : Nat} (hm : m ≤ 20) : ∀ (d k : Nat) (G : am_G), k + d = m → am_rc G (am_days T U 8 S k) T U (-1) → (∀ j, j < m → G 115 (161 + j) = V j) → ∃ G' : am_G, am_frs G G' ∧ ∀ o, am_Rn X 99 (some .int) am_J214 30 [some (.ref 114), some (.int (nI m)), some (.int (nI k)), some (.int 1)] [] (am_L0 q, G) o = am_Rn X 99 (some .int) am_J214 82 [some (.ref 114), some (.int (nI m)), some (.int (nI ((am_fu T U S V d k).getD m))), some (.int (am_bI (am_fu T U S V d k).isNone))] [] (am_L0 q, G') o := by
  have h8 := hw.1
  have e10 : ((1 : Int32) = 0) = False := by decide
  intro d
  induction d with
  | zero =>
    intro k G hk h hV
    obtain rfl : k = m := by omega
    have h1 : ¬ nI k < nI k := Int32.lt_irrefl
    refine ⟨G, (am_frw.rf G).s, fun o => ?_⟩
    have e : am_bI (none : Option Nat).isNone = 1 := rfl
    simp only [am_s214_30, am_s214_31, am_s214_32, am_s214_35, am_s214_36, h1, am_fu, Option.getD_none, e, eq_self, am_os_some, Option.toList_some, Option.toList_none, List.cons_append, List.nil_append, if_true, if_false, true_and, am_nw1_i, am_nw1_r, am_nw1_n, cond_true]
  | succ d ih =>
    intro k G hk h hV
    have h1 : nI k < nI m := nI_lt (by omega) (by omega)
    have hi : nI k + 1 = nI (k + 1) := nI_add k 1
    have hi0 : nI k + 0 = nI k := nI_add k 0
    have wd := am_wf_days (T := T) (U := U) (h := 8) hw k
    obtain ⟨G1, f1, c1, g1⟩ := am_m166 (X := X) (D := 49) (q := q) (G := G) h wd.1 (by rw [wd.2.2]; omega) am_hm1
    have wd1 := am_wf_days (T := T) (U := U) (h := 8) hw (k + 1)
    have g168 := am_m168 (X := X) (D := 97) (q := q) (G := G1) (S := am_days T U 8 S (k + 1)) (f := 3) c1.1 (by rw [wd1.2.1]; exact h8) (by decide)
    rw [wd1.2.1] at g168
    have g168' : am_CD X 99 168 [.ref 114, .int 3] (am_L0 q, G1) = _ := g168
    have hV1 : ∀ j, j < m → G1 115 (161 + j) = V j := fun j hj => (f1.2 (161 + j) (by omega) (by omega)).trans (hV j hj)
    have kv := hV1 k (by omega)
    have s161 : (161 : Int32) + nI k = nI (161 + k) := nI_add 161 k
    unfold am_fu
    by_cases c : nI (am_sum (am_days T U 8 S (k + 1)) 3 (S 13 0)) = V k
    · rw [if_pos c]
      rw [c] at g168'
      obtain ⟨G', f2, g2⟩ := ih (k + 1) G1 (by omega) c1 hV1
      refine ⟨G', f1.tr f2, fun o => ?_⟩
      simp only [am_s214_30, am_s214_31, am_s214_32, am_s214_35, am_s214_36, am_s214_39, am_s214_40, am_s214_43, am_s214_44, am_s214_45, am_s214_48, am_s214_49, am_s214_52, am_s214_55, am_s214_56, am_s214_57, am_s214_58, am_s214_61, am_s214_62, am_s214_65, am_s214_66, am_s214_67, am_s214_68, am_s214_69, am_s214_72, am_s214_73, am_s214_76, am_s214_77, am_s214_78, h1, e10, am_cal_ok am_cat_0 am_v114 (g1), am_cal_ok am_cat_0 am_v114 (g168'), am_f114_0, s161, am_r115 (show 161 + k < 281 by omega), kv, hi, not_true_eq_false, not_false_eq_true, eq_self, am_os_some, Option.toList_some, Option.toList_none, List.cons_append, List.nil_append, if_true, if_false, true_and, am_nw1_i, am_nw1_r, am_nw1_n, cond_true]
      rw [am_s214_79]
      exact g2 o
    · rw [if_neg c]
      refine ⟨G1, f1, fun o => ?_⟩
      have e : am_bI (some k).isNone = 0 := rfl
      simp only [am_s214_30, am_s214_31, am_s214_32, am_s214_35, am_s214_36, am_s214_39, am_s214_40, am_s214_43, am_s214_44, am_s214_45, am_s214_48, am_s214_49, am_s214_52, am_s214_55, am_s214_56, am_s214_57, am_s214_58, am_s214_61, am_s214_62, am_s214_65, am_s214_66, am_s214_67, am_s214_68, am_s214_69, am_s214_72, am_s214_73, am_s214_76, am_s214_77, am_s214_78, h1, e10, am_cal_ok am_cat_0 am_v114 (g1), am_cal_ok am_cat_0 am_v114 (g168'), am_f114_0, s161, am_r115 (show 161 + k < 281 by omega), kv, c, hi0, Option.getD_some, e, not_true_eq_false, not_false_eq_true, eq_self, am_os_some, Option.toList_some, Option.toList_none, List.cons_append, List.nil_append, if_true, if_false, true_and, am_nw1_i, am_nw1_r, am_nw1_n, cond_true]
      rw [am_s214_79]
      simp only [am_s214_30, am_s214_31, am_s214_32, am_s214_35, am_s214_36, h1, not_true_eq_false, eq_self, am_os_some, Option.toList_some, Option.toList_none, List.cons_append, List.nil_append, if_true, if_false, true_and, am_nw1_i, am_nw1_r, am_nw1_n, cond_true]
theorem am_rfl_V0 {G : am_G} {s : am_St} (hc : am_rfl G s) : am_rfl (am_up G 115 4 0) (am_sV (s.1.2.2.2.2.1.1, 0) s) := by
  refine am_rfl_W hc (fun i j _ b _ _ _ _ _ => by rw [am_up_get, if_neg b]) ?_
  rw [am_up_row]
  obtain ⟨a1, a2, a3, ⟨a4, a5⟩, ⟨a6, a7⟩, a8⟩ := hc.1
  have f : ∀ j, j ≠ 4 → am_ru (G 115) 4 0 j = G 115 j := fun j x => by rw [am_ru_get, if_neg x]
  have fx : ∀ u T, u < 2 → am_rx (G 115) u T → am_rx (am_ru (G 115) 4 0) u T := fun u T hu h => by
    rcases h with ⟨h1, h2⟩ | ⟨B, n, h1, h2, h3, h4⟩
    · exact Or.inl ⟨h1, by rw [f _ (by omega)]; exact h2⟩
    · exact Or.inr ⟨B, n, h1, by rw [f _ (by omega)]; exact h2, fun j hj => by rw [f _ (by omega)]; exact h3 j hj, h4⟩
  exact ⟨⟨by rw [f _ (by decide)]; exact a1.1, by rw [f _ (by decide)]; exact a1.2.1, fun p g hp hg => by rw [f _ (by omega)]; exact a1.2.2.1 p g hp hg, fun a b ha hb => by rw [f _ (by omega)]; exact a1.2.2.2 a b ha hb⟩, fx 0 _ (by decide) a2, fx 1 _ (by decide) a3, ⟨by rw [f _ (by decide)]; exact a4, fun j hj => by have hj' : j < s.1.2.2.2.1.2 := hj; rw [f _ (by omega)]; exact a5 j hj⟩, ⟨by rw [am_ru_get, if_pos rfl]; rfl, fun j hj => absurd hj (Nat.not_lt_zero j)⟩, by rw [f _ (by decide)]; exact a8⟩
theorem am_r214 {s : am_St} (hs : am_oks s) : am_rO 214 [] s (am_O115 s) := by
  have h8 := hs.1.1.1
  have hD := hs.1.2.1
  have hm := hs.1.2.2.2.2.2.2
  have hs1 : am_oks (am_sV (s.1.2.2.2.2.1.1, 0) s) := am_oks_115 hs
  unfold am_O115
  intro N xs q G hc
  have k4 : G 115 4 = nI s.1.2.2.2.2.1.2 := hc.1.2.2.2.2.1.1
  have kV := hc.1.2.2.2.2.1.2
  have hc0 := am_rfl_V0 hc
  generalize hG0 : am_up G 115 4 0 = G0 at hc0
  have f0 : ∀ i j, (i = 115 → j ≠ 4) → G0 i j = G i j := fun i j h => by
    rw [← hG0, am_up_get]
    split
    · rw [if_neg (h (by assumption))]
    · rfl
  obtain ⟨G1, a1, b1, g1⟩ := am_m128 (X := am_X0 N xs) (D := 98) (q := q) (G := G0) am_is5 am_is7 (by decide)
  have hc1 : am_rfl G1 (am_sV (s.1.2.2.2.2.1.1, 0) s) := am_rfl_fr hc0 fun i j _ b _ _ _ _ => a1 i j b
  have rc1 : am_rc G1 s.1.1 s.1.2.1 s.1.2.2.1 (-1) := am_rfl_rc (s := am_sV (s.1.2.2.2.2.1.1, 0) s) hc1
  obtain ⟨G2, f, g2⟩ := am_l214 (X := am_X0 N xs) (q := q) (T := s.1.2.1) (U := s.1.2.2.1) (V := s.1.2.2.2.2.1.1) hs.1.1 hD hm s.1.2.2.2.2.1.2 0 G1 (by omega) rc1 (fun j hj => by rw [a1 115 _ (by decide), f0 _ _ (fun _ => by omega)]; exact kV j hj)
  obtain ⟨G3, a3, b3, g3⟩ := am_m128 (X := am_X0 N xs) (D := 98) (q := q) (G := G2) am_is7 am_is5 (by decide)
  obtain ⟨r1, r2⟩ := am_rback hc0 hs1 a1 b1 f a3 b3
  refine ⟨G3, fun i j hi => (r2 i j hi).trans (f0 i j (fun e => by omega)), r1, am_CD_of (M := am_N214) rfl rfl ?_⟩
  show am_Rn _ _ ((Option.some FieldType.int)) am_J214 0 [some (.ref 114), none, none, none] [] (am_L0 q, G) _
  simp only [am_s214_0, am_s214_1, am_s214_4, am_s214_5, am_s214_6, am_s214_7, am_s214_8, am_s214_11, am_s214_12, am_s214_13, am_s214_14, am_s214_15, am_s214_16, am_s214_19, am_s214_20, am_s214_23, am_s214_26, am_s214_27, am_s214_28, am_s214_29, am_f114_0, am_f114_2, am_r115_4, am_w115_4, k4, hG0, am_cal_ok am_cat_0 am_v114 (g1), am_cal_ok am_cat_0 am_v114 (am_d1 (D := 98)), am_cal_ok am_cat_0 am_v114 (am_d2 (D := 98)), am_cal_ok am_cat_0 am_v114 (am_d3 (D := 98)), am_cal_ok am_cat_0 am_v114 (am_d4 (D := 98)), am_cal_ok am_cat_0 am_v114 (am_d5 (D := 98)), am_cal_ok am_cat_0 am_rcv_f (am_y125 _ _), am_cal_ok am_cat_0 am_rcv_f (am_m183 (D := 97) _), am_bI0, am_f114_0, am_er_f, am_sy_f, Bool.false_and, Bool.and_false, reduceCtorEq, not_false_eq_true, not_true_eq_false, eq_self, am_os_some, Option.toList_some, Option.toList_none, List.cons_append, List.nil_append, if_true, if_false, true_and, am_nw1_i, am_nw1_r, am_nw1_n, cond_true]
  rw [nI_0] at g2
  rw [g2]
  cases hd : am_fu s.1.2.1 s.1.2.2.1 s.1.1 s.1.2.2.2.2.1.1 s.1.2.2.2.2.1.2 0 with
  | none =>
    have e : am_bI (none : Option Nat).isNone = 1 := rfl
    have e10 : ((1 : Int32) = 0) = False := by decide
    simp only [am_s214_82, am_s214_83, am_s214_84, am_s214_87, am_s214_88, am_s214_91, am_s214_94, am_s214_95, am_s214_98, am_s214_99, am_s214_102, am_s214_103, am_s214_104, am_s214_105, am_f114_0, am_f114_2, am_cal_ok am_cat_0 am_v114 (g3), e, e10, not_false_eq_true, am_cal_ok am_cat_0 am_v114 (am_d1 (D := 98)), am_cal_ok am_cat_0 am_v114 (am_d2 (D := 98)), am_cal_ok am_cat_0 am_v114 (am_d3 (D := 98)), am_cal_ok am_cat_0 am_v114 (am_d4 (D := 98)), am_cal_ok am_cat_0 am_v114 (am_d5 (D := 98)), am_cal_ok am_cat_0 am_rcv_f (am_y125 _ _), am_cal_ok am_cat_0 am_rcv_f (am_m183 (D := 97) _), am_bI0, am_f114_0, am_er_f, am_sy_f, Bool.false_and, Bool.and_false, reduceCtorEq, not_false_eq_true, not_true_eq_false, eq_self, am_os_some, Option.toList_some, Option.toList_none, List.cons_append, List.nil_append, if_true, if_false, true_and, am_nw1_i, am_nw1_r, am_nw1_n, cond_true]
  | some d =>
    have e : am_bI (some d).isNone = 0 := rfl
    simp only [am_s214_82, am_s214_83, am_s214_84, am_s214_87, am_s214_88, am_s214_91, am_s214_94, am_s214_95, am_s214_98, am_s214_99, am_s214_102, am_s214_103, am_s214_104, am_s214_105, am_f114_0, am_f114_2, am_cal_ok am_cat_0 am_v114 (g3), e, Option.getD_some, not_true_eq_false, am_cal_ok am_cat_0 am_v114 (am_d1 (D := 98)), am_cal_ok am_cat_0 am_v114 (am_d2 (D := 98)), am_cal_ok am_cat_0 am_v114 (am_d3 (D := 98)), am_cal_ok am_cat_0 am_v114 (am_d4 (D := 98)), am_cal_ok am_cat_0 am_v114 (am_d5 (D := 98)), am_cal_ok am_cat_0 am_rcv_f (am_y125 _ _), am_cal_ok am_cat_0 am_rcv_f (am_m183 (D := 97) _), am_bI0, am_f114_0, am_er_f, am_sy_f, Bool.false_and, Bool.and_false, reduceCtorEq, not_false_eq_true, not_true_eq_false, eq_self, am_os_some, Option.toList_some, Option.toList_none, List.cons_append, List.nil_append, if_true, if_false, true_and, am_nw1_i, am_nw1_r, am_nw1_n, cond_true]
theorem am_r215 {w : Int32} {s : am_St} (hs : am_oks s) : am_rO 215 [.int w] s (am_O116 w s) := by
  unfold am_O116
  have h8 := hs.1.1.1
  have hD := hs.1.2.1
  cases h1 : am_wi w 9 with
  | false =>
    have hsw := am_wi_sw (n := 9) (by decide) h1
    have ht : am_tsw 1 117 0 9 #[55, 62, 69, 75, 81, 86, 91, 98, 105, 110] w = some 118 := by
      unfold am_tsw
      rw [show (decide (w.toInt < 0) || decide (9 < w.toInt)) = true from hsw]
      rfl
    refine am_rO_err (k := 1) (r := -1000000001) (by decide) am_ec1.symm fun X q G hc => am_CD_of (M := am_N215) rfl rfl ?_
    have hn : G 115 2 = nI (s.1.1 13 0) := hc.1.1.2.1
    show am_Rn _ _ ((Option.some FieldType.int)) am_J215 0 [some (.ref 114), some (.int w)] [] (am_L0 q, G) _
    simp only [am_s215_0, am_s215_1, am_s215_118, am_s215_119, am_s215_121, am_s215_124, ht, am_cal_ok am_cat_0 am_v114 (am_d1 (D := 98)), am_cal_ok am_cat_0 am_v114 (am_d2 (D := 98)), am_cal_ok am_cat_0 am_v114 (am_d3 (D := 98)), am_cal_ok am_cat_0 am_v114 (am_d4 (D := 98)), am_cal_ok am_cat_0 am_v114 (am_d5 (D := 98)), am_cal_ok am_cat_0 am_rcv_f (am_y125 _ _), am_cal_ok am_cat_0 am_rcv_f (am_m183 (D := 97) _), am_bI0, am_f114_0, am_er_f, am_sy_f, Bool.false_and, Bool.and_false, reduceCtorEq, not_false_eq_true, not_true_eq_false, eq_self, am_os_some, Option.toList_some, Option.toList_none, List.cons_append, List.nil_append, if_true, if_false, true_and, am_nw1_i, am_nw1_r, am_nw1_n, cond_true]
  | true =>
    rw [if_neg (by decide)]
    obtain ⟨w1, w2⟩ := am_wi_nI (n := 9) (by decide) h1
    generalize w.toNatClampNeg = w at w1 w2
    subst w2
    refine am_rO_same fun N xs q G hc => ?_
    have hn : G 115 2 = nI (s.1.1 13 0) := hc.1.1.2.1
    have k0 : G 115 0 = nI (s.1.1 13 1) := hc.1.1.1
    have pre : ∀ (t : Nat) (r : Value) (G1 : am_G), am_tsw 1 117 0 9 #[55, 62, 69, 75, 81, 86, 91, 98, 105, 110] (nI w) = some t → am_Rn (am_X0 N xs) 99 (some .int) am_J215 t [some (.ref 114), some (.int (nI w))] [] (am_L0 q, G) (some r, (am_L0 q, G1)) → am_CD (am_X0 N xs) 100 215 [.ref 114, .int (nI w)] (am_L0 q, G) = some (some r, (am_L0 q, G1)) := fun t r G1 ht h => by
      refine am_CD_of (M := am_N215) rfl rfl ?_
      show am_Rn _ _ ((Option.some FieldType.int)) am_J215 0 [some (.ref 114), some (.int (nI w))] [] (am_L0 q, G) _
      simp only [am_s215_0, am_s215_1, ht, am_cal_ok am_cat_0 am_v114 (am_d1 (D := 98)), am_cal_ok am_cat_0 am_v114 (am_d2 (D := 98)), am_cal_ok am_cat_0 am_v114 (am_d3 (D := 98)), am_cal_ok am_cat_0 am_v114 (am_d4 (D := 98)), am_cal_ok am_cat_0 am_v114 (am_d5 (D := 98)), am_cal_ok am_cat_0 am_rcv_f (am_y125 _ _), am_cal_ok am_cat_0 am_rcv_f (am_m183 (D := 97) _), am_bI0, am_f114_0, am_er_f, am_sy_f, Bool.false_and, Bool.and_false, reduceCtorEq, not_false_eq_true, not_true_eq_false, eq_self, am_os_some, Option.toList_some, Option.toList_none, List.cons_append, List.nil_append, if_true, if_false, true_and, am_nw1_i, am_nw1_r, am_nw1_n, cond_true]
      exact h
    match w, w1, pre with
    | 0, _, pre =>
      refine ⟨G, fun _ _ _ => rfl, fun _ _ _ _ _ _ _ _ => rfl, pre 56 _ _ (by decide +kernel) ?_⟩
      simp only [am_s215_56, am_s215_57, am_s215_60, am_s215_61, am_s215_62, am_f114_0, am_r115_2, hn, am_cal_ok am_cat_0 am_v114 (am_d1 (D := 98)), am_cal_ok am_cat_0 am_v114 (am_d2 (D := 98)), am_cal_ok am_cat_0 am_v114 (am_d3 (D := 98)), am_cal_ok am_cat_0 am_v114 (am_d4 (D := 98)), am_cal_ok am_cat_0 am_v114 (am_d5 (D := 98)), am_cal_ok am_cat_0 am_rcv_f (am_y125 _ _), am_cal_ok am_cat_0 am_rcv_f (am_m183 (D := 97) _), am_bI0, am_f114_0, am_er_f, am_sy_f, Bool.false_and, Bool.and_false, reduceCtorEq, not_false_eq_true, not_true_eq_false, eq_self, am_os_some, Option.toList_some, Option.toList_none, List.cons_append, List.nil_append, if_true, if_false, true_and, am_nw1_i, am_nw1_r, am_nw1_n, cond_true]
      all_goals rfl
    | 1, _, pre =>
      refine ⟨G, fun _ _ _ => rfl, fun _ _ _ _ _ _ _ _ => rfl, pre 63 _ _ (by decide +kernel) ?_⟩
      simp only [am_s215_63, am_s215_64, am_s215_67, am_s215_68, am_s215_69, am_f114_0, am_r115_0, k0, am_cal_ok am_cat_0 am_v114 (am_d1 (D := 98)), am_cal_ok am_cat_0 am_v114 (am_d2 (D := 98)), am_cal_ok am_cat_0 am_v114 (am_d3 (D := 98)), am_cal_ok am_cat_0 am_v114 (am_d4 (D := 98)), am_cal_ok am_cat_0 am_v114 (am_d5 (D := 98)), am_cal_ok am_cat_0 am_rcv_f (am_y125 _ _), am_cal_ok am_cat_0 am_rcv_f (am_m183 (D := 97) _), am_bI0, am_f114_0, am_er_f, am_sy_f, Bool.false_and, Bool.and_false, reduceCtorEq, not_false_eq_true, not_true_eq_false, eq_self, am_os_some, Option.toList_some, Option.toList_none, List.cons_append, List.nil_append, if_true, if_false, true_and, am_nw1_i, am_nw1_r, am_nw1_n, cond_true]
      all_goals rfl
    | 2, _, pre =>
      have g168 : am_CD (am_X0 N xs) 99 168 [.ref 114, .int 3] (am_L0 q, G) = _ := am_m168 (X := am_X0 N xs) (D := 97) (q := q) (f := 3) hc.1.1 h8 (by decide)
      refine ⟨G, fun _ _ _ => rfl, fun _ _ _ _ _ _ _ _ => rfl, pre 70 _ _ (by decide +kernel) ?_⟩
      simp only [am_s215_70, am_s215_71, am_s215_72, am_s215_75, am_cal_ok am_cat_0 am_v114 (g168), am_cal_ok am_cat_0 am_v114 (am_d1 (D := 98)), am_cal_ok am_cat_0 am_v114 (am_d2 (D := 98)), am_cal_ok am_cat_0 am_v114 (am_d3 (D := 98)), am_cal_ok am_cat_0 am_v114 (am_d4 (D := 98)), am_cal_ok am_cat_0 am_v114 (am_d5 (D := 98)), am_cal_ok am_cat_0 am_rcv_f (am_y125 _ _), am_cal_ok am_cat_0 am_rcv_f (am_m183 (D := 97) _), am_bI0, am_f114_0, am_er_f, am_sy_f, Bool.false_and, Bool.and_false, reduceCtorEq, not_false_eq_true, not_true_eq_false, eq_self, am_os_some, Option.toList_some, Option.toList_none, List.cons_append, List.nil_append, if_true, if_false, true_and, am_nw1_i, am_nw1_r, am_nw1_n, cond_true]
      all_goals rfl
    | 3, _, pre =>
      have g168 : am_CD (am_X0 N xs) 99 168 [.ref 114, .int 4] (am_L0 q, G) = _ := am_m168 (X := am_X0 N xs) (D := 97) (q := q) (f := 4) hc.1.1 h8 (by decide)
      refine ⟨G, fun _ _ _ => rfl, fun _ _ _ _ _ _ _ _ => rfl, pre 76 _ _ (by decide +kernel) ?_⟩
      simp only [am_s215_76, am_s215_77, am_s215_78, am_s215_81, am_cal_ok am_cat_0 am_v114 (g168), am_cal_ok am_cat_0 am_v114 (am_d1 (D := 98)), am_cal_ok am_cat_0 am_v114 (am_d2 (D := 98)), am_cal_ok am_cat_0 am_v114 (am_d3 (D := 98)), am_cal_ok am_cat_0 am_v114 (am_d4 (D := 98)), am_cal_ok am_cat_0 am_v114 (am_d5 (D := 98)), am_cal_ok am_cat_0 am_rcv_f (am_y125 _ _), am_cal_ok am_cat_0 am_rcv_f (am_m183 (D := 97) _), am_bI0, am_f114_0, am_er_f, am_sy_f, Bool.false_and, Bool.and_false, reduceCtorEq, not_false_eq_true, not_true_eq_false, eq_self, am_os_some, Option.toList_some, Option.toList_none, List.cons_append, List.nil_append, if_true, if_false, true_and, am_nw1_i, am_nw1_r, am_nw1_n, cond_true]
      all_goals rfl
    | 4, _, pre =>
      refine ⟨G, fun _ _ _ => rfl, fun _ _ _ _ _ _ _ _ => rfl, pre 82 _ _ (by decide +kernel) ?_⟩
      simp only [am_s215_82, am_s215_83, am_s215_86, am_cal_ok am_cat_0 am_v114 (am_m178 (X := am_X0 N xs) (D := 98) hc.1.1), am_cal_ok am_cat_0 am_v114 (am_d1 (D := 98)), am_cal_ok am_cat_0 am_v114 (am_d2 (D := 98)), am_cal_ok am_cat_0 am_v114 (am_d3 (D := 98)), am_cal_ok am_cat_0 am_v114 (am_d4 (D := 98)), am_cal_ok am_cat_0 am_v114 (am_d5 (D := 98)), am_cal_ok am_cat_0 am_rcv_f (am_y125 _ _), am_cal_ok am_cat_0 am_rcv_f (am_m183 (D := 97) _), am_bI0, am_f114_0, am_er_f, am_sy_f, Bool.false_and, Bool.and_false, reduceCtorEq, not_false_eq_true, not_true_eq_false, eq_self, am_os_some, Option.toList_some, Option.toList_none, List.cons_append, List.nil_append, if_true, if_false, true_and, am_nw1_i, am_nw1_r, am_nw1_n, cond_true]
      all_goals rfl
    | 5, _, pre =>
      obtain ⟨G1, f1, g1⟩ := am_m190 (X := am_X0 N xs) (D := 50) (q := q) (am_rfl_rc hc) h8 (by omega)
      refine ⟨G1, fun i j hi => f1 i j (by omega), fun i j _ _ _ _ _ e => f1 i j (fun e1 => by have := e e1; omega), pre 87 _ _ (by decide +kernel) ?_⟩
      simp only [am_s215_87, am_s215_88, am_s215_91, am_cal_ok am_cat_0 am_v114 (g1), am_cal_ok am_cat_0 am_v114 (am_d1 (D := 98)), am_cal_ok am_cat_0 am_v114 (am_d2 (D := 98)), am_cal_ok am_cat_0 am_v114 (am_d3 (D := 98)), am_cal_ok am_cat_0 am_v114 (am_d4 (D := 98)), am_cal_ok am_cat_0 am_v114 (am_d5 (D := 98)), am_cal_ok am_cat_0 am_rcv_f (am_y125 _ _), am_cal_ok am_cat_0 am_rcv_f (am_m183 (D := 97) _), am_bI0, am_f114_0, am_er_f, am_sy_f, Bool.false_and, Bool.and_false, reduceCtorEq, not_false_eq_true, not_true_eq_false, eq_self, am_os_some, Option.toList_some, Option.toList_none, List.cons_append, List.nil_append, if_true, if_false, true_and, am_nw1_i, am_nw1_r, am_nw1_n, cond_true]
      all_goals rfl
    | 6, _, pre =>
      have e : G 115 3 = nI s.1.2.2.2.1.2 := hc.1.2.2.2.1.1
      refine ⟨G, fun _ _ _ => rfl, fun _ _ _ _ _ _ _ _ => rfl, pre 92 _ _ (by decide +kernel) ?_⟩
      simp only [am_s215_92, am_s215_93, am_s215_96, am_s215_97, am_s215_98, am_f114_0, am_r115_3, e, am_cal_ok am_cat_0 am_v114 (am_d1 (D := 98)), am_cal_ok am_cat_0 am_v114 (am_d2 (D := 98)), am_cal_ok am_cat_0 am_v114 (am_d3 (D := 98)), am_cal_ok am_cat_0 am_v114 (am_d4 (D := 98)), am_cal_ok am_cat_0 am_v114 (am_d5 (D := 98)), am_cal_ok am_cat_0 am_rcv_f (am_y125 _ _), am_cal_ok am_cat_0 am_rcv_f (am_m183 (D := 97) _), am_bI0, am_f114_0, am_er_f, am_sy_f, Bool.false_and, Bool.and_false, reduceCtorEq, not_false_eq_true, not_true_eq_false, eq_self, am_os_some, Option.toList_some, Option.toList_none, List.cons_append, List.nil_append, if_true, if_false, true_and, am_nw1_i, am_nw1_r, am_nw1_n, cond_true]
      all_goals rfl
    | 7, _, pre =>
      have e : G 115 4 = nI s.1.2.2.2.2.1.2 := hc.1.2.2.2.2.1.1
      refine ⟨G, fun _ _ _ => rfl, fun _ _ _ _ _ _ _ _ => rfl, pre 99 _ _ (by decide +kernel) ?_⟩
      simp only [am_s215_99, am_s215_100, am_s215_103, am_s215_104, am_s215_105, am_f114_0, am_r115_4, e, am_cal_ok am_cat_0 am_v114 (am_d1 (D := 98)), am_cal_ok am_cat_0 am_v114 (am_d2 (D := 98)), am_cal_ok am_cat_0 am_v114 (am_d3 (D := 98)), am_cal_ok am_cat_0 am_v114 (am_d4 (D := 98)), am_cal_ok am_cat_0 am_v114 (am_d5 (D := 98)), am_cal_ok am_cat_0 am_rcv_f (am_y125 _ _), am_cal_ok am_cat_0 am_rcv_f (am_m183 (D := 97) _), am_bI0, am_f114_0, am_er_f, am_sy_f, Bool.false_and, Bool.and_false, reduceCtorEq, not_false_eq_true, not_true_eq_false, eq_self, am_os_some, Option.toList_some, Option.toList_none, List.cons_append, List.nil_append, if_true, if_false, true_and, am_nw1_i, am_nw1_r, am_nw1_n, cond_true]
      all_goals rfl
    | 8, _, pre =>
      have e : G 114 25 = nI s.2.2.2.1.length := hc.2.2.2.2.2.2.1.1
      refine ⟨G, fun _ _ _ => rfl, fun _ _ _ _ _ _ _ _ => rfl, pre 106 _ _ (by decide +kernel) ?_⟩
      simp only [am_s215_106, am_s215_107, am_s215_110, am_f114_25, e, am_cal_ok am_cat_0 am_v114 (am_d1 (D := 98)), am_cal_ok am_cat_0 am_v114 (am_d2 (D := 98)), am_cal_ok am_cat_0 am_v114 (am_d3 (D := 98)), am_cal_ok am_cat_0 am_v114 (am_d4 (D := 98)), am_cal_ok am_cat_0 am_v114 (am_d5 (D := 98)), am_cal_ok am_cat_0 am_rcv_f (am_y125 _ _), am_cal_ok am_cat_0 am_rcv_f (am_m183 (D := 97) _), am_bI0, am_f114_0, am_er_f, am_sy_f, Bool.false_and, Bool.and_false, reduceCtorEq, not_false_eq_true, not_true_eq_false, eq_self, am_os_some, Option.toList_some, Option.toList_none, List.cons_append, List.nil_append, if_true, if_false, true_and, am_nw1_i, am_nw1_r, am_nw1_n, cond_true]
      all_goals rfl
    | 9, _, pre =>
      have e : G 115 1 = s.1.2.2.2.2.2 := hc.1.2.2.2.2.2
      refine ⟨G, fun _ _ _ => rfl, fun _ _ _ _ _ _ _ _ => rfl, pre 111 _ _ (by decide +kernel) ?_⟩
      simp only [am_s215_111, am_s215_112, am_s215_115, am_s215_116, am_s215_117, am_f114_0, am_r115_1, e, am_cal_ok am_cat_0 am_v114 (am_d1 (D := 98)), am_cal_ok am_cat_0 am_v114 (am_d2 (D := 98)), am_cal_ok am_cat_0 am_v114 (am_d3 (D := 98)), am_cal_ok am_cat_0 am_v114 (am_d4 (D := 98)), am_cal_ok am_cat_0 am_v114 (am_d5 (D := 98)), am_cal_ok am_cat_0 am_rcv_f (am_y125 _ _), am_cal_ok am_cat_0 am_rcv_f (am_m183 (D := 97) _), am_bI0, am_f114_0, am_er_f, am_sy_f, Bool.false_and, Bool.and_false, reduceCtorEq, not_false_eq_true, not_true_eq_false, eq_self, am_os_some, Option.toList_some, Option.toList_none, List.cons_append, List.nil_append, if_true, if_false, true_and, am_nw1_i, am_nw1_r, am_nw1_n, cond_true]
      all_goals rfl
end AMRM4
