/-! THE REFERENCE: strikes, strike, struck -/
section AMRK2
variable {X : am_X} {D q : Nat} {S : am_S}
theorem am_m175 {G : am_G} {a b : Nat} {v w : Int32} (ha : a < 8) (hb : b < 8) (hv : G 115 (47 + 8 * a + b) - v = w) : am_CD X (D + 1) 175 [.ref 114, .int (nI a), .int (nI b), .int v] (am_L0 q, G) = some (none, (am_L0 q, am_up G 115 (47 + 8 * a + b) w)) := by
  refine am_CD_of (M := am_N175) rfl rfl ?_
  show am_Rn _ _ none am_J175 0 [some (.ref 114), some (.int (nI a)), some (.int (nI b)), some (.int v)] [] (am_L0 q, G) _
  simp only [am_s175_0, am_s175_1, am_s175_4, am_s175_6, am_s175_8, am_s175_9, am_s175_10, am_s175_11, am_s175_12, am_s175_13, am_s175_14, am_s175_15, am_s175_16, am_s175_17, am_s175_18, am_f114_0, am_mul8, am_ad47, nI_add, am_r115 (show 47 + 8 * a + b < 281 by omega), am_w115 (show 47 + 8 * a + b < 281 by omega), hv, eq_self, am_os_some, Option.toList_some, Option.toList_none, List.cons_append, List.nil_append, if_true, if_false, true_and, am_nw1_i, am_nw1_r, am_nw1_n, cond_true]
theorem am_m175s {G : am_G} (h : am_rp (G 115) S) {a b l : Nat} (ha : a < 8) (hb : b < 8) (hl : l ≤ S (5 + a) b) : ∃ G' : am_G, am_frq G G' ∧ am_rp (G' 115) (am_ss S a b l) ∧ (∀ j, G' 114 j = G 114 j) ∧ ∀ D, am_CD X (D + 1) 175 [.ref 114, .int (nI a), .int (nI b), .int (nI l)] (am_L0 q, G) = some (none, (am_L0 q, G')) := by
  have kd := h.2.2.2 a b ha hb
  refine ⟨am_up G 115 (47 + 8 * a + b) (nI (S (5 + a) b - l)), am_frq_up _ _ (by omega), by rw [am_up_row]; exact am_rp_upd h ha hb, fun j => by rw [am_up_get, if_neg (by decide)], fun D => am_m175 ha hb (by rw [kd]; exact am_sub hl)⟩
theorem am_st2_e {S : am_S} {a b : Nat} : am_st1 S (a, b, 8) = am_ss (am_ss S a b (am_ls S (a, b, 8))) b a (am_ls S (a, b, 8)) := rfl
theorem am_st3_e {S : am_S} {a b c : Nat} (hc : c < 8) (h1 : a < b) (h2 : a < c) (h3 : b ≠ c) : am_st1 S (a, b, c) = am_ss (am_ss (am_ss S c a (am_ls S (a, b, c))) a b (am_ls S (a, b, c))) b c (am_ls S (a, b, c)) := by
  generalize hl : am_ls S (a, b, c) = l
  have e : am_st1 S (a, b, c) = am_ss (am_ss (am_ss S a b l) b c l) c a l := by
    unfold am_st1 am_sk
    rw [hl]
    exact if_neg (show ¬ c = 8 by omega)
  rw [e, am_ss_comm (a := b) (b := c) (c := c) (d := a) (by omega), am_ss_comm (a := a) (b := b) (c := c) (d := a) (by omega)]
/-- one ring of two -/
theorem am_k176a (hw : am_wf S) {a c n : Nat} {y z : Option Value} {G : am_G} (h : am_rp (G 115) S) (hac : a < c) (hc : c < 8) (r1 : G 114 16 = nI a) (r2 : G 114 17 = nI c) (r3 : G 114 18 = -1) : ∃ (G' : am_G) (y' z' : Option Value), am_frq G G' ∧ am_rp (G' 115) (am_st1 S (a, c, 8)) ∧ ∀ o, am_Rn X (D + 3) (some .int) am_J176 16 [some (.ref 114), some (.int (nI n)), y, z] [] (am_L0 q, G) o = am_Rn X (D + 3) (some .int) am_J176 2 [some (.ref 114), some (.int (nI (n + 1))), y', z'] [] (am_L0 q, G') o := by
  have ha : a < 8 := by omega
  have hi : nI n + 1 = nI (n + 1) := nI_add n 1
  have v1 := h.2.2.2 a c ha hc
  have v2 := h.2.2.2 c a hc ha
  have d1 := hw.2.2.1 a c ha hc
  have d2 := hw.2.2.1 c a hc ha
  have m1 : ((-1 : Int32) < 0) = True := by decide
  rw [am_st2_e, am_ls2]
  generalize hl : min (S (5 + a) c) (S (5 + c) a) = l
  have l1 : l ≤ S (5 + a) c := by omega
  have l2 : l ≤ S (5 + c) a := by omega
  obtain ⟨G1, f1, p1, e1, g1⟩ := am_m175s (X := X) (q := q) h ha hc l1
  obtain ⟨G2, f2, p2, e2, g2⟩ := am_m175s (X := X) (q := q) p1 hc ha (l := l) (by rw [am_ss_ne (by omega)]; exact l2)
  have g1 := g1 (D + 2)
  have g2 := g2 (D + 2)
  have r11 : G1 114 16 = nI a := (e1 16).trans r1
  have r12 : G1 114 17 = nI c := (e1 17).trans r2
  refine ⟨G2, some (.int (nI a)), some (.int (nI l)), f1.tr f2, p2, fun o => ?_⟩
  by_cases cc : S (5 + a) c < S (5 + c) a
  · have j1 : nI (S (5 + a) c) < nI (S (5 + c) a) := nI_lt cc (by omega)
    have e : S (5 + a) c = l := by omega
    rw [e] at v1 j1
    simp only [am_s176_16, am_s176_17, am_s176_20, am_s176_23, am_s176_24, am_s176_27, am_s176_30, am_s176_31, am_s176_34, am_s176_35, am_s176_36, am_s176_37, am_s176_40, am_s176_41, am_s176_44, am_s176_47, am_s176_48, am_s176_49, am_s176_52, am_s176_53, am_s176_56, am_s176_59, am_s176_60, am_s176_61, am_s176_64, am_s176_65, am_s176_68, am_s176_71, am_s176_74, am_s176_75, am_s176_76, am_s176_79, am_s176_80, am_s176_83, am_s176_84, am_s176_85, am_s176_88, am_s176_91, am_s176_92, am_s176_93, am_s176_96, am_s176_97, am_s176_100, am_s176_103, am_s176_104, am_s176_107, am_s176_108, am_s176_109, am_s176_112, am_s176_113, am_s176_116, am_s176_119, am_s176_122, am_s176_123, am_s176_124, am_s176_125, am_s176_126, am_s176_129, am_s176_130, am_s176_133, am_s176_134, am_s176_137, am_s176_138, am_s176_139, am_s176_142, am_s176_143, am_s176_146, am_s176_147, am_s176_150, am_s176_151, am_s176_152, am_s176_155, am_s176_156, am_s176_157, am_s176_160, am_f114_16, am_f114_17, am_f114_18, r1, r2, r3, r11, r12, m1, am_cal_ok am_cat_0 am_v114 (am_m133 (D := D + 2) ha hc), am_cal_ok (am_cat_1 _) am_v114 (am_m133 (D := D + 2) hc ha), am_cal_ok am_cat_0 am_v114 (am_m133 (D := D + 2) ha hc), v1, v2, j1, am_cal_ok am_cat_0 am_v114 (g1), am_cal_ok am_cat_0 am_v114 (g2), not_true_eq_false, not_false_eq_true, eq_self, am_os_some, Option.toList_some, Option.toList_none, List.cons_append, List.nil_append, if_true, if_false, true_and, am_nw1_i, am_nw1_r, am_nw1_n, cond_true]
    rw [am_s176_163, hi]
  · have j1 : ¬ nI (S (5 + a) c) < nI (S (5 + c) a) := nI_nlt (by omega) (by omega)
    have e : S (5 + c) a = l := by omega
    rw [e] at v2 j1
    simp only [am_s176_16, am_s176_17, am_s176_20, am_s176_23, am_s176_24, am_s176_27, am_s176_30, am_s176_31, am_s176_34, am_s176_35, am_s176_36, am_s176_37, am_s176_40, am_s176_41, am_s176_44, am_s176_47, am_s176_48, am_s176_49, am_s176_52, am_s176_53, am_s176_56, am_s176_59, am_s176_60, am_s176_61, am_s176_64, am_s176_65, am_s176_68, am_s176_71, am_s176_74, am_s176_75, am_s176_76, am_s176_79, am_s176_80, am_s176_83, am_s176_84, am_s176_85, am_s176_88, am_s176_91, am_s176_92, am_s176_93, am_s176_96, am_s176_97, am_s176_100, am_s176_103, am_s176_104, am_s176_107, am_s176_108, am_s176_109, am_s176_112, am_s176_113, am_s176_116, am_s176_119, am_s176_122, am_s176_123, am_s176_124, am_s176_125, am_s176_126, am_s176_129, am_s176_130, am_s176_133, am_s176_134, am_s176_137, am_s176_138, am_s176_139, am_s176_142, am_s176_143, am_s176_146, am_s176_147, am_s176_150, am_s176_151, am_s176_152, am_s176_155, am_s176_156, am_s176_157, am_s176_160, am_f114_16, am_f114_17, am_f114_18, r1, r2, r3, r11, r12, m1, am_cal_ok am_cat_0 am_v114 (am_m133 (D := D + 2) ha hc), am_cal_ok (am_cat_1 _) am_v114 (am_m133 (D := D + 2) hc ha), am_cal_ok am_cat_0 am_v114 (am_m133 (D := D + 2) hc ha), v1, v2, j1, am_cal_ok am_cat_0 am_v114 (g1), am_cal_ok am_cat_0 am_v114 (g2), not_true_eq_false, not_false_eq_true, eq_self, am_os_some, Option.toList_some, Option.toList_none, List.cons_append, List.nil_append, if_true, if_false, true_and, am_nw1_i, am_nw1_r, am_nw1_n, cond_true]
    rw [am_s176_163, hi]
/-- one ring of three -/
theorem am_k176b (hw : am_wf S) {a b c n : Nat} {y z : Option Value} {G : am_G} (h : am_rp (G 115) S) (hab : a < b) (hac : a < c) (hbc : b ≠ c) (hb : b < 8) (hc : c < 8) (r1 : G 114 16 = nI a) (r2 : G 114 17 = nI b) (r3 : G 114 18 = nI c) : ∃ (G' : am_G) (y' z' : Option Value), am_frq G G' ∧ am_rp (G' 115) (am_st1 S (a, b, c)) ∧ ∀ o, am_Rn X (D + 3) (some .int) am_J176 16 [some (.ref 114), some (.int (nI n)), y, z] [] (am_L0 q, G) o = am_Rn X (D + 3) (some .int) am_J176 2 [some (.ref 114), some (.int (nI (n + 1))), y', z'] [] (am_L0 q, G') o := by
  have ha : a < 8 := by omega
  have hi : nI n + 1 = nI (n + 1) := nI_add n 1
  have v1 := h.2.2.2 a b ha hb
  have v2 := h.2.2.2 b c hb hc
  have v3 := h.2.2.2 c a hc ha
  have d1 := hw.2.2.1 a b ha hb
  have d2 := hw.2.2.1 b c hb hc
  have d3 := hw.2.2.1 c a hc ha
  have m1 : ¬ nI c < 0 := nI_pos (by omega)
  rw [am_st3_e hc hab hac hbc, am_ls3 _ hc]
  generalize hl : min (S (5 + a) b) (min (S (5 + b) c) (S (5 + c) a)) = l
  have l1 : l ≤ S (5 + a) b := by omega
  have l2 : l ≤ S (5 + b) c := by omega
  have l3 : l ≤ S (5 + c) a := by omega
  obtain ⟨G1, f1, p1, e1, g1⟩ := am_m175s (X := X) (q := q) h hc ha l3
  obtain ⟨G2, f2, p2, e2, g2⟩ := am_m175s (X := X) (q := q) p1 ha hb (l := l) (by rw [am_ss_ne (by omega)]; exact l1)
  obtain ⟨G3, f3, p3, e3, g3⟩ := am_m175s (X := X) (q := q) p2 hb hc (l := l) (by rw [am_ss_ne (by omega), am_ss_ne (by omega)]; exact l2)
  have g1 := g1 (D + 2)
  have g2 := g2 (D + 2)
  have g3 := g3 (D + 2)
  have r11 : G1 114 16 = nI a := (e1 16).trans r1
  have r12 : G1 114 17 = nI b := (e1 17).trans r2
  have r21 : G2 114 17 = nI b := (e2 17).trans r12
  refine ⟨G3, some (.int (nI c)), some (.int (nI l)), (f1.tr f2).tr f3, p3, fun o => ?_⟩
  have m16 : ∀ (m : Nat) (o : Option Value × am_M), m = min (S (5 + a) b) (S (5 + b) c) → am_Rn X (D + 3) (some .int) am_J176 16 [some (.ref 114), some (.int (nI n)), y, z] [] (am_L0 q, G) o = am_Rn X (D + 3) (some .int) am_J176 83 [some (.ref 114), some (.int (nI n)), some (.int (nI c)), z] [.int (nI m)] (am_L0 q, G) o := fun m o hm => by
    by_cases cc : S (5 + a) b < S (5 + b) c
    · have j1 : nI (S (5 + a) b) < nI (S (5 + b) c) := nI_lt cc (by omega)
      have e : S (5 + a) b = m := by omega
      rw [e] at v1 j1
      simp only [am_s176_16, am_s176_17, am_s176_20, am_s176_23, am_s176_24, am_s176_27, am_s176_30, am_s176_31, am_s176_34, am_s176_35, am_s176_36, am_s176_37, am_s176_40, am_s176_41, am_s176_44, am_s176_47, am_s176_48, am_s176_49, am_s176_52, am_s176_53, am_s176_56, am_s176_59, am_s176_60, am_s176_61, am_s176_64, am_s176_65, am_s176_68, am_s176_71, am_s176_74, am_s176_75, am_s176_76, am_s176_79, am_s176_80, am_f114_16, am_f114_17, am_f114_18, r1, r2, r3, m1, am_cal_ok am_cat_0 am_v114 (am_m133 (D := D + 2) ha hb), am_cal_ok (am_cat_1 _) am_v114 (am_m133 (D := D + 2) hb hc), am_cal_ok am_cat_0 am_v114 (am_m133 (D := D + 2) ha hb), v1, v2, j1, not_true_eq_false, not_false_eq_true, eq_self, am_os_some, Option.toList_some, Option.toList_none, List.cons_append, List.nil_append, if_true, if_false, true_and, am_nw1_i, am_nw1_r, am_nw1_n, cond_true]
    · have j1 : ¬ nI (S (5 + a) b) < nI (S (5 + b) c) := nI_nlt (by omega) (by omega)
      have e : S (5 + b) c = m := by omega
      rw [e] at v2 j1
      simp only [am_s176_16, am_s176_17, am_s176_20, am_s176_23, am_s176_24, am_s176_27, am_s176_30, am_s176_31, am_s176_34, am_s176_35, am_s176_36, am_s176_37, am_s176_40, am_s176_41, am_s176_44, am_s176_47, am_s176_48, am_s176_49, am_s176_52, am_s176_53, am_s176_56, am_s176_59, am_s176_60, am_s176_61, am_s176_64, am_s176_65, am_s176_68, am_s176_71, am_s176_74, am_s176_75, am_s176_76, am_s176_79, am_s176_80, am_f114_16, am_f114_17, am_f114_18, r1, r2, r3, m1, am_cal_ok am_cat_0 am_v114 (am_m133 (D := D + 2) ha hb), am_cal_ok (am_cat_1 _) am_v114 (am_m133 (D := D + 2) hb hc), am_cal_ok am_cat_0 am_v114 (am_m133 (D := D + 2) hb hc), v1, v2, j1, not_true_eq_false, not_false_eq_true, eq_self, am_os_some, Option.toList_some, Option.toList_none, List.cons_append, List.nil_append, if_true, if_false, true_and, am_nw1_i, am_nw1_r, am_nw1_n, cond_true]
  rw [m16 _ o rfl]
  generalize hm : min (S (5 + a) b) (S (5 + b) c) = m
  by_cases cc : S (5 + c) a < m
  · have j1 : nI (S (5 + c) a) < nI m := nI_lt cc (by omega)
    have e : S (5 + c) a = l := by omega
    rw [e] at v3 j1
    simp only [am_s176_83, am_s176_84, am_s176_85, am_s176_88, am_s176_91, am_s176_92, am_s176_93, am_s176_96, am_s176_97, am_s176_100, am_s176_103, am_s176_104, am_s176_107, am_s176_108, am_s176_109, am_s176_112, am_s176_113, am_s176_116, am_s176_119, am_s176_122, am_s176_123, am_s176_124, am_s176_125, am_s176_126, am_s176_129, am_s176_130, am_s176_133, am_s176_134, am_s176_137, am_s176_138, am_s176_139, am_s176_142, am_s176_143, am_s176_146, am_s176_147, am_s176_150, am_s176_151, am_s176_152, am_s176_155, am_s176_156, am_s176_157, am_s176_160, am_f114_16, am_f114_17, am_f114_18, r1, r2, r3, r11, r12, r21, m1, am_cal_ok am_cat_0 am_v114 (am_m133 (D := D + 2) hc ha), am_cal_ok am_cat_0 am_v114 (am_m133 (D := D + 2) hc ha), v3, j1, am_cal_ok am_cat_0 am_v114 (g1), am_cal_ok am_cat_0 am_v114 (g2), am_cal_ok am_cat_0 am_v114 (g3), not_true_eq_false, not_false_eq_true, eq_self, am_os_some, Option.toList_some, Option.toList_none, List.cons_append, List.nil_append, if_true, if_false, true_and, am_nw1_i, am_nw1_r, am_nw1_n, cond_true]
    rw [am_s176_163, hi]
  · have j1 : ¬ nI (S (5 + c) a) < nI m := nI_nlt (by omega) (by omega)
    have e : m = l := by omega
    rw [e] at j1 ⊢
    simp only [am_s176_83, am_s176_84, am_s176_85, am_s176_88, am_s176_91, am_s176_92, am_s176_93, am_s176_96, am_s176_97, am_s176_100, am_s176_103, am_s176_104, am_s176_107, am_s176_108, am_s176_109, am_s176_112, am_s176_113, am_s176_116, am_s176_119, am_s176_122, am_s176_123, am_s176_124, am_s176_125, am_s176_126, am_s176_129, am_s176_130, am_s176_133, am_s176_134, am_s176_137, am_s176_138, am_s176_139, am_s176_142, am_s176_143, am_s176_146, am_s176_147, am_s176_150, am_s176_151, am_s176_152, am_s176_155, am_s176_156, am_s176_157, am_s176_160, am_f114_16, am_f114_17, am_f114_18, r1, r2, r3, r11, r12, r21, m1, am_cal_ok am_cat_0 am_v114 (am_m133 (D := D + 2) hc ha), am_cal_ok am_cat_0 am_v114 (am_m133 (D := D + 2) hc ha), v3, j1, am_cal_ok am_cat_0 am_v114 (g1), am_cal_ok am_cat_0 am_v114 (g2), am_cal_ok am_cat_0 am_v114 (g3), not_true_eq_false, not_false_eq_true, eq_self, am_os_some, Option.toList_some, Option.toList_none, List.cons_append, List.nil_append, if_true, if_false, true_and, am_nw1_i, am_nw1_r, am_nw1_n, cond_true]
    rw [am_s176_163, hi]
theorem am_l176 : ∀ (suf pre : List am_R3) (S : am_S) (n : Nat) (G : am_G) (y z : Option Value), am_LL = pre ++ suf → (∀ x ∈ pre, am_ls S x = 0) → am_wf S → am_rp (G 115) S → ∃ G' : am_G, am_frq G G' ∧ am_rp (G' 115) (am_fo suf (S, n)).1 ∧ am_Rn X (D + 3) (some .int) am_J176 2 [some (.ref 114), some (.int (nI n)), y, z] [] (am_L0 q, G) (some (.int (nI (am_fo suf (S, n)).2)), (am_L0 q, G')) := by
  intro suf
  induction suf with
  | nil =>
    intro pre S n G y z hL h0 hw h
    rw [List.append_nil] at hL
    rw [← hL] at h0
    have h8 := hw.1
    obtain ⟨G1, b1, f1, s1, g1⟩ := am_m173 (X := X) (D := D) (q := q) h hw
    have e1 : b1 = false := by
      cases b1 with
      | false => rfl
      | true =>
        obtain ⟨a, c, x1, x2, -, -, -, x3, -⟩ := s1.1 rfl
        have := h0 _ (am_LL_c2 ⟨a, by omega⟩ ⟨c, by omega⟩ x1)
        dsimp only at this
        omega
    subst e1
    have hp1 : am_rp (G1 115) S := by rw [f1.row]; exact h
    obtain ⟨G2, b2, f2, s2, g2⟩ := am_m174 (X := X) (D := D) (q := q) hp1 hw
    have e2 : b2 = false := by
      cases b2 with
      | false => rfl
      | true =>
        obtain ⟨a, b, c, x1, x2, x3, x4, x5, -, -, -, x6, -⟩ := s2.1 rfl
        have := h0 _ (am_LL_c3 ⟨a, by omega⟩ ⟨b, by omega⟩ ⟨c, by omega⟩ x1 x2 x3)
        dsimp only at this
        omega
    subst e2
    refine ⟨G2, (f1.tr f2).r, by rw [f2.row]; exact hp1, ?_⟩
    simp only [am_s176_2, am_s176_3, am_s176_6, am_s176_9, am_s176_10, am_s176_13, am_s176_166, am_s176_167, am_cal_ok am_cat_0 am_v114 (g1), am_cal_ok am_cat_0 am_v114 (g2), am_bI0, am_fo, eq_self, am_os_some, Option.toList_some, Option.toList_none, List.cons_append, List.nil_append, if_true, if_false, true_and, am_nw1_i, am_nw1_r, am_nw1_n, cond_true]
  | cons x t ih =>
    intro pre S n G y z hL h0 hw h
    have hL' : am_LL = (pre ++ [x]) ++ t := by rw [hL]; simp
    have hv := am_LL_v x (by rw [hL]; simp)
    rcases Nat.eq_zero_or_pos (am_ls S x) with hx | hx
    · rw [am_fo_c0 hx]
      exact ih (pre ++ [x]) S n G y z hL' (fun w hww => by
        rcases List.mem_append.mp hww with k | k
        · exact h0 w k
        · rw [List.mem_singleton] at k; rw [k]; exact hx) hw h
    · rw [am_fo_c1 hx]
      have h8 := hw.1
      have hle := am_st1_le2 (S := S) hv
      have hw' := am_le2_wf hle hw
      have h0' : ∀ w ∈ pre ++ [x], am_ls (am_st1 S x) w = 0 := fun w hww => by
        rcases List.mem_append.mp hww with k | k
        · exact am_ls_0 hle (am_LL_v w (by rw [hL]; exact List.mem_append_left _ k)) (h0 w k)
        · rw [List.mem_singleton] at k; rw [k]; exact am_ls_own hv
      obtain ⟨G1, b1, f1, s1, g1⟩ := am_m173 (X := X) (D := D) (q := q) h hw
      have hp1 : am_rp (G1 115) S := by rw [f1.row]; exact h
      cases b1 with
      | true =>
        obtain ⟨a, c, x1, x2, r1, r2, r3, x3, x4⟩ := s1.1 rfl
        have ex := am_pick2 hw hL h0 hx x1 x2 x3 x4
        obtain ⟨G2, y2, z2, f2, p2, g2⟩ := am_k176a (X := X) (D := D) (q := q) (n := n) (y := y) (z := z) hw hp1 x1 (by omega) r1 r2 r3
        rw [← ex] at p2
        obtain ⟨G3, f3, p3, g3⟩ := ih (pre ++ [x]) (am_st1 S x) (n + 1) G2 y2 z2 hL' h0' hw' p2
        refine ⟨G3, (f1.r.tr f2).tr f3, p3, ?_⟩
        simp only [am_s176_2, am_s176_3, am_s176_6, am_cal_ok am_cat_0 am_v114 (g1), am_bI0, reduceCtorEq, not_false_eq_true, not_true_eq_false, eq_self, am_os_some, Option.toList_some, Option.toList_none, List.cons_append, List.nil_append, if_true, if_false, true_and, am_nw1_i, am_nw1_r, am_nw1_n, cond_true]
        rw [g2]
        exact g3
      | false =>
        have hz := am_pickn hw hL hx (s1.2 rfl)
        obtain ⟨G2, b2, f2, s2, g2⟩ := am_m174 (X := X) (D := D) (q := q) hp1 hw
        have hp2 : am_rp (G2 115) S := by rw [f2.row]; exact hp1
        cases b2 with
        | false =>
          obtain ⟨p, r, w⟩ := x
          obtain ⟨v1, v2, v3⟩ := am_rgv_e hv
          have hr := am_act hw hv hx
          dsimp only at v1 v2 v3 hr hz
          have := s2.2 rfl p r w v1 (by omega) (by omega) hr.1 (by omega)
          omega
        | true =>
          obtain ⟨a, b, c, x1, x2, x3, x4, x5, r1, r2, r3, x6, x7⟩ := s2.1 rfl
          have ex := am_pick3 hw hL h0 hx hz x1 x2 x3 x4 x5 x6 x7
          obtain ⟨G3, y3, z3, f3, p3, g3⟩ := am_k176b (X := X) (D := D) (q := q) (n := n) (y := y) (z := z) hw hp2 x1 x2 x3 (by omega) (by omega) r1 r2 r3
          rw [← ex] at p3
          obtain ⟨G4, f4, p4, g4⟩ := ih (pre ++ [x]) (am_st1 S x) (n + 1) G3 y3 z3 hL' h0' hw' p3
          refine ⟨G4, ((f1.tr f2).r.tr f3).tr f4, p4, ?_⟩
          simp only [am_s176_2, am_s176_3, am_s176_6, am_s176_9, am_s176_10, am_s176_13, am_cal_ok am_cat_0 am_v114 (g1), am_cal_ok am_cat_0 am_v114 (g2), am_bI0, reduceCtorEq, not_false_eq_true, not_true_eq_false, eq_self, am_os_some, Option.toList_some, Option.toList_none, List.cons_append, List.nil_append, if_true, if_false, true_and, am_nw1_i, am_nw1_r, am_nw1_n, cond_true]
          rw [g3]
          exact g4
theorem am_m176 {G : am_G} (h : am_rp (G 115) S) (hw : am_wf S) : ∃ G' : am_G, am_frq G G' ∧ am_rp (G' 115) (am_stk2 S).1 ∧ am_CD X (D + 4) 176 [.ref 114] (am_L0 q, G) = some (some (.int (nI (am_stk2 S).2)), (am_L0 q, G')) := by
  obtain ⟨G', f, p, g⟩ := am_l176 (X := X) (D := D) (q := q) am_LL [] S 0 G none none rfl (fun _ hx => nomatch hx) hw h
  refine ⟨G', f, p, am_CD_of (M := am_N176) rfl rfl ?_⟩
  show am_Rn _ _ ((Option.some FieldType.int)) am_J176 0 [some (.ref 114), none, none, none] [] (am_L0 q, G) _
  simp only [am_s176_0, am_s176_1, eq_self, am_os_some, Option.toList_some, Option.toList_none, List.cons_append, List.nil_append, if_true, if_false, true_and, am_nw1_i, am_nw1_r, am_nw1_n, cond_true]
  exact g
/-- the people of the row have changed -/
theorem am_rfl_qS {G G' : am_G} {s : am_St} {S1 : am_S} (h : am_rfl G s) (hf : am_frq G G') (h1 : am_rp (G' 115) S1) : am_rfl G' (am_sS S1 s) :=
  am_rfl_W h (fun i j _ b _ _ _ _ e => hf.1 i j (fun e1 => by have := e e1; omega) b) (am_rw8_S h.1 hf.2 h1)
theorem am_r177 {s : am_St} (hs : am_oks s) : am_rO 177 [] s (am_O93 s) := by
  intro N xs q G hc
  obtain ⟨G', f, p, g⟩ := am_m176 (X := am_X0 N xs) (D := 95) (q := q) hc.1.1 hs.1.1
  refine ⟨G', fun i j hi => f.1 i j (by omega) (by omega), am_rfl_qS hc f p, am_CD_of (M := am_N177) rfl rfl ?_⟩
  show am_Rn _ _ ((Option.some FieldType.int)) am_J177 0 [some (.ref 114)] [] (am_L0 q, G) _
  simp only [am_s177_0, am_s177_1, am_s177_4, am_cal_ok am_cat_0 am_v114 (g), am_cal_ok am_cat_0 am_v114 (am_d1 (D := 98)), am_cal_ok am_cat_0 am_v114 (am_d2 (D := 98)), am_cal_ok am_cat_0 am_v114 (am_d3 (D := 98)), am_cal_ok am_cat_0 am_v114 (am_d4 (D := 98)), am_cal_ok am_cat_0 am_v114 (am_d5 (D := 98)), am_cal_ok am_cat_0 am_rcv_f (am_y125 _ _), am_cal_ok am_cat_0 am_rcv_f (am_m183 (D := 97) _), am_bI0, am_f114_0, am_er_f, am_sy_f, Bool.false_and, Bool.and_false, reduceCtorEq, not_false_eq_true, not_true_eq_false, eq_self, am_os_some, Option.toList_some, Option.toList_none, List.cons_append, List.nil_append, if_true, if_false, true_and, am_nw1_i, am_nw1_r, am_nw1_n, cond_true]
  all_goals rfl
/-- what is thought of is put back -/
theorem am_rback2 {G G1 G2 G3 : am_G} {s : am_St} (hc : am_rfl G s) (hs : am_oks s) (a1 : ∀ i j, i ≠ 117 → G1 i j = G i j) (b1 : ∀ j, j < 281 → G1 117 j = G 115 j) (f : ∀ i j, (i = 114 → j = 4 ∨ j = 5 ∨ j = 15 ∨ j = 25) → i ≠ 115 → i ≠ 124 → G2 i j = G1 i j) (a3 : ∀ i j, i ≠ 115 → G3 i j = G2 i j) (b3 : ∀ j, j < 281 → G3 115 j = G2 117 j) : am_rfl G3 s ∧ ∀ i j, i < 114 → G3 i j = G i j :=
  ⟨am_rfl_W (W1 := s.1) hc (fun i j _ b c _ _ d e => by rw [a3 i j b, f i j e b d, a1 i j c]) (am_rw8_ext hc.1 hs.1 fun j hj => by rw [b3 j hj, f 117 j (by omega) (by decide) (by decide), b1 j hj]), fun i j hi => by rw [a3 i j (by omega), f i j (by omega) (by omega) (by omega), a1 i j (by omega)]⟩
theorem am_r179 {w : Int32} {s : am_St} (hs : am_oks s) : am_rO 179 [.int w] s (am_O101 w s) := by
  unfold am_O101
  cases h1 : am_wi w 1 with
  | false =>
    refine am_rO_err (k := 1) (r := -1000000001) (by decide) am_ec1.symm fun X q G hc => am_CD_of (M := am_N179) rfl rfl ?_
    have hn : G 115 2 = nI (s.1.1 13 0) := hc.1.1.2.1
    show am_Rn _ _ ((Option.some FieldType.int)) am_J179 0 [some (.ref 114), some (.int w), none, none] [] (am_L0 q, G) _
    simp only [am_s179_0, am_s179_1, am_s179_2, am_s179_3, am_s179_6, am_s179_9, am_s179_10, am_s179_12, am_s179_15, h1, am_cal_ok am_cat_0 am_v114 (am_d1 (D := 98)), am_cal_ok am_cat_0 am_v114 (am_d2 (D := 98)), am_cal_ok am_cat_0 am_v114 (am_d3 (D := 98)), am_cal_ok am_cat_0 am_v114 (am_d4 (D := 98)), am_cal_ok am_cat_0 am_v114 (am_d5 (D := 98)), am_cal_ok am_cat_0 am_rcv_f (am_y125 _ _), am_cal_ok am_cat_0 am_rcv_f (am_m183 (D := 97) _), am_bI0, am_f114_0, am_er_f, am_sy_f, Bool.false_and, Bool.and_false, reduceCtorEq, not_false_eq_true, not_true_eq_false, eq_self, am_os_some, Option.toList_some, Option.toList_none, List.cons_append, List.nil_append, if_true, if_false, true_and, am_nw1_i, am_nw1_r, am_nw1_n, cond_true]
  | true =>
    rw [if_neg (by decide)]
    obtain ⟨w1, w2⟩ := am_wi_nI (n := 1) (by decide) h1
    generalize w.toNatClampNeg = w at w1 w2
    subst w2
    intro N xs q G hc
    obtain ⟨G1, a1, b1, g1⟩ := am_m128 (X := am_X0 N xs) (D := 98) (q := q) (G := G) am_is5 am_is7 (by decide)
    have hc1 : am_rfl G1 s := am_rfl_fr hc fun i j _ b _ _ _ _ => a1 i j b
    obtain ⟨G2, f, p, g2⟩ := am_m176 (X := am_X0 N xs) (D := 95) (q := q) hc1.1.1 hs.1.1
    have g178 := am_m178 (X := am_X0 N xs) (D := 98) (q := q) p
    obtain ⟨G3, a3, b3, g3⟩ := am_m128 (X := am_X0 N xs) (D := 98) (q := q) (G := G2) am_is7 am_is5 (by decide)
    obtain ⟨r1, r2⟩ := am_rback2 hc hs a1 b1 (fun i j e b _ => f.1 i j (fun e1 => by have := e e1; omega) b) a3 b3
    refine ⟨G3, r2, r1, am_CD_of (M := am_N179) rfl rfl ?_⟩
    show am_Rn _ _ ((Option.some FieldType.int)) am_J179 0 [some (.ref 114), some (.int (nI w)), none, none] [] (am_L0 q, G) _
    by_cases c : w = 0
    · subst c
      have e0 : (nI 0 = 0) = True := by decide
      simp only [am_s179_0, am_s179_1, am_s179_2, am_s179_3, am_s179_6, am_s179_9, am_s179_10, am_s179_12, am_s179_15, am_s179_16, am_s179_17, am_s179_18, am_s179_21, am_s179_22, am_s179_25, am_s179_28, am_s179_29, am_s179_32, am_s179_33, am_s179_34, am_s179_37, am_s179_38, am_s179_39, am_s179_40, am_s179_43, am_s179_44, am_s179_47, am_s179_50, am_s179_51, am_s179_54, am_s179_55, am_s179_58, am_s179_59, h1, am_f114_0, am_f114_2, am_cal_ok am_cat_0 am_v114 (g1), am_cal_ok am_cat_0 am_v114 (g2), am_cal_ok am_cat_0 am_v114 (g178), am_cal_ok am_cat_0 am_v114 (g3), e0, not_true_eq_false, am_cal_ok am_cat_0 am_v114 (am_d1 (D := 98)), am_cal_ok am_cat_0 am_v114 (am_d2 (D := 98)), am_cal_ok am_cat_0 am_v114 (am_d3 (D := 98)), am_cal_ok am_cat_0 am_v114 (am_d4 (D := 98)), am_cal_ok am_cat_0 am_v114 (am_d5 (D := 98)), am_cal_ok am_cat_0 am_rcv_f (am_y125 _ _), am_cal_ok am_cat_0 am_rcv_f (am_m183 (D := 97) _), am_bI0, am_f114_0, am_er_f, am_sy_f, Bool.false_and, Bool.and_false, reduceCtorEq, not_false_eq_true, not_true_eq_false, eq_self, am_os_some, Option.toList_some, Option.toList_none, List.cons_append, List.nil_append, if_true, if_false, true_and, am_nw1_i, am_nw1_r, am_nw1_n, cond_true]
      all_goals rfl
    · have e0 : ¬ nI w = 0 := nI_ne0 (by omega) (by omega)
      simp only [am_s179_0, am_s179_1, am_s179_2, am_s179_3, am_s179_6, am_s179_9, am_s179_10, am_s179_12, am_s179_15, am_s179_16, am_s179_17, am_s179_18, am_s179_21, am_s179_22, am_s179_25, am_s179_28, am_s179_29, am_s179_32, am_s179_33, am_s179_34, am_s179_37, am_s179_38, am_s179_39, am_s179_40, am_s179_43, am_s179_44, am_s179_47, am_s179_50, am_s179_51, am_s179_54, am_s179_55, am_s179_58, am_s179_59, h1, am_f114_0, am_f114_2, am_cal_ok am_cat_0 am_v114 (g1), am_cal_ok am_cat_0 am_v114 (g2), am_cal_ok am_cat_0 am_v114 (g178), am_cal_ok am_cat_0 am_v114 (g3), e0, c, not_true_eq_false, am_cal_ok am_cat_0 am_v114 (am_d1 (D := 98)), am_cal_ok am_cat_0 am_v114 (am_d2 (D := 98)), am_cal_ok am_cat_0 am_v114 (am_d3 (D := 98)), am_cal_ok am_cat_0 am_v114 (am_d4 (D := 98)), am_cal_ok am_cat_0 am_v114 (am_d5 (D := 98)), am_cal_ok am_cat_0 am_rcv_f (am_y125 _ _), am_cal_ok am_cat_0 am_rcv_f (am_m183 (D := 97) _), am_bI0, am_f114_0, am_er_f, am_sy_f, Bool.false_and, Bool.and_false, reduceCtorEq, not_false_eq_true, not_true_eq_false, eq_self, am_os_some, Option.toList_some, Option.toList_none, List.cons_append, List.nil_append, if_true, if_false, true_and, am_nw1_i, am_nw1_r, am_nw1_n, cond_true]
      all_goals rfl
end AMRK2
