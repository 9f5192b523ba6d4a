/-! THE REFERENCE: they drink; a day; days -/
section AMRA
variable {X : am_X} {D q : Nat} {S : am_S} {T U : am_T} {wh : Int32}
theorem am_l166b (hw : am_wf S) : ∀ (d k : Nat) (G : am_G) (y : Option Value), k + d = S 13 0 → am_rc G (am_dk S k) T U wh → ∃ (G' : am_G) (y' : Option Value), am_frs G G' ∧ am_rc G' (am_dk S (S 13 0)) T U wh ∧ ∀ o, am_Rn X (D + 49) none am_J166 61 [some (.ref 114), some (.int (nI k)), y] [] (am_L0 q, G) o = am_Rn X (D + 49) none am_J166 133 [some (.ref 114), some (.int (nI (S 13 0))), y'] [] (am_L0 q, G') o := by
  have h8 := hw.1
  intro d
  induction d with
  | zero =>
    intro k G y hk h
    obtain rfl : k = S 13 0 := by omega
    have e13 := (am_wf_dk hw (S 13 0) (Nat.le_refl _)).2
    have k2 : G 115 2 = nI (S 13 0) := by have := h.1.2.1; rw [e13] at this; exact this
    have h1 : ¬ nI (S 13 0) < nI (S 13 0) := Int32.lt_irrefl
    refine ⟨G, y, (am_frw.rf G).s, h, fun o => ?_⟩
    simp only [am_s166_61, am_s166_62, am_s166_63, am_s166_66, am_s166_67, am_s166_68, am_f114_0, am_r115_2, k2, h1, eq_self, am_os_some, Option.toList_some, Option.toList_none, List.cons_append, List.nil_append, if_true, if_false, true_and, am_nw1_i, am_nw1_r, am_nw1_n, cond_true]
  | succ d ih =>
    intro k G y hk h
    have k8 : k < 8 := by omega
    obtain ⟨wk, e13⟩ := am_wf_dk hw k (by omega)
    have k2 : G 115 2 = nI (S 13 0) := by have := h.1.2.1; rw [e13] at this; exact this
    have h1 : nI k < nI (S 13 0) := nI_lt (by omega) (by omega)
    have hi : nI k + 1 = nI (k + 1) := nI_add k 1
    have eg : am_dk S (k + 1) = am_dr1 (am_dk S k) k := rfl
    generalize hSk : am_dk S k = Sk at h wk e13 eg
    have k3 : G 115 (7 + 5 * k + 3) = nI (Sk 3 k) := h.1.2.2.1 k 3 k8 (by decide)
    have k4 : G 115 (7 + 5 * k + 4) = nI (Sk 4 k) := h.1.2.2.1 k 4 k8 (by decide)
    have g161 := am_m161 (X := X) (D := D + 47) (q := q) h.1 wk k8
    obtain ⟨-, -, -, w3, w4⟩ := wk.2.1 k k8
    have wd := am_dr_le (Sk 0 k)
    unfold am_dr1 at eg
    generalize am_dr (Sk 0 k) = dr at g161 wd eg
    by_cases c : Sk 3 k < dr
    · rw [if_pos c] at eg
      obtain ⟨n1, n2⟩ := am_neg3 ⟨Sk 4 k, by omega⟩ ⟨Sk 3 k, by omega⟩ ⟨dr, by omega⟩ c
      dsimp only at n1 n2
      have l1 : am_hld (nI (Sk 4 k + (dr - Sk 3 k))) 0 99 = nI (min 99 (Sk 4 k + (dr - Sk 3 k))) := am_hldn (m := 99) (by omega) (by decide)
      generalize hv : min 99 (Sk 4 k + (dr - Sk 3 k)) = v at eg l1
      generalize hG1 : am_up G 115 (7 + 5 * k + 3) 0 = G1
      have k41 : G1 115 (7 + 5 * k + 4) = nI (Sk 4 k) := by rw [← hG1, am_up_get, if_pos rfl, if_neg (by omega)]; exact k4
      have p1 : am_rp (G1 115) (am_su Sk 3 k 0) := by rw [← hG1, am_up_row]; exact am_rp_up (f := 3) (v := 0) h.1 (by decide) k8
      have fs : am_frs G (am_up G1 115 (7 + 5 * k + 4) (nI v)) := by
        refine am_frs.tr (G1 := G1) ?_ (am_frs_up _ _ (by omega))
        rw [← hG1]; exact am_frs_up _ _ (by omega)
      obtain ⟨G', y', f2, c2, g2⟩ := ih (k + 1) (am_up G1 115 (7 + 5 * k + 4) (nI v)) (some (.int (nI (Sk 3 k) - nI dr))) (by omega) (by rw [eg]; exact h.S fs (by rw [am_up_row]; exact am_rp_up p1 (by decide) k8))
      refine ⟨G', y', fs.tr f2, c2, fun o => ?_⟩
      simp only [am_s166_61, am_s166_62, am_s166_63, am_s166_66, am_s166_67, am_s166_68, am_s166_71, am_s166_72, am_s166_73, am_s166_74, am_s166_77, am_s166_78, am_s166_79, am_s166_82, am_s166_83, am_s166_84, am_s166_85, am_s166_86, am_s166_87, am_s166_88, am_s166_91, am_s166_92, am_s166_95, am_s166_96, am_s166_99, am_s166_100, am_s166_101, am_s166_102, am_s166_103, am_s166_106, am_s166_107, am_s166_108, am_s166_109, am_s166_112, am_s166_113, am_s166_114, am_s166_115, am_s166_117, am_s166_120, am_s166_123, am_s166_124, am_s166_127, am_f114_0, am_r115_2, k2, h1, am_cal_ok am_cat_0 am_v114 (am_i130_3 (D := D + 48) k8), k3, am_cal_ok (am_cat_1 _) am_v114 (g161), n2, am_cal_ok am_cat_0 am_v114 (am_i131_3 (D := D + 48) k8), hG1, am_cal_ok (am_cat_3 _ _ _) am_v114 (am_i130_4 (D := D + 48) k8), k41, n1, am_cal_ok (am_cat_3 _ _ _) am_rcv_f (am_m127 (D := D + 48) _ _ _), l1, am_cal_ok am_cat_0 am_v114 (am_i131_4 (D := D + 48) k8), eq_self, am_os_some, Option.toList_some, Option.toList_none, List.cons_append, List.nil_append, if_true, if_false, true_and, am_nw1_i, am_nw1_r, am_nw1_n, cond_true]
      rw [am_s166_130, hi]
      exact g2 o
    · rw [if_neg c] at eg
      have s1 : nI (Sk 3 k) - nI dr = nI (Sk 3 k - dr) := am_sub (by omega)
      have n2 : ¬ nI (Sk 3 k - dr) < 0 := nI_pos (by omega)
      generalize hv : Sk 3 k - dr = v at eg s1 n2
      generalize hG1 : am_up G 115 (7 + 5 * k + 3) (nI v) = G1
      have p1 : am_rp (G1 115) (am_su Sk 3 k v) := by rw [← hG1, am_up_row]; exact am_rp_up h.1 (by decide) k8
      have fs : am_frs G (am_up G1 115 (7 + 5 * k + 4) 0) := by
        refine am_frs.tr (G1 := G1) ?_ (am_frs_up _ _ (by omega))
        rw [← hG1]; exact am_frs_up _ _ (by omega)
      obtain ⟨G', y', f2, c2, g2⟩ := ih (k + 1) (am_up G1 115 (7 + 5 * k + 4) 0) (some (.int (nI v))) (by omega) (by rw [eg]; exact h.S fs (by rw [am_up_row]; exact am_rp_up (f := 4) (v := 0) p1 (by decide) k8))
      refine ⟨G', y', fs.tr f2, c2, fun o => ?_⟩
      simp only [am_s166_61, am_s166_62, am_s166_63, am_s166_66, am_s166_67, am_s166_68, am_s166_71, am_s166_72, am_s166_73, am_s166_74, am_s166_77, am_s166_78, am_s166_79, am_s166_82, am_s166_83, am_s166_84, am_s166_85, am_s166_86, am_s166_87, am_s166_88, am_s166_91, am_s166_92, am_s166_95, am_s166_96, am_s166_99, am_s166_100, am_s166_101, am_s166_102, am_s166_103, am_s166_106, am_s166_107, am_s166_108, am_s166_109, am_s166_112, am_s166_113, am_s166_114, am_s166_115, am_s166_117, am_s166_120, am_s166_123, am_s166_124, am_s166_127, am_f114_0, am_r115_2, k2, h1, am_cal_ok am_cat_0 am_v114 (am_i130_3 (D := D + 48) k8), k3, am_cal_ok (am_cat_1 _) am_v114 (g161), s1, n2, am_cal_ok am_cat_0 am_v114 (am_i131_3 (D := D + 48) k8), hG1, am_cal_ok am_cat_0 am_v114 (am_i131_4 (D := D + 48) k8), eq_self, am_os_some, Option.toList_some, Option.toList_none, List.cons_append, List.nil_append, if_true, if_false, true_and, am_nw1_i, am_nw1_r, am_nw1_n, cond_true]
      rw [am_s166_130, hi]
      exact g2 o
theorem am_m166 {G : am_G} (h : am_rc G S T U wh) (hw : am_wf S) (hD : S 13 1 < 2 ^ 30) {hd : Nat} (hh : ∀ k, k < 8 → (nI k = wh ↔ k = hd)) : ∃ G' : am_G, am_frs G G' ∧ am_rc G' (am_day T U hd S) T U wh ∧ am_CD X (D + 50) 166 [.ref 114] (am_L0 q, G) = some (none, (am_L0 q, G')) := by
  obtain ⟨G1, f1, c1, g1⟩ := am_l166a (X := X) (D := D) (q := q) hw hD hh (S 13 0) 0 G (by omega) h
  obtain ⟨w1, e1⟩ := am_wf_goes (T := T) (U := U) (h := hd) hw (S 13 0) (Nat.le_refl _)
  obtain ⟨G2, y2, f2, c2, g2⟩ := am_l166b (X := X) (D := D) (q := q) (T := T) (U := U) (wh := wh) w1 (S 13 0) 0 G1 none (by rw [e1]; omega) c1
  rw [e1] at c2 g2
  have e2 := (am_wf_dk w1 (S 13 0) (by rw [e1]; exact Nat.le_refl _)).2
  have k0 : G2 115 0 = nI (S 13 1) := by have := c2.1.1; rw [e2, e1] at this; exact this
  have s1 : nI (S 13 1) + 1 = nI (S 13 1 + 1) := nI_add _ 1
  have fs : am_frs G2 (am_up G2 115 0 (nI (S 13 1 + 1))) := am_frs_up _ _ (by omega)
  refine ⟨am_up G2 115 0 (nI (S 13 1 + 1)), (f1.tr f2).tr fs, ?_, am_CD_of (M := am_N166) rfl rfl ?_⟩
  · refine c2.S fs ?_
    rw [am_up_row]
    exact am_rp_ups (k := 1) c2.1 (by decide)
  · show am_Rn _ _ none am_J166 0 [some (.ref 114), none, none] [] (am_L0 q, G) _
    simp only [am_s166_0, am_s166_1, eq_self, am_os_some, Option.toList_some, Option.toList_none, List.cons_append, List.nil_append, if_true, if_false, true_and, am_nw1_i, am_nw1_r, am_nw1_n, cond_true]
    rw [nI_0] at g1 g2
    rw [g1]
    simp only [am_s166_59, am_s166_60, eq_self, am_os_some, Option.toList_some, Option.toList_none, List.cons_append, List.nil_append, if_true, if_false, true_and, am_nw1_i, am_nw1_r, am_nw1_n, cond_true]
    rw [g2]
    simp only [am_s166_133, am_s166_134, am_s166_137, am_s166_138, am_s166_139, am_s166_140, am_s166_141, am_s166_142, am_s166_143, am_f114_0, am_r115_0, am_w115_0, k0, s1, eq_self, am_os_some, Option.toList_some, Option.toList_none, List.cons_append, List.nil_append, if_true, if_false, true_and, am_nw1_i, am_nw1_r, am_nw1_n, cond_true]
theorem am_l167 (hw : am_wf S) {hd n : Nat} (hD : S 13 1 + n < 2 ^ 30) (hh : ∀ k, k < 8 → (nI k = wh ↔ k = hd)) : ∀ (d k : Nat) (G : am_G), k + d = n → am_rc G (am_days T U hd S k) T U wh → ∃ G' : am_G, am_frs G G' ∧ am_rc G' (am_days T U hd S n) T U wh ∧ am_Rn X (D + 50) none am_J167 2 [some (.ref 114), some (.int (nI n)), some (.int (nI k))] [] (am_L0 q, G) (none, (am_L0 q, G')) := by
  intro d
  induction d with
  | zero =>
    intro k G hk h
    obtain rfl : k = n := by omega
    have h1 : ¬ nI k < nI k := Int32.lt_irrefl
    refine ⟨G, (am_frw.rf G).s, h, ?_⟩
    simp only [am_s167_2, am_s167_3, am_s167_4, am_s167_17, h1, eq_self, am_os_some, Option.toList_some, Option.toList_none, List.cons_append, List.nil_append, if_true, if_false, true_and, am_nw1_i, am_nw1_r, am_nw1_n, cond_true]
  | succ d ih =>
    intro k G hk h
    have h1 : nI k < nI n := nI_lt (by omega) (by omega)
    have hi : nI k + 1 = nI (k + 1) := nI_add k 1
    have w := am_wf_days (T := T) (U := U) (h := hd) hw k
    obtain ⟨G1, f1, c1, g1⟩ := am_m166 (X := X) (D := D) (q := q) h w.1 (by rw [w.2.2]; omega) hh
    obtain ⟨G', f2, c2, g2⟩ := ih (k + 1) G1 (by omega) c1
    refine ⟨G', f1.tr f2, c2, ?_⟩
    simp only [am_s167_2, am_s167_3, am_s167_4, am_s167_7, am_s167_8, am_s167_11, h1, am_cal_ok am_cat_0 am_v114 (g1), eq_self, am_os_some, Option.toList_some, Option.toList_none, List.cons_append, List.nil_append, if_true, if_false, true_and, am_nw1_i, am_nw1_r, am_nw1_n, cond_true]
    rw [am_s167_14, hi]
    exact g2
theorem am_m167 {G : am_G} (h : am_rc G S T U wh) (hw : am_wf S) {hd n : Nat} (hD : S 13 1 + n < 2 ^ 30) (hh : ∀ k, k < 8 → (nI k = wh ↔ k = hd)) : ∃ G' : am_G, am_frs G G' ∧ am_rc G' (am_days T U hd S n) T U wh ∧ am_CD X (D + 51) 167 [.ref 114, .int (nI n)] (am_L0 q, G) = some (none, (am_L0 q, G')) := by
  obtain ⟨G', f, c, g⟩ := am_l167 (X := X) (D := D) (q := q) hw hD hh n 0 G (by omega) h
  refine ⟨G', f, c, am_CD_of (M := am_N167) rfl rfl ?_⟩
  show am_Rn _ _ none am_J167 0 [some (.ref 114), some (.int (nI n)), none] [] (am_L0 q, G) _
  simp only [am_s167_0, am_s167_1, eq_self, am_os_some, Option.toList_some, Option.toList_none, List.cons_append, List.nil_append, if_true, if_false, true_and, am_nw1_i, am_nw1_r, am_nw1_n, cond_true]
  exact g
end AMRA
