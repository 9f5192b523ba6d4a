/-! THE REFERENCE: person, change, owe, owes, become, as -/
theorem am_up_id {G : am_G} {a k : Nat} {v : Int32} (h : G a k = v) : am_up G a k v = G := funext fun i => funext fun j => by
  rw [am_up_get]
  split
  · rename_i e
    subst e
    split
    · rename_i e; subst e; exact h.symm
    · rfl
  · rfl
theorem am_rp_ups {R : am_Ro} {S : am_S} {k v : Nat} (h : am_rp R S) (hk : k < 2) : am_rp (am_ru R (2 - 2 * k) (nI v)) (am_su S 13 k v) := by
  obtain ⟨h1, h2, h3, h4⟩ := h
  refine ⟨?_, ?_, fun p f hp hf => by rw [am_ru_get, if_neg (by omega), am_su_get, if_neg (by omega)]; exact h3 p f hp hf, fun a b ha hb => by rw [am_ru_get, if_neg (by omega), am_su_get, if_neg (by omega)]; exact h4 a b ha hb⟩
  · rw [am_ru_get, am_su_get, if_pos rfl]
    by_cases e : k = 1
    · subst e; rw [if_pos rfl, if_pos rfl]
    · rw [if_neg (by omega), if_neg (by omega)]; exact h1
  · rw [am_ru_get, am_su_get, if_pos rfl]
    by_cases e : k = 0
    · subst e; rw [if_pos rfl, if_pos rfl]
    · rw [if_neg (by omega), if_neg (by omega)]; exact h2
theorem am_rk_up {R : am_Ro} {k : Nat} {v : Int32} (h : k = 0 ∨ k = 2 ∨ 7 ≤ k ∧ k < 111) : am_rk R (am_ru R k v) := fun j a b => by rw [am_ru_get, if_neg (by omega)]
theorem am_rk.tr {R R1 R2 : am_Ro} (h1 : am_rk R R1) (h2 : am_rk R1 R2) : am_rk R R2 := fun j a b => (h2 j a b).trans (h1 j a b)
section AMR1
variable {X : am_X} {D q : Nat} {G : am_G}
theorem am_y125 (v b : Int32) {w : am_M} : am_CD X 99 125 [.int v, .int 0, .int b] w = some (some (.int (am_bI (am_wi v b))), w) := am_m125 (D := 98) v 0 b
theorem am_i130_0 {p : Nat} (hp : p < 8) : am_CD X (D + 1) 130 [.ref 114, .int (nI p), .int 0] (am_L0 q, G) = some (some (.int (G 115 (7 + 5 * p + 0))), (am_L0 q, G)) := am_m130 (f := 0) hp (by decide)
theorem am_i131_0 {p : Nat} {v : Int32} (hp : p < 8) : am_CD X (D + 1) 131 [.ref 114, .int (nI p), .int 0, .int v] (am_L0 q, G) = some (none, (am_L0 q, am_up G 115 (7 + 5 * p + 0) v)) := am_m131 (f := 0) hp (by decide)
theorem am_r115_0 : am_ald X (am_L0 q, G) 115 0 = some (G 115 0) := am_r115 (k := 0) (by decide)
theorem am_w115_0 {v : Int32} : am_astM (am_L0 q, G) 115 0 v = some (am_L0 q, am_up G 115 0 v) := am_w115 (k := 0) (by decide)
theorem am_i130_1 {p : Nat} (hp : p < 8) : am_CD X (D + 1) 130 [.ref 114, .int (nI p), .int 1] (am_L0 q, G) = some (some (.int (G 115 (7 + 5 * p + 1))), (am_L0 q, G)) := am_m130 (f := 1) hp (by decide)
theorem am_i131_1 {p : Nat} {v : Int32} (hp : p < 8) : am_CD X (D + 1) 131 [.ref 114, .int (nI p), .int 1, .int v] (am_L0 q, G) = some (none, (am_L0 q, am_up G 115 (7 + 5 * p + 1) v)) := am_m131 (f := 1) hp (by decide)
theorem am_r115_1 : am_ald X (am_L0 q, G) 115 1 = some (G 115 1) := am_r115 (k := 1) (by decide)
theorem am_w115_1 {v : Int32} : am_astM (am_L0 q, G) 115 1 v = some (am_L0 q, am_up G 115 1 v) := am_w115 (k := 1) (by decide)
theorem am_i130_2 {p : Nat} (hp : p < 8) : am_CD X (D + 1) 130 [.ref 114, .int (nI p), .int 2] (am_L0 q, G) = some (some (.int (G 115 (7 + 5 * p + 2))), (am_L0 q, G)) := am_m130 (f := 2) hp (by decide)
theorem am_i131_2 {p : Nat} {v : Int32} (hp : p < 8) : am_CD X (D + 1) 131 [.ref 114, .int (nI p), .int 2, .int v] (am_L0 q, G) = some (none, (am_L0 q, am_up G 115 (7 + 5 * p + 2) v)) := am_m131 (f := 2) hp (by decide)
theorem am_r115_2 : am_ald X (am_L0 q, G) 115 2 = some (G 115 2) := am_r115 (k := 2) (by decide)
theorem am_w115_2 {v : Int32} : am_astM (am_L0 q, G) 115 2 v = some (am_L0 q, am_up G 115 2 v) := am_w115 (k := 2) (by decide)
theorem am_i130_3 {p : Nat} (hp : p < 8) : am_CD X (D + 1) 130 [.ref 114, .int (nI p), .int 3] (am_L0 q, G) = some (some (.int (G 115 (7 + 5 * p + 3))), (am_L0 q, G)) := am_m130 (f := 3) hp (by decide)
theorem am_i131_3 {p : Nat} {v : Int32} (hp : p < 8) : am_CD X (D + 1) 131 [.ref 114, .int (nI p), .int 3, .int v] (am_L0 q, G) = some (none, (am_L0 q, am_up G 115 (7 + 5 * p + 3) v)) := am_m131 (f := 3) hp (by decide)
theorem am_r115_3 : am_ald X (am_L0 q, G) 115 3 = some (G 115 3) := am_r115 (k := 3) (by decide)
theorem am_w115_3 {v : Int32} : am_astM (am_L0 q, G) 115 3 v = some (am_L0 q, am_up G 115 3 v) := am_w115 (k := 3) (by decide)
theorem am_i130_4 {p : Nat} (hp : p < 8) : am_CD X (D + 1) 130 [.ref 114, .int (nI p), .int 4] (am_L0 q, G) = some (some (.int (G 115 (7 + 5 * p + 4))), (am_L0 q, G)) := am_m130 (f := 4) hp (by decide)
theorem am_i131_4 {p : Nat} {v : Int32} (hp : p < 8) : am_CD X (D + 1) 131 [.ref 114, .int (nI p), .int 4, .int v] (am_L0 q, G) = some (none, (am_L0 q, am_up G 115 (7 + 5 * p + 4) v)) := am_m131 (f := 4) hp (by decide)
theorem am_r115_4 : am_ald X (am_L0 q, G) 115 4 = some (G 115 4) := am_r115 (k := 4) (by decide)
theorem am_w115_4 {v : Int32} : am_astM (am_L0 q, G) 115 4 v = some (am_L0 q, am_up G 115 4 v) := am_w115 (k := 4) (by decide)
/-- person -/
theorem am_l135 {km t : Int32} {n : Nat} (h8 : n < 8) (hn : G 115 2 = nI n) (hz : ∀ k, k < 8 → G 115 (47 + 8 * n + k) = 0 ∧ G 115 (47 + 8 * k + n) = 0) : ∀ (d k : Nat), k + d = 8 → am_Rn X 99 (some .int) am_J135 96 [some (.ref 114), some (.int km), some (.int t), some (.int (nI n)), some (.int (nI k))] [] (am_L0 q, G) (some (.int (nI n)), (am_L0 q, am_up G 115 2 (nI (n + 1)))) := by
  intro d
  have hi2 : nI n + 1 = nI (n + 1) := nI_add n 1
  induction d with
  | zero =>
    intro k hk
    obtain rfl : k = 8 := by omega
    have h : ¬ nI 8 < 8 := by decide
    simp only [am_s135_96, am_s135_98, am_s135_100, am_s135_141, am_s135_142, am_s135_145, am_s135_146, am_s135_147, am_s135_148, am_s135_149, am_s135_150, am_s135_151, am_s135_152, h, am_f114_0, am_r115_2, am_w115_2, hn, hi2, eq_self, am_os_some, Option.toList_some, Option.toList_none, List.cons_append, List.nil_append, if_true, if_false, true_and, am_nw1_i, am_nw1_r, am_nw1_n, cond_true]
  | succ d ih =>
    intro k hk
    have h : nI k < 8 := nI_lt (b := 8) (by omega) (by decide)
    have hi : nI k + 1 = nI (k + 1) := nI_add k 1
    obtain ⟨z1, z2⟩ := hz k (by omega)
    simp only [am_s135_96, am_s135_98, am_s135_100, am_s135_103, am_s135_104, am_s135_107, am_s135_109, am_s135_111, am_s135_112, am_s135_113, am_s135_114, am_s135_116, am_s135_117, am_s135_118, am_s135_119, am_s135_120, am_s135_123, am_s135_125, am_s135_127, am_s135_129, am_s135_130, am_s135_131, am_s135_132, am_s135_133, am_s135_134, am_s135_135, h, am_f114_0, am_mul8, am_ad47, nI_add, am_w115 (show 47 + 8 * n + k < 281 by omega), am_w115 (show 47 + 8 * k + n < 281 by omega), am_up_id z1, am_up_id z2, eq_self, am_os_some, Option.toList_some, Option.toList_none, List.cons_append, List.nil_append, if_true, if_false, true_and, am_nw1_i, am_nw1_r, am_nw1_n, cond_true]
    rw [am_s135_138, hi]
    exact ih (k + 1) (by omega)
theorem am_r135 {a b : Int32} {s : am_St} (hs : am_oks s) : am_rO 135 [.int a, .int b] s (am_O81 a b s) := by
  unfold am_O81
  have h8 := hs.1.1.1
  cases h1 : am_wi a 69 with
  | false =>
    refine am_rO_err (k := 1) (r := -1000000001) (by decide) am_ec1.symm fun X q G hc => am_CD_of (M := am_N135) rfl rfl ?_
    have hn : G 115 2 = nI (s.1.1 13 0) := hc.1.1.2.1
    show am_Rn _ _ ((Option.some FieldType.int)) am_J135 0 [some (.ref 114), some (.int a), some (.int b), none, none] [] (am_L0 q, G) _
    simp only [am_s135_0, am_s135_1, am_s135_2, am_s135_4, am_s135_7, am_s135_10, am_s135_11, am_s135_12, am_s135_14, am_s135_17, am_s135_20, am_s135_21, am_s135_23, am_s135_26, am_s135_27, am_s135_28, am_s135_31, am_s135_32, am_s135_33, am_s135_35, am_s135_38, am_s135_39, am_s135_41, am_s135_44, am_s135_45, am_s135_46, am_s135_49, am_s135_50, am_s135_51, am_s135_52, am_s135_53, am_s135_54, am_s135_55, am_s135_56, am_s135_58, am_s135_59, am_s135_62, am_s135_63, am_s135_64, am_s135_65, am_s135_66, am_s135_68, am_s135_69, am_s135_72, am_s135_73, am_s135_74, am_s135_75, am_s135_76, am_s135_79, am_s135_80, am_s135_81, am_s135_82, am_s135_83, am_s135_86, am_s135_87, am_s135_88, am_s135_89, am_s135_90, am_s135_93, am_s135_94, h1, am_cal_ok am_cat_0 am_v114 (am_d1 (D := 98)), am_cal_ok am_cat_0 am_v114 (am_d2 (D := 98)), am_cal_ok am_cat_0 am_v114 (am_d3 (D := 98)), am_cal_ok am_cat_0 am_v114 (am_d4 (D := 98)), am_cal_ok am_cat_0 am_v114 (am_d5 (D := 98)), am_cal_ok am_cat_0 am_rcv_f (am_y125 _ _), am_cal_ok am_cat_0 am_rcv_f (am_m183 (D := 97) _), am_bI0, am_f114_0, am_er_f, am_sy_f, Bool.false_and, Bool.and_false, reduceCtorEq, not_false_eq_true, not_true_eq_false, eq_self, am_os_some, Option.toList_some, Option.toList_none, List.cons_append, List.nil_append, if_true, if_false, true_and, am_nw1_i, am_nw1_r, am_nw1_n, cond_true]
  | true =>
    cases h2 : am_wi b 15 with
    | false =>
      refine am_rO_err (k := 1) (r := -1000000001) (by decide) am_ec1.symm fun X q G hc => am_CD_of (M := am_N135) rfl rfl ?_
      have hn : G 115 2 = nI (s.1.1 13 0) := hc.1.1.2.1
      show am_Rn _ _ ((Option.some FieldType.int)) am_J135 0 [some (.ref 114), some (.int a), some (.int b), none, none] [] (am_L0 q, G) _
      simp only [am_s135_0, am_s135_1, am_s135_2, am_s135_4, am_s135_7, am_s135_10, am_s135_11, am_s135_12, am_s135_14, am_s135_17, am_s135_20, am_s135_21, am_s135_23, am_s135_26, am_s135_27, am_s135_28, am_s135_31, am_s135_32, am_s135_33, am_s135_35, am_s135_38, am_s135_39, am_s135_41, am_s135_44, am_s135_45, am_s135_46, am_s135_49, am_s135_50, am_s135_51, am_s135_52, am_s135_53, am_s135_54, am_s135_55, am_s135_56, am_s135_58, am_s135_59, am_s135_62, am_s135_63, am_s135_64, am_s135_65, am_s135_66, am_s135_68, am_s135_69, am_s135_72, am_s135_73, am_s135_74, am_s135_75, am_s135_76, am_s135_79, am_s135_80, am_s135_81, am_s135_82, am_s135_83, am_s135_86, am_s135_87, am_s135_88, am_s135_89, am_s135_90, am_s135_93, am_s135_94, h1, h2, am_cal_ok am_cat_0 am_v114 (am_d1 (D := 98)), am_cal_ok am_cat_0 am_v114 (am_d2 (D := 98)), am_cal_ok am_cat_0 am_v114 (am_d3 (D := 98)), am_cal_ok am_cat_0 am_v114 (am_d4 (D := 98)), am_cal_ok am_cat_0 am_v114 (am_d5 (D := 98)), am_cal_ok am_cat_0 am_rcv_f (am_y125 _ _), am_cal_ok am_cat_0 am_rcv_f (am_m183 (D := 97) _), am_bI0, am_f114_0, am_er_f, am_sy_f, Bool.false_and, Bool.and_false, reduceCtorEq, not_false_eq_true, not_true_eq_false, eq_self, am_os_some, Option.toList_some, Option.toList_none, List.cons_append, List.nil_append, if_true, if_false, true_and, am_nw1_i, am_nw1_r, am_nw1_n, cond_true]
    | true =>
      rw [if_neg (by decide)]
      by_cases h3 : 8 ≤ s.1.1 13 0
      · rw [if_pos h3]
        refine am_rO_err (k := 4) (r := -1000000004) (by decide) am_ec4.symm fun X q G hc => am_CD_of (M := am_N135) rfl rfl ?_
        have hn : G 115 2 = nI (s.1.1 13 0) := hc.1.1.2.1
        have h4 : (nI (s.1.1 13 0) = 8) = True := by rw [show s.1.1 13 0 = 8 by omega]; decide
        show am_Rn _ _ ((Option.some FieldType.int)) am_J135 0 [some (.ref 114), some (.int a), some (.int b), none, none] [] (am_L0 q, G) _
        simp only [am_s135_0, am_s135_1, am_s135_2, am_s135_4, am_s135_7, am_s135_10, am_s135_11, am_s135_12, am_s135_14, am_s135_17, am_s135_20, am_s135_21, am_s135_23, am_s135_26, am_s135_27, am_s135_28, am_s135_31, am_s135_32, am_s135_33, am_s135_35, am_s135_38, am_s135_39, am_s135_41, am_s135_44, am_s135_45, am_s135_46, am_s135_49, am_s135_50, am_s135_51, am_s135_52, am_s135_53, am_s135_54, am_s135_55, am_s135_56, am_s135_58, am_s135_59, am_s135_62, am_s135_63, am_s135_64, am_s135_65, am_s135_66, am_s135_68, am_s135_69, am_s135_72, am_s135_73, am_s135_74, am_s135_75, am_s135_76, am_s135_79, am_s135_80, am_s135_81, am_s135_82, am_s135_83, am_s135_86, am_s135_87, am_s135_88, am_s135_89, am_s135_90, am_s135_93, am_s135_94, h1, h2, am_r115_2, hn, h4, am_cal_ok am_cat_0 am_v114 (am_d1 (D := 98)), am_cal_ok am_cat_0 am_v114 (am_d2 (D := 98)), am_cal_ok am_cat_0 am_v114 (am_d3 (D := 98)), am_cal_ok am_cat_0 am_v114 (am_d4 (D := 98)), am_cal_ok am_cat_0 am_v114 (am_d5 (D := 98)), am_cal_ok am_cat_0 am_rcv_f (am_y125 _ _), am_cal_ok am_cat_0 am_rcv_f (am_m183 (D := 97) _), am_bI0, am_f114_0, am_er_f, am_sy_f, Bool.false_and, Bool.and_false, reduceCtorEq, not_false_eq_true, not_true_eq_false, eq_self, am_os_some, Option.toList_some, Option.toList_none, List.cons_append, List.nil_append, if_true, if_false, true_and, am_nw1_i, am_nw1_r, am_nw1_n, cond_true]
      · rw [if_neg h3]
        intro N xs q G hc
        have hn : G 115 2 = nI (s.1.1 13 0) := hc.1.1.2.1
        obtain ⟨a1, a2⟩ := am_wi_nI (n := 69) (by decide) h1
        obtain ⟨b1, b2⟩ := am_wi_nI (n := 15) (by decide) h2
        generalize a.toNatClampNeg = km at a1 a2
        generalize b.toNatClampNeg = t at b1 b2
        subst a2 b2
        have hw := hs.1.1
        generalize hS : s.1.1 = S at hn h3 hw
        have hp : am_rp (G 115) S := hS ▸ hc.1.1
        have n8 : S 13 0 < 8 := by omega
        have h4 : ¬ nI (S 13 0) = 8 := fun e => by have := (nI_eq (b := 8) (by omega) (by decide)).mp e; omega
        have d : nI km / 10 = nI (km / 10) := pk_div (d := 10) (by omega) (by decide) (by decide)
        have r : nI km - nI km / 10 * 10 = nI (km % 10) := pk_rem (d := 10) (by omega) (by decide) (by decide)
        rw [d] at r
        have e10 : ((10 : Int32) = 0) = False := by decide
        generalize hG1 : am_up (am_up (am_up G 115 (7 + 5 * S 13 0 + 0) (nI (km / 10))) 115 (7 + 5 * S 13 0 + 1) (nI (km % 10))) 115 (7 + 5 * S 13 0 + 2) (nI t) = G1
        have R1 : G1 115 = am_ru (am_ru (am_ru (G 115) (7 + 5 * S 13 0 + 0) (nI (km / 10))) (7 + 5 * S 13 0 + 1) (nI (km % 10))) (7 + 5 * S 13 0 + 2) (nI t) := by rw [← hG1, am_up_row, am_up_row, am_up_row]
        have p1 : am_rp (G1 115) (am_su (am_su (am_su S 0 (S 13 0) (km / 10)) 1 (S 13 0) (km % 10)) 2 (S 13 0) t) := by rw [R1]; exact am_rp_up (am_rp_up (am_rp_up hp (by decide) n8) (by decide) n8) (by decide) n8
        have o1 : ∀ k, k < 7 ∨ 7 + 5 * S 13 0 + 2 < k → G1 115 k = G 115 k := fun k hk => by rw [R1, am_ru_get, if_neg (by omega), am_ru_get, if_neg (by omega), am_ru_get, if_neg (by omega)]
        have z3 : G1 115 (7 + 5 * S 13 0 + 3) = 0 := by rw [o1 _ (by omega), hp.2.2.1 _ 3 n8 (by decide), (hw.2.2.2.1 _ (Nat.le_refl _) n8).1]; rfl
        have z4 : G1 115 (7 + 5 * S 13 0 + 4) = 0 := by rw [o1 _ (by omega), hp.2.2.1 _ 4 n8 (by decide), (hw.2.2.2.1 _ (Nat.le_refl _) n8).2]; rfl
        have zd : ∀ k, k < 8 → G1 115 (47 + 8 * S 13 0 + k) = 0 ∧ G1 115 (47 + 8 * k + S 13 0) = 0 := fun k hk => by
          rw [o1 _ (by omega), o1 _ (by omega), hp.2.2.2 _ k n8 hk, hp.2.2.2 k _ hk n8, hw.2.2.2.2 _ k n8 hk (Or.inl (Nat.le_refl _)), hw.2.2.2.2 k _ hk n8 (Or.inr (Or.inl (Nat.le_refl _)))]
          exact ⟨rfl, rfl⟩
        have hn1 : G1 115 2 = nI (S 13 0) := by rw [o1 _ (by omega)]; exact hn
        have fr : ∀ i j, i ≠ 115 → am_up G1 115 2 (nI (S 13 0 + 1)) i j = G i j := fun i j h => by rw [am_up_get, if_neg h, ← hG1, am_up_get, if_neg h, am_up_get, if_neg h, am_up_get, if_neg h]
        refine ⟨am_up G1 115 2 (nI (S 13 0 + 1)), fun i j hi => fr i j (by omega), ?_, am_CD_of (M := am_N135) rfl rfl ?_⟩
        · refine am_rfl_W hc (fun i j _ h _ _ _ _ _ => fr i j h) ?_
          rw [am_up_row]
          refine am_rw8_S hc.1 ?_ (am_rp_ups (k := 0) p1 (by decide))
          refine am_rk.tr ?_ (am_rk_up (by omega))
          rw [R1]
          exact ((am_rk_up (by omega)).tr (am_rk_up (by omega))).tr (am_rk_up (by omega))
        · show am_Rn _ _ ((Option.some FieldType.int)) am_J135 0 [some (.ref 114), some (.int (nI km)), some (.int (nI t)), none, none] [] (am_L0 q, G) _
          simp only [am_s135_0, am_s135_1, am_s135_2, am_s135_4, am_s135_7, am_s135_10, am_s135_11, am_s135_12, am_s135_14, am_s135_17, am_s135_20, am_s135_21, am_s135_23, am_s135_26, am_s135_27, am_s135_28, am_s135_31, am_s135_32, am_s135_33, am_s135_35, am_s135_38, am_s135_39, am_s135_41, am_s135_44, am_s135_45, am_s135_46, am_s135_49, am_s135_50, am_s135_51, am_s135_52, am_s135_53, am_s135_54, am_s135_55, am_s135_56, am_s135_58, am_s135_59, am_s135_62, am_s135_63, am_s135_64, am_s135_65, am_s135_66, am_s135_68, am_s135_69, am_s135_72, am_s135_73, am_s135_74, am_s135_75, am_s135_76, am_s135_79, am_s135_80, am_s135_81, am_s135_82, am_s135_83, am_s135_86, am_s135_87, am_s135_88, am_s135_89, am_s135_90, am_s135_93, am_s135_94, h1, h2, am_r115_2, hn, h4, am_cal_ok am_cat_0 am_v114 (am_i131_0 (D := 98) n8), am_cal_ok am_cat_0 am_v114 (am_i131_1 (D := 98) n8), am_cal_ok am_cat_0 am_v114 (am_i131_2 (D := 98) n8), am_cal_ok am_cat_0 am_v114 (am_i131_3 (D := 98) n8), am_cal_ok am_cat_0 am_v114 (am_i131_4 (D := 98) n8), e10, d, r, hG1, am_up_id z3, am_up_id z4, am_cal_ok am_cat_0 am_v114 (am_d1 (D := 98)), am_cal_ok am_cat_0 am_v114 (am_d2 (D := 98)), am_cal_ok am_cat_0 am_v114 (am_d3 (D := 98)), am_cal_ok am_cat_0 am_v114 (am_d4 (D := 98)), am_cal_ok am_cat_0 am_v114 (am_d5 (D := 98)), am_cal_ok am_cat_0 am_rcv_f (am_y125 _ _), am_cal_ok am_cat_0 am_rcv_f (am_m183 (D := 97) _), am_bI0, am_f114_0, am_er_f, am_sy_f, Bool.false_and, Bool.and_false, reduceCtorEq, not_false_eq_true, not_true_eq_false, eq_self, am_os_some, Option.toList_some, Option.toList_none, List.cons_append, List.nil_append, if_true, if_false, true_and, am_nw1_i, am_nw1_r, am_nw1_n, cond_true]
          exact am_l135 n8 hn1 zd 8 0 rfl
/-- owe, owes -/
theorem am_r139 {a b c : Int32} {s : am_St} (hs : am_oks s) : am_rO 139 [.int a, .int b, .int c] s (am_O84 a b c s) := by
  unfold am_O84
  have h8 := hs.1.1.1
  cases h1 : am_ipp (s.1.1 13 0) a b with
  | false =>
    refine am_rO_err (k := 1) (r := -1000000001) (by decide) am_ec1.symm fun X q G hc => am_CD_of (M := am_N139) rfl rfl ?_
    have hn : G 115 2 = nI (s.1.1 13 0) := hc.1.1.2.1
    show am_Rn _ _ ((Option.some FieldType.int)) am_J139 0 [some (.ref 114), some (.int a), some (.int b), some (.int c)] [] (am_L0 q, G) _
    simp only [am_s139_0, am_s139_1, am_s139_2, am_s139_3, am_s139_6, am_s139_9, am_s139_10, am_s139_11, am_s139_13, am_s139_16, am_s139_19, am_s139_20, am_s139_22, am_s139_24, am_s139_25, am_s139_26, am_s139_27, am_s139_28, am_s139_29, am_s139_30, am_s139_33, am_s139_36, am_s139_37, am_s139_39, am_s139_42, am_cal_ok am_cat_0 am_v114 (am_m138 (D := 96) h8 hn _ _), h1, am_cal_ok am_cat_0 am_v114 (am_d1 (D := 98)), am_cal_ok am_cat_0 am_v114 (am_d2 (D := 98)), am_cal_ok am_cat_0 am_v114 (am_d3 (D := 98)), am_cal_ok am_cat_0 am_v114 (am_d4 (D := 98)), am_cal_ok am_cat_0 am_v114 (am_d5 (D := 98)), am_cal_ok am_cat_0 am_rcv_f (am_y125 _ _), am_cal_ok am_cat_0 am_rcv_f (am_m183 (D := 97) _), am_bI0, am_f114_0, am_er_f, am_sy_f, Bool.false_and, Bool.and_false, reduceCtorEq, not_false_eq_true, not_true_eq_false, eq_self, am_os_some, Option.toList_some, Option.toList_none, List.cons_append, List.nil_append, if_true, if_false, true_and, am_nw1_i, am_nw1_r, am_nw1_n, cond_true]
  | true =>
    cases h2 : am_wi c 99 with
    | false =>
      refine am_rO_err (k := 1) (r := -1000000001) (by decide) am_ec1.symm fun X q G hc => am_CD_of (M := am_N139) rfl rfl ?_
      have hn : G 115 2 = nI (s.1.1 13 0) := hc.1.1.2.1
      show am_Rn _ _ ((Option.some FieldType.int)) am_J139 0 [some (.ref 114), some (.int a), some (.int b), some (.int c)] [] (am_L0 q, G) _
      simp only [am_s139_0, am_s139_1, am_s139_2, am_s139_3, am_s139_6, am_s139_9, am_s139_10, am_s139_11, am_s139_13, am_s139_16, am_s139_19, am_s139_20, am_s139_22, am_s139_24, am_s139_25, am_s139_26, am_s139_27, am_s139_28, am_s139_29, am_s139_30, am_s139_33, am_s139_36, am_s139_37, am_s139_39, am_s139_42, am_cal_ok am_cat_0 am_v114 (am_m138 (D := 96) h8 hn _ _), h1, h2, am_cal_ok am_cat_0 am_v114 (am_d1 (D := 98)), am_cal_ok am_cat_0 am_v114 (am_d2 (D := 98)), am_cal_ok am_cat_0 am_v114 (am_d3 (D := 98)), am_cal_ok am_cat_0 am_v114 (am_d4 (D := 98)), am_cal_ok am_cat_0 am_v114 (am_d5 (D := 98)), am_cal_ok am_cat_0 am_rcv_f (am_y125 _ _), am_cal_ok am_cat_0 am_rcv_f (am_m183 (D := 97) _), am_bI0, am_f114_0, am_er_f, am_sy_f, Bool.false_and, Bool.and_false, reduceCtorEq, not_false_eq_true, not_true_eq_false, eq_self, am_os_some, Option.toList_some, Option.toList_none, List.cons_append, List.nil_append, if_true, if_false, true_and, am_nw1_i, am_nw1_r, am_nw1_n, cond_true]
    | true =>
      rw [if_neg (by decide)]
      obtain ⟨a1, a2, b1, b2, ab⟩ := am_ipp_nI h8 h1
      have cc := (am_wi_nI (n := 99) (by decide) h2).2
      generalize a.toNatClampNeg = p at a1 a2
      generalize b.toNatClampNeg = r at b1 b2
      subst a2 b2
      intro N xs q G hc
      have hn : G 115 2 = nI (s.1.1 13 0) := hc.1.1.2.1
      have kk := hc.1.1.2.2.2 p r (by omega) (by omega)
      have fr : ∀ i j, i ≠ 115 → am_up G 115 (47 + 8 * p + r) (nI c.toNatClampNeg) i j = G i j := fun i j h => by rw [am_up_get, if_neg h]
      refine ⟨am_up G 115 (47 + 8 * p + r) (nI c.toNatClampNeg), fun i j hi => fr i j (by omega), am_rfl_W hc (fun i j _ h _ _ _ _ _ => fr i j h) (by rw [am_up_row]; exact am_rw8_S hc.1 (am_rk_up (by omega)) (am_rp_upd hc.1.1 (by omega) (by omega))), am_CD_of (M := am_N139) rfl rfl ?_⟩
      rw [← cc]
      show am_Rn _ _ ((Option.some FieldType.int)) am_J139 0 [some (.ref 114), some (.int (nI p)), some (.int (nI r)), some (.int c)] [] (am_L0 q, G) _
      simp only [am_s139_0, am_s139_1, am_s139_2, am_s139_3, am_s139_6, am_s139_9, am_s139_10, am_s139_11, am_s139_13, am_s139_16, am_s139_19, am_s139_20, am_s139_22, am_s139_24, am_s139_25, am_s139_26, am_s139_27, am_s139_28, am_s139_29, am_s139_30, am_s139_33, am_s139_36, am_s139_37, am_s139_39, am_s139_42, am_cal_ok am_cat_0 am_v114 (am_m138 (D := 96) h8 hn _ _), h1, h2, am_mul8, am_ad47, nI_add, am_cal_ok am_cat_0 am_v114 (am_m134 (D := 98) (show 47 + 8 * p + r < 281 by omega)), kk, am_cal_ok am_cat_0 am_v114 (am_d1 (D := 98)), am_cal_ok am_cat_0 am_v114 (am_d2 (D := 98)), am_cal_ok am_cat_0 am_v114 (am_d3 (D := 98)), am_cal_ok am_cat_0 am_v114 (am_d4 (D := 98)), am_cal_ok am_cat_0 am_v114 (am_d5 (D := 98)), am_cal_ok am_cat_0 am_rcv_f (am_y125 _ _), am_cal_ok am_cat_0 am_rcv_f (am_m183 (D := 97) _), am_bI0, am_f114_0, am_er_f, am_sy_f, Bool.false_and, Bool.and_false, reduceCtorEq, not_false_eq_true, not_true_eq_false, eq_self, am_os_some, Option.toList_some, Option.toList_none, List.cons_append, List.nil_append, if_true, if_false, true_and, am_nw1_i, am_nw1_r, am_nw1_n, cond_true]
theorem am_r140 {a b : Int32} {s : am_St} (hs : am_oks s) : am_rO 140 [.int a, .int b] s (am_O85 a b s) := by
  unfold am_O85
  have h8 := hs.1.1.1
  cases h1 : am_ipp (s.1.1 13 0) a b with
  | false =>
    refine am_rO_err (k := 1) (r := -1000000001) (by decide) am_ec1.symm fun X q G hc => am_CD_of (M := am_N140) rfl rfl ?_
    have hn : G 115 2 = nI (s.1.1 13 0) := hc.1.1.2.1
    show am_Rn _ _ ((Option.some FieldType.int)) am_J140 0 [some (.ref 114), some (.int a), some (.int b)] [] (am_L0 q, G) _
    simp only [am_s140_0, am_s140_1, am_s140_2, am_s140_3, am_s140_6, am_s140_9, am_s140_10, am_s140_11, am_s140_12, am_s140_15, am_s140_18, am_s140_19, am_s140_21, am_s140_24, am_cal_ok am_cat_0 am_v114 (am_m138 (D := 96) h8 hn _ _), h1, am_cal_ok am_cat_0 am_v114 (am_d1 (D := 98)), am_cal_ok am_cat_0 am_v114 (am_d2 (D := 98)), am_cal_ok am_cat_0 am_v114 (am_d3 (D := 98)), am_cal_ok am_cat_0 am_v114 (am_d4 (D := 98)), am_cal_ok am_cat_0 am_v114 (am_d5 (D := 98)), am_cal_ok am_cat_0 am_rcv_f (am_y125 _ _), am_cal_ok am_cat_0 am_rcv_f (am_m183 (D := 97) _), am_bI0, am_f114_0, am_er_f, am_sy_f, Bool.false_and, Bool.and_false, reduceCtorEq, not_false_eq_true, not_true_eq_false, eq_self, am_os_some, Option.toList_some, Option.toList_none, List.cons_append, List.nil_append, if_true, if_false, true_and, am_nw1_i, am_nw1_r, am_nw1_n, cond_true]
  | true =>
    rw [if_neg (by decide)]
    obtain ⟨a1, a2, b1, b2, ab⟩ := am_ipp_nI h8 h1
    generalize a.toNatClampNeg = p at a1 a2
    generalize b.toNatClampNeg = r at b1 b2
    subst a2 b2
    refine am_rO_same fun N xs q G hc => ?_
    have hn : G 115 2 = nI (s.1.1 13 0) := hc.1.1.2.1
    have kk := hc.1.1.2.2.2 p r (by omega) (by omega)
    refine ⟨G, fun _ _ _ => rfl, fun _ _ _ _ _ _ _ _ => rfl, am_CD_of (M := am_N140) rfl rfl ?_⟩
    show am_Rn _ _ ((Option.some FieldType.int)) am_J140 0 [some (.ref 114), some (.int (nI p)), some (.int (nI r))] [] (am_L0 q, G) _
    simp only [am_s140_0, am_s140_1, am_s140_2, am_s140_3, am_s140_6, am_s140_9, am_s140_10, am_s140_11, am_s140_12, am_s140_15, am_s140_18, am_s140_19, am_s140_21, am_s140_24, am_cal_ok am_cat_0 am_v114 (am_m138 (D := 96) h8 hn _ _), h1, am_cal_ok am_cat_0 am_v114 (am_m133 (D := 98) (show p < 8 by omega) (show r < 8 by omega)), kk, am_cal_ok am_cat_0 am_v114 (am_d1 (D := 98)), am_cal_ok am_cat_0 am_v114 (am_d2 (D := 98)), am_cal_ok am_cat_0 am_v114 (am_d3 (D := 98)), am_cal_ok am_cat_0 am_v114 (am_d4 (D := 98)), am_cal_ok am_cat_0 am_v114 (am_d5 (D := 98)), am_cal_ok am_cat_0 am_rcv_f (am_y125 _ _), am_cal_ok am_cat_0 am_rcv_f (am_m183 (D := 97) _), am_bI0, am_f114_0, am_er_f, am_sy_f, Bool.false_and, Bool.and_false, reduceCtorEq, not_false_eq_true, not_true_eq_false, eq_self, am_os_some, Option.toList_some, Option.toList_none, List.cons_append, List.nil_append, if_true, if_false, true_and, am_nw1_i, am_nw1_r, am_nw1_n, cond_true]
/-- become -/
theorem am_r141 {a b : Int32} {s : am_St} (hs : am_oks s) : am_rO 141 [.int a, .int b] s (am_O86 a b s) := by
  unfold am_O86
  have h8 := hs.1.1.1
  cases h1 : am_ip (s.1.1 13 0) a with
  | false =>
    refine am_rO_err (k := 1) (r := -1000000001) (by decide) am_ec1.symm fun X q G hc => am_CD_of (M := am_N141) rfl rfl ?_
    have hn : G 115 2 = nI (s.1.1 13 0) := hc.1.1.2.1
    show am_Rn _ _ ((Option.some FieldType.int)) am_J141 0 [some (.ref 114), some (.int a), some (.int b)] [] (am_L0 q, G) _
    simp only [am_s141_0, am_s141_1, am_s141_2, am_s141_5, am_s141_8, am_s141_9, am_s141_10, am_s141_12, am_s141_15, am_s141_18, am_s141_19, am_s141_21, am_s141_24, am_s141_25, am_s141_26, am_s141_27, am_s141_28, am_s141_29, am_s141_31, am_s141_32, am_s141_35, am_s141_36, am_s141_38, am_s141_39, am_s141_40, am_s141_41, am_s141_42, am_s141_43, am_s141_45, am_s141_46, am_s141_49, am_cal_ok am_cat_0 am_v114 (am_y132 (D := 97) h8 hn _), h1, am_cal_ok am_cat_0 am_v114 (am_d1 (D := 98)), am_cal_ok am_cat_0 am_v114 (am_d2 (D := 98)), am_cal_ok am_cat_0 am_v114 (am_d3 (D := 98)), am_cal_ok am_cat_0 am_v114 (am_d4 (D := 98)), am_cal_ok am_cat_0 am_v114 (am_d5 (D := 98)), am_cal_ok am_cat_0 am_rcv_f (am_y125 _ _), am_cal_ok am_cat_0 am_rcv_f (am_m183 (D := 97) _), am_bI0, am_f114_0, am_er_f, am_sy_f, Bool.false_and, Bool.and_false, reduceCtorEq, not_false_eq_true, not_true_eq_false, eq_self, am_os_some, Option.toList_some, Option.toList_none, List.cons_append, List.nil_append, if_true, if_false, true_and, am_nw1_i, am_nw1_r, am_nw1_n, cond_true]
  | true =>
    cases h2 : am_wi b 69 with
    | false =>
      refine am_rO_err (k := 1) (r := -1000000001) (by decide) am_ec1.symm fun X q G hc => am_CD_of (M := am_N141) rfl rfl ?_
      have hn : G 115 2 = nI (s.1.1 13 0) := hc.1.1.2.1
      show am_Rn _ _ ((Option.some FieldType.int)) am_J141 0 [some (.ref 114), some (.int a), some (.int b)] [] (am_L0 q, G) _
      simp only [am_s141_0, am_s141_1, am_s141_2, am_s141_5, am_s141_8, am_s141_9, am_s141_10, am_s141_12, am_s141_15, am_s141_18, am_s141_19, am_s141_21, am_s141_24, am_s141_25, am_s141_26, am_s141_27, am_s141_28, am_s141_29, am_s141_31, am_s141_32, am_s141_35, am_s141_36, am_s141_38, am_s141_39, am_s141_40, am_s141_41, am_s141_42, am_s141_43, am_s141_45, am_s141_46, am_s141_49, am_cal_ok am_cat_0 am_v114 (am_y132 (D := 97) h8 hn _), h1, h2, am_cal_ok am_cat_0 am_v114 (am_d1 (D := 98)), am_cal_ok am_cat_0 am_v114 (am_d2 (D := 98)), am_cal_ok am_cat_0 am_v114 (am_d3 (D := 98)), am_cal_ok am_cat_0 am_v114 (am_d4 (D := 98)), am_cal_ok am_cat_0 am_v114 (am_d5 (D := 98)), am_cal_ok am_cat_0 am_rcv_f (am_y125 _ _), am_cal_ok am_cat_0 am_rcv_f (am_m183 (D := 97) _), am_bI0, am_f114_0, am_er_f, am_sy_f, Bool.false_and, Bool.and_false, reduceCtorEq, not_false_eq_true, not_true_eq_false, eq_self, am_os_some, Option.toList_some, Option.toList_none, List.cons_append, List.nil_append, if_true, if_false, true_and, am_nw1_i, am_nw1_r, am_nw1_n, cond_true]
    | true =>
      rw [if_neg (by decide)]
      obtain ⟨a1, a2⟩ := am_ip_nI h8 h1
      obtain ⟨b1, b2⟩ := am_wi_nI (n := 69) (by decide) h2
      generalize a.toNatClampNeg = p at a1 a2
      generalize b.toNatClampNeg = km at b1 b2
      subst a2 b2
      have p8 : p < 8 := by omega
      intro N xs q G hc
      have hn : G 115 2 = nI (s.1.1 13 0) := hc.1.1.2.1
      have d : nI km / 10 = nI (km / 10) := pk_div (d := 10) (by omega) (by decide) (by decide)
      have r : nI km - nI km / 10 * 10 = nI (km % 10) := pk_rem (d := 10) (by omega) (by decide) (by decide)
      rw [d] at r
      have e10 : ((10 : Int32) = 0) = False := by decide
      have k0 := hc.1.1.2.2.1 p 0 p8 (by decide)
      have k0' : am_up G 115 (7 + 5 * p + 1) (nI (km % 10)) 115 (7 + 5 * p) = nI (s.1.1 0 p) := by rw [am_up_get, if_pos rfl, if_neg (by omega)]; exact k0
      have sw : am_ru (am_ru (G 115) (7 + 5 * p + 1) (nI (km % 10))) (7 + 5 * p) (nI (km / 10)) = am_ru (am_ru (G 115) (7 + 5 * p + 0) (nI (km / 10))) (7 + 5 * p + 1) (nI (km % 10)) := funext fun j => by
        simp only [am_ru_get]
        by_cases e : j = 7 + 5 * p
        · rw [if_pos e, if_neg (by omega), if_pos (by omega)]
        · rw [if_neg e]
          by_cases e2 : j = 7 + 5 * p + 1
          · rw [if_pos e2, if_pos e2]
          · rw [if_neg e2, if_neg e2, if_neg (by omega)]
      have fr : ∀ i j, i ≠ 115 → am_up (am_up G 115 (7 + 5 * p + 1) (nI (km % 10))) 115 (7 + 5 * p) (nI (km / 10)) i j = G i j := fun i j h => by rw [am_up_get, if_neg h, am_up_get, if_neg h]
      refine ⟨am_up (am_up G 115 (7 + 5 * p + 1) (nI (km % 10))) 115 (7 + 5 * p) (nI (km / 10)), fun i j hi => fr i j (by omega), am_rfl_W hc (fun i j _ h _ _ _ _ _ => fr i j h) (by rw [am_up_row, am_up_row, sw]; exact am_rw8_S hc.1 ((am_rk_up (by omega)).tr (am_rk_up (by omega))) (am_rp_up (am_rp_up hc.1.1 (by decide) p8) (by decide) p8)), am_CD_of (M := am_N141) rfl rfl ?_⟩
      show am_Rn _ _ ((Option.some FieldType.int)) am_J141 0 [some (.ref 114), some (.int (nI p)), some (.int (nI km))] [] (am_L0 q, G) _
      simp only [am_s141_0, am_s141_1, am_s141_2, am_s141_5, am_s141_8, am_s141_9, am_s141_10, am_s141_12, am_s141_15, am_s141_18, am_s141_19, am_s141_21, am_s141_24, am_s141_25, am_s141_26, am_s141_27, am_s141_28, am_s141_29, am_s141_31, am_s141_32, am_s141_35, am_s141_36, am_s141_38, am_s141_39, am_s141_40, am_s141_41, am_s141_42, am_s141_43, am_s141_45, am_s141_46, am_s141_49, am_cal_ok am_cat_0 am_v114 (am_y132 (D := 97) h8 hn _), h1, h2, e10, d, r, am_cal_ok am_cat_0 am_v114 (am_i131_1 (D := 98) p8), am_mul5, am_ad7, am_cal_ok am_cat_0 am_v114 (am_m134 (D := 98) (show 7 + 5 * p < 281 by omega)), k0', am_cal_ok am_cat_0 am_v114 (am_d1 (D := 98)), am_cal_ok am_cat_0 am_v114 (am_d2 (D := 98)), am_cal_ok am_cat_0 am_v114 (am_d3 (D := 98)), am_cal_ok am_cat_0 am_v114 (am_d4 (D := 98)), am_cal_ok am_cat_0 am_v114 (am_d5 (D := 98)), am_cal_ok am_cat_0 am_rcv_f (am_y125 _ _), am_cal_ok am_cat_0 am_rcv_f (am_m183 (D := 97) _), am_bI0, am_f114_0, am_er_f, am_sy_f, Bool.false_and, Bool.and_false, reduceCtorEq, not_false_eq_true, not_true_eq_false, eq_self, am_os_some, Option.toList_some, Option.toList_none, List.cons_append, List.nil_append, if_true, if_false, true_and, am_nw1_i, am_nw1_r, am_nw1_n, cond_true]
end AMR1
