/-! THE REFERENCE: sheet, put -/
theorem am_rsh_fr {G G' : am_G} {i : Nat} {x : Int32 × Nat × (Nat → Int32)} (h : am_rsh G i x) (h0 : G' 120 i = G 120 i) (h1 : G' 121 i = G 121 i) (h2 : ∀ k, k < 40 → G' 122 (40 * i + k) = G 122 (40 * i + k)) : am_rsh G' i x := ⟨h0.trans h.1, h1.trans h.2.1, fun k hk => (h2 k hk).trans (h.2.2 k hk)⟩
theorem am_rfl_H {G G' : am_G} {s : am_St} {j : Nat} {x : Int32 × Nat × (Nat → Int32)} (h : am_rfl G s) (hf : ∀ i k, 114 ≤ i → i ≠ 117 → i ≠ 118 → i ≠ 123 → i ≠ 124 → i ≠ 120 → i ≠ 121 → i ≠ 122 → G' i k = G i k) (h2 : ∀ i, i < 4 → i ≠ j → G' 120 i = G 120 i ∧ G' 121 i = G 121 i ∧ ∀ k, k < 40 → G' 122 (40 * i + k) = G 122 (40 * i + k)) (h1 : am_rsh G' j x) : am_rfl G' (am_sH j x s) := by
  obtain ⟨x1, x2, x3, x4, x5, x6, x7, x8⟩ := h
  have e : ∀ i, 114 ≤ i → i ≠ 117 → i ≠ 118 → i ≠ 123 → i ≠ 124 → i ≠ 120 → i ≠ 121 → i ≠ 122 → G' i = G i := fun i a b c d e f g h => funext fun k => hf i k a b c d e f g h
  refine ⟨by rw [e 115 (by decide) (by decide) (by decide) (by decide) (by decide) (by decide) (by decide) (by decide)]; exact x1, fun hc => by rw [e 116 (by decide) (by decide) (by decide) (by decide) (by decide) (by decide) (by decide) (by decide)]; exact x2 hc, by rw [e 114 (by decide) (by decide) (by decide) (by decide) (by decide) (by decide) (by decide) (by decide)]; exact x3, by rw [e 114 (by decide) (by decide) (by decide) (by decide) (by decide) (by decide) (by decide) (by decide)]; exact x4, fun k hk => by rw [e 119 (by decide) (by decide) (by decide) (by decide) (by decide) (by decide) (by decide) (by decide)]; exact x5 k hk, by rw [e 114 (by decide) (by decide) (by decide) (by decide) (by decide) (by decide) (by decide) (by decide)]; exact x6, by rw [e 114 (by decide) (by decide) (by decide) (by decide) (by decide) (by decide) (by decide) (by decide), e 125 (by decide) (by decide) (by decide) (by decide) (by decide) (by decide) (by decide) (by decide)]; exact x7, fun i hi => ?_⟩
  show am_rsh G' i (if i = j then x else s.2.2.2.2.2 i)
  by_cases c : i = j
  · rw [if_pos c, c]; exact h1
  · rw [if_neg c]
    obtain ⟨y1, y2, y3⟩ := h2 i hi c
    exact am_rsh_fr (x8 i hi) y1 y2 y3
theorem am_sgn_0 (b : Int32) : am_sgn b 0 = 0 := by
  have e1 : (0 : Int32).toInt8.toInt32 = 0 := by decide
  have e2 : (0 : Int32).toInt16.toInt32 = 0 := by decide
  unfold am_sgn
  rw [e1, e2]
  split
  · rfl
  · split <;> rfl
theorem am_sgn_nrw (b v : Int32) : am_sgn b (am_nrw b v) = am_sgn b v := by
  have e1 : (255 : Int32).toInt8 = -1 := by decide
  have e2 : (65535 : Int32).toInt16 = -1 := by decide +kernel
  unfold am_sgn am_nrw
  by_cases h8 : b = 8
  · rw [if_pos h8, if_pos h8, if_pos h8, Int32.toInt8_and, e1, Int8.and_neg_one]
  · rw [if_neg h8, if_neg h8, if_neg h8]
    by_cases h16 : b = 16
    · rw [if_pos h16, if_pos h16, if_pos h16, Int32.toInt16_and, e2, Int16.and_neg_one]
    · rw [if_neg h16, if_neg h16, if_neg h16]
section AMRS1
variable {X : am_X} {D q : Nat}
theorem am_w120 {G : am_G} {k : Nat} {v : Int32} (hk : k < 4) : am_astM (am_L0 q, G) 120 (nI k) v = some (am_L0 q, am_up G 120 k v) := by rw [am_t120, am_in_nI hk (by decide), nI_clamp (by omega)]; rfl
theorem am_w121 {G : am_G} {k : Nat} {v : Int32} (hk : k < 4) : am_astM (am_L0 q, G) 121 (nI k) v = some (am_L0 q, am_up G 121 k v) := by rw [am_t121, am_in_nI hk (by decide), nI_clamp (by omega)]; rfl
theorem am_w122 {G : am_G} {k : Nat} {v : Int32} (hk : k < 160) : am_astM (am_L0 q, G) 122 (nI k) v = some (am_L0 q, am_up G 122 k v) := by rw [am_t122, am_in_nI hk (by decide), nI_clamp (by omega)]; rfl
theorem am_m205 {b v : Int32} {w : am_M} : am_CD X (D + 1) 205 [.int b, .int v] w = some (some (.int (am_sgn b v)), w) := by
  refine am_CD_of (M := am_N205) rfl rfl ?_
  show am_Rn _ _ ((Option.some FieldType.int)) am_J205 0 [some (.int b), some (.int v)] [] w _
  unfold am_sgn
  by_cases h8 : b = 8
  · simp only [am_s205_0, am_s205_1, am_s205_3, am_s205_6, am_s205_7, am_s205_8, am_s205_11, am_s205_12, am_s205_14, am_s205_17, am_s205_18, am_s205_19, am_s205_22, am_s205_23, h8, not_true_eq_false, eq_self, am_os_some, Option.toList_some, Option.toList_none, List.cons_append, List.nil_append, if_true, if_false, true_and, am_nw1_i, am_nw1_r, am_nw1_n, cond_true]
  · by_cases h16 : b = 16
    · have e : ((16 : Int32) = 8) = False := by decide
      simp only [am_s205_0, am_s205_1, am_s205_3, am_s205_6, am_s205_7, am_s205_8, am_s205_11, am_s205_12, am_s205_14, am_s205_17, am_s205_18, am_s205_19, am_s205_22, am_s205_23, h16, e, not_true_eq_false, not_false_eq_true, eq_self, am_os_some, Option.toList_some, Option.toList_none, List.cons_append, List.nil_append, if_true, if_false, true_and, am_nw1_i, am_nw1_r, am_nw1_n, cond_true]
    · simp only [am_s205_0, am_s205_1, am_s205_3, am_s205_6, am_s205_7, am_s205_8, am_s205_11, am_s205_12, am_s205_14, am_s205_17, am_s205_18, am_s205_19, am_s205_22, am_s205_23, h8, h16, not_true_eq_false, not_false_eq_true, eq_self, am_os_some, Option.toList_some, Option.toList_none, List.cons_append, List.nil_append, if_true, if_false, true_and, am_nw1_i, am_nw1_r, am_nw1_n, cond_true]
theorem am_l206 {j : Nat} {b n : Int32} (hj : j < 4) : ∀ (d k : Nat) (G : am_G), k + d = 40 → ∃ G' : am_G, (∀ i x, i ≠ 122 → G' i x = G i x) ∧ (∀ x, G' 122 x = if 40 * j + k ≤ x ∧ x < 40 * j + 40 then 0 else G 122 x) ∧ am_Rn X 99 (some .int) am_J206 93 [some (.ref 114), some (.int (nI j)), some (.int b), some (.int n), some (.int (nI k))] [] (am_L0 q, G) (some (.int 1), (am_L0 q, G')) := by
  intro d
  induction d with
  | zero =>
    intro k G hk
    obtain rfl : k = 40 := by omega
    have h1 : ¬ nI 40 < 40 := by decide +kernel
    refine ⟨G, fun _ _ _ => rfl, fun x => by rw [if_neg (by omega)], ?_⟩
    simp only [am_s206_93, am_s206_95, am_s206_97, am_s206_119, am_s206_120, h1, eq_self, am_os_some, Option.toList_some, Option.toList_none, List.cons_append, List.nil_append, if_true, if_false, true_and, am_nw1_i, am_nw1_r, am_nw1_n, cond_true]
  | succ d ih =>
    intro k G hk
    have h1 : nI k < 40 := nI_lt (b := 40) (by omega) (by decide)
    have hi : nI k + 1 = nI (k + 1) := nI_add k 1
    obtain ⟨G', f, g, r⟩ := ih (k + 1) (am_up G 122 (40 * j + k) 0) (by omega)
    refine ⟨G', fun i x hx => by rw [f i x hx, am_up_get, if_neg hx], fun x => ?_, ?_⟩
    · rw [g x, am_up_get, if_pos rfl]
      by_cases c : x = 40 * j + k
      · rw [if_neg (by omega), if_pos c, if_pos (by omega)]
      · by_cases c2 : 40 * j + k ≤ x ∧ x < 40 * j + 40
        · rw [if_pos (by omega), if_pos c2]
        · rw [if_neg (by omega), if_neg c, if_neg c2]
    · simp only [am_s206_93, am_s206_95, am_s206_97, am_s206_100, am_s206_101, am_s206_104, am_s206_106, am_s206_107, am_s206_108, am_s206_110, am_s206_111, am_s206_112, am_s206_113, h1, am_f114_21, am_mul40, nI_add, am_w122 (show 40 * j + k < 160 by omega), eq_self, am_os_some, Option.toList_some, Option.toList_none, List.cons_append, List.nil_append, if_true, if_false, true_and, am_nw1_i, am_nw1_r, am_nw1_n, cond_true]
      rw [am_s206_116, hi]
      exact r
theorem am_r206k {s : am_St} {j z : Nat} {b n : Int32} (hj : j < 4) (hz : (if b = 0 then 0 else n) = nI z) {N : Nat} {xs : Nat → Int32} {q : Nat} {G : am_G} (hc : am_rfl G s) (hr : ∀ o, am_Rn (am_X0 N xs) 99 (some .int) am_J206 68 [some (.ref 114), some (.int (nI j)), some (.int b), some (.int n), none] [] (am_L0 q, G) o → am_CD (am_X0 N xs) 100 206 [.ref 114, .int (nI j), .int b, .int n] (am_L0 q, G) = some o) : ∃ G1 : am_G, (∀ i k, i < 114 → G1 i k = G i k) ∧ am_rfl G1 (am_sH j (b, z, fun _ => 0) s) ∧ am_CD (am_X0 N xs) 100 206 [.ref 114, .int (nI j), .int b, .int n] (am_L0 q, G) = some (some (.int 1), (am_L0 q, G1)) := by
  obtain ⟨G', f, g, r⟩ := am_l206 (X := am_X0 N xs) (q := q) (b := b) (n := n) hj 40 0 (am_up (am_up G 120 j b) 121 j (nI z)) rfl
  have f0 : ∀ i k, i ≠ 120 → i ≠ 121 → am_up (am_up G 120 j b) 121 j (nI z) i k = G i k := fun i k a b => by rw [am_up_get, if_neg b, am_up_get, if_neg a]
  have f120 : ∀ k, am_up (am_up G 120 j b) 121 j (nI z) 120 k = if k = j then b else G 120 k := fun k => by rw [am_up_get, if_neg (by decide), am_up_get, if_pos rfl]
  have f121 : ∀ k, am_up (am_up G 120 j b) 121 j (nI z) 121 k = if k = j then nI z else G 121 k := fun k => by rw [am_up_get, if_pos rfl, am_up_get, if_neg (show ¬ (121 = 120) by decide)]
  refine ⟨G', fun i k hi => by rw [f i k (by omega), f0 i k (by omega) (by omega)], am_rfl_H hc (fun i k _ _ _ _ _ a b c => by rw [f i k c, f0 i k a b]) (fun i hi hij => ⟨by rw [f 120 i (by decide), f120, if_neg hij], by rw [f 121 i (by decide), f121, if_neg hij], fun k hk => by rw [g, if_neg (by omega), f0 122 _ (by decide) (by decide)]⟩) ⟨?_, ?_, fun i hi => ?_⟩, hr _ ?_⟩
  · rw [f 120 j (by decide), f120, if_pos rfl]
  · rw [f 121 j (by decide), f121, if_pos rfl]
  · rw [g, if_pos (by omega)]
    exact (am_sgn_0 b).symm
  · by_cases hb : b = 0
    · rw [if_pos hb] at hz
      rw [hb] at r ⊢
      rw [← hz] at r
      simp only [am_s206_68, am_s206_69, am_s206_72, am_s206_73, am_s206_74, am_s206_75, am_s206_76, am_s206_79, am_s206_80, am_s206_81, am_s206_84, am_s206_85, am_s206_88, am_s206_89, am_s206_90, am_s206_91, am_f114_19, am_w120 hj, am_f114_20, am_w121 hj, not_true_eq_false, eq_self, am_os_some, Option.toList_some, Option.toList_none, List.cons_append, List.nil_append, if_true, if_false, true_and, am_nw1_i, am_nw1_r, am_nw1_n, cond_true]
      exact r
    · rw [if_neg hb] at hz
      rw [hz] at r ⊢
      simp only [am_s206_68, am_s206_69, am_s206_72, am_s206_73, am_s206_74, am_s206_75, am_s206_76, am_s206_79, am_s206_80, am_s206_81, am_s206_84, am_s206_85, am_s206_88, am_s206_89, am_s206_90, am_s206_91, am_f114_19, am_w120 hj, am_f114_20, hb, am_w121 hj, not_true_eq_false, not_false_eq_true, eq_self, am_os_some, Option.toList_some, Option.toList_none, List.cons_append, List.nil_append, if_true, if_false, true_and, am_nw1_i, am_nw1_r, am_nw1_n, cond_true]
      exact r
theorem am_r206 {a b n : Int32} {s : am_St} : am_rO 206 [.int a, .int b, .int n] s (am_O107 a b n s) := by
  unfold am_O107
  have l8 : ((8 : Int32) = 0) = False := by decide
  have l16 : ((16 : Int32) = 0) = False := by decide
  have l32 : ((32 : Int32) = 0) = False := by decide
  have l168 : ((16 : Int32) = 8) = False := by decide
  have l328 : ((32 : Int32) = 8) = False := by decide
  have l3216 : ((32 : Int32) = 16) = False := by decide
  cases h1 : am_wi a 3 with
  | false =>
    rw [if_pos rfl]
    refine am_rO_err (k := 1) (r := -1000000001) (by decide) am_ec1.symm fun X q G hc => am_CD_of (M := am_N206) rfl rfl ?_
    have hn : G 115 2 = nI (s.1.1 13 0) := hc.1.1.2.1
    show am_Rn _ _ ((Option.some FieldType.int)) am_J206 0 [some (.ref 114), some (.int a), some (.int b), some (.int n), none] [] (am_L0 q, G) _
    simp only [am_s206_0, am_s206_1, am_s206_4, am_s206_7, am_s206_8, am_s206_11, am_s206_12, am_s206_14, am_s206_17, am_s206_18, am_s206_20, am_s206_23, am_s206_24, am_s206_26, am_s206_29, am_s206_30, am_s206_32, am_s206_35, am_s206_36, am_s206_37, am_s206_40, am_s206_41, am_s206_44, am_s206_45, am_s206_47, am_s206_50, am_s206_51, am_s206_52, am_s206_55, am_s206_56, am_s206_58, am_s206_61, am_s206_62, am_s206_64, am_s206_67, am_cal_ok am_cat_0 am_rcv_f (am_m183 (D := 97) _), h1, am_cal_ok am_cat_0 am_v114 (am_d1 (D := 98)), am_cal_ok am_cat_0 am_v114 (am_d2 (D := 98)), am_cal_ok am_cat_0 am_v114 (am_d3 (D := 98)), am_cal_ok am_cat_0 am_v114 (am_d4 (D := 98)), am_cal_ok am_cat_0 am_v114 (am_d5 (D := 98)), am_cal_ok am_cat_0 am_rcv_f (am_y125 _ _), am_cal_ok am_cat_0 am_rcv_f (am_m183 (D := 97) _), am_bI0, am_f114_0, am_er_f, am_sy_f, Bool.false_and, Bool.and_false, reduceCtorEq, not_false_eq_true, not_true_eq_false, eq_self, am_os_some, Option.toList_some, Option.toList_none, List.cons_append, List.nil_append, if_true, if_false, true_and, am_nw1_i, am_nw1_r, am_nw1_n, cond_true]
  | true =>
    rw [if_neg (by decide)]
    obtain ⟨a1, a2⟩ := am_wi_nI (n := 3) (by decide) h1
    generalize a.toNatClampNeg = j at a1 a2
    subst a2
    have hj : j < 4 := by omega
    by_cases h0 : b = 0
    · rw [if_pos h0]
      intro N xs q G hc
      subst h0
      refine am_r206k hj (z := 0) (by rw [if_pos rfl]; rfl) hc fun o ho => am_CD_of (M := am_N206) rfl rfl ?_
      show am_Rn _ _ ((Option.some FieldType.int)) am_J206 0 [some (.ref 114), some (.int (nI j)), some (.int 0), some (.int n), none] [] (am_L0 q, G) _
      simp only [am_s206_0, am_s206_1, am_s206_4, am_s206_7, am_s206_8, am_s206_11, am_s206_12, am_s206_14, am_s206_17, am_s206_18, am_s206_20, am_s206_23, am_s206_24, am_s206_26, am_s206_29, am_s206_30, am_s206_32, am_s206_35, am_s206_36, am_s206_37, am_s206_40, am_s206_41, am_s206_44, am_s206_45, am_s206_47, am_s206_50, am_s206_51, am_s206_52, am_s206_55, am_s206_56, am_s206_58, am_s206_61, am_s206_62, am_s206_64, am_s206_67, am_cal_ok am_cat_0 am_rcv_f (am_m183 (D := 97) _), h1, not_true_eq_false, am_cal_ok am_cat_0 am_v114 (am_d1 (D := 98)), am_cal_ok am_cat_0 am_v114 (am_d2 (D := 98)), am_cal_ok am_cat_0 am_v114 (am_d3 (D := 98)), am_cal_ok am_cat_0 am_v114 (am_d4 (D := 98)), am_cal_ok am_cat_0 am_v114 (am_d5 (D := 98)), am_cal_ok am_cat_0 am_rcv_f (am_y125 _ _), am_cal_ok am_cat_0 am_rcv_f (am_m183 (D := 97) _), am_bI0, am_f114_0, am_er_f, am_sy_f, Bool.false_and, Bool.and_false, reduceCtorEq, not_false_eq_true, not_true_eq_false, eq_self, am_os_some, Option.toList_some, Option.toList_none, List.cons_append, List.nil_append, if_true, if_false, true_and, am_nw1_i, am_nw1_r, am_nw1_n, cond_true]
      exact ho
    · rw [if_neg h0]
      by_cases hb : b = 8 ∨ b = 16 ∨ b = 32
      · rw [if_neg (by simp only [hb]; simp)]
        by_cases h2 : n < 0
        · rw [if_pos h2]
          rcases hb with rfl | rfl | rfl
          · refine am_rO_err (k := 3) (r := -1000000003) (by decide) am_ec3.symm fun X q G hc => am_CD_of (M := am_N206) rfl rfl ?_
            have hn : G 115 2 = nI (s.1.1 13 0) := hc.1.1.2.1
            show am_Rn _ _ ((Option.some FieldType.int)) am_J206 0 [some (.ref 114), some (.int (nI j)), some (.int 8), some (.int n), none] [] (am_L0 q, G) _
            simp only [am_s206_0, am_s206_1, am_s206_4, am_s206_7, am_s206_8, am_s206_11, am_s206_12, am_s206_14, am_s206_17, am_s206_18, am_s206_20, am_s206_23, am_s206_24, am_s206_26, am_s206_29, am_s206_30, am_s206_32, am_s206_35, am_s206_36, am_s206_37, am_s206_40, am_s206_41, am_s206_44, am_s206_45, am_s206_47, am_s206_50, am_s206_51, am_s206_52, am_s206_55, am_s206_56, am_s206_58, am_s206_61, am_s206_62, am_s206_64, am_s206_67, am_cal_ok am_cat_0 am_rcv_f (am_m183 (D := 97) _), h1, l8, l16, l32, l168, l328, l3216, h2, not_true_eq_false, am_cal_ok am_cat_0 am_v114 (am_d1 (D := 98)), am_cal_ok am_cat_0 am_v114 (am_d2 (D := 98)), am_cal_ok am_cat_0 am_v114 (am_d3 (D := 98)), am_cal_ok am_cat_0 am_v114 (am_d4 (D := 98)), am_cal_ok am_cat_0 am_v114 (am_d5 (D := 98)), am_cal_ok am_cat_0 am_rcv_f (am_y125 _ _), am_cal_ok am_cat_0 am_rcv_f (am_m183 (D := 97) _), am_bI0, am_f114_0, am_er_f, am_sy_f, Bool.false_and, Bool.and_false, reduceCtorEq, not_false_eq_true, not_true_eq_false, eq_self, am_os_some, Option.toList_some, Option.toList_none, List.cons_append, List.nil_append, if_true, if_false, true_and, am_nw1_i, am_nw1_r, am_nw1_n, cond_true]
          · refine am_rO_err (k := 3) (r := -1000000003) (by decide) am_ec3.symm fun X q G hc => am_CD_of (M := am_N206) rfl rfl ?_
            have hn : G 115 2 = nI (s.1.1 13 0) := hc.1.1.2.1
            show am_Rn _ _ ((Option.some FieldType.int)) am_J206 0 [some (.ref 114), some (.int (nI j)), some (.int 16), some (.int n), none] [] (am_L0 q, G) _
            simp only [am_s206_0, am_s206_1, am_s206_4, am_s206_7, am_s206_8, am_s206_11, am_s206_12, am_s206_14, am_s206_17, am_s206_18, am_s206_20, am_s206_23, am_s206_24, am_s206_26, am_s206_29, am_s206_30, am_s206_32, am_s206_35, am_s206_36, am_s206_37, am_s206_40, am_s206_41, am_s206_44, am_s206_45, am_s206_47, am_s206_50, am_s206_51, am_s206_52, am_s206_55, am_s206_56, am_s206_58, am_s206_61, am_s206_62, am_s206_64, am_s206_67, am_cal_ok am_cat_0 am_rcv_f (am_m183 (D := 97) _), h1, l8, l16, l32, l168, l328, l3216, h2, not_true_eq_false, am_cal_ok am_cat_0 am_v114 (am_d1 (D := 98)), am_cal_ok am_cat_0 am_v114 (am_d2 (D := 98)), am_cal_ok am_cat_0 am_v114 (am_d3 (D := 98)), am_cal_ok am_cat_0 am_v114 (am_d4 (D := 98)), am_cal_ok am_cat_0 am_v114 (am_d5 (D := 98)), am_cal_ok am_cat_0 am_rcv_f (am_y125 _ _), am_cal_ok am_cat_0 am_rcv_f (am_m183 (D := 97) _), am_bI0, am_f114_0, am_er_f, am_sy_f, Bool.false_and, Bool.and_false, reduceCtorEq, not_false_eq_true, not_true_eq_false, eq_self, am_os_some, Option.toList_some, Option.toList_none, List.cons_append, List.nil_append, if_true, if_false, true_and, am_nw1_i, am_nw1_r, am_nw1_n, cond_true]
          · refine am_rO_err (k := 3) (r := -1000000003) (by decide) am_ec3.symm fun X q G hc => am_CD_of (M := am_N206) rfl rfl ?_
            have hn : G 115 2 = nI (s.1.1 13 0) := hc.1.1.2.1
            show am_Rn _ _ ((Option.some FieldType.int)) am_J206 0 [some (.ref 114), some (.int (nI j)), some (.int 32), some (.int n), none] [] (am_L0 q, G) _
            simp only [am_s206_0, am_s206_1, am_s206_4, am_s206_7, am_s206_8, am_s206_11, am_s206_12, am_s206_14, am_s206_17, am_s206_18, am_s206_20, am_s206_23, am_s206_24, am_s206_26, am_s206_29, am_s206_30, am_s206_32, am_s206_35, am_s206_36, am_s206_37, am_s206_40, am_s206_41, am_s206_44, am_s206_45, am_s206_47, am_s206_50, am_s206_51, am_s206_52, am_s206_55, am_s206_56, am_s206_58, am_s206_61, am_s206_62, am_s206_64, am_s206_67, am_cal_ok am_cat_0 am_rcv_f (am_m183 (D := 97) _), h1, l8, l16, l32, l168, l328, l3216, h2, not_true_eq_false, am_cal_ok am_cat_0 am_v114 (am_d1 (D := 98)), am_cal_ok am_cat_0 am_v114 (am_d2 (D := 98)), am_cal_ok am_cat_0 am_v114 (am_d3 (D := 98)), am_cal_ok am_cat_0 am_v114 (am_d4 (D := 98)), am_cal_ok am_cat_0 am_v114 (am_d5 (D := 98)), am_cal_ok am_cat_0 am_rcv_f (am_y125 _ _), am_cal_ok am_cat_0 am_rcv_f (am_m183 (D := 97) _), am_bI0, am_f114_0, am_er_f, am_sy_f, Bool.false_and, Bool.and_false, reduceCtorEq, not_false_eq_true, not_true_eq_false, eq_self, am_os_some, Option.toList_some, Option.toList_none, List.cons_append, List.nil_append, if_true, if_false, true_and, am_nw1_i, am_nw1_r, am_nw1_n, cond_true]
        · rw [if_neg h2]
          by_cases h3 : n ≤ 40
          · rw [if_neg (by simp only [h3]; simp)]
            obtain ⟨m, hm, rfl⟩ := nI_of h2
            rw [nI_clamp hm]
            intro N xs q G hc
            refine am_r206k hj (z := m) (by rw [if_neg h0]) hc fun o ho => am_CD_of (M := am_N206) rfl rfl ?_
            show am_Rn _ _ ((Option.some FieldType.int)) am_J206 0 [some (.ref 114), some (.int (nI j)), some (.int b), some (.int (nI m)), none] [] (am_L0 q, G) _
            rcases hb with rfl | rfl | rfl
            · simp only [am_s206_0, am_s206_1, am_s206_4, am_s206_7, am_s206_8, am_s206_11, am_s206_12, am_s206_14, am_s206_17, am_s206_18, am_s206_20, am_s206_23, am_s206_24, am_s206_26, am_s206_29, am_s206_30, am_s206_32, am_s206_35, am_s206_36, am_s206_37, am_s206_40, am_s206_41, am_s206_44, am_s206_45, am_s206_47, am_s206_50, am_s206_51, am_s206_52, am_s206_55, am_s206_56, am_s206_58, am_s206_61, am_s206_62, am_s206_64, am_s206_67, am_cal_ok am_cat_0 am_rcv_f (am_m183 (D := 97) _), h1, h2, h3, l8, l16, l32, l168, l328, l3216, not_true_eq_false, not_false_eq_true, am_cal_ok am_cat_0 am_v114 (am_d1 (D := 98)), am_cal_ok am_cat_0 am_v114 (am_d2 (D := 98)), am_cal_ok am_cat_0 am_v114 (am_d3 (D := 98)), am_cal_ok am_cat_0 am_v114 (am_d4 (D := 98)), am_cal_ok am_cat_0 am_v114 (am_d5 (D := 98)), am_cal_ok am_cat_0 am_rcv_f (am_y125 _ _), am_cal_ok am_cat_0 am_rcv_f (am_m183 (D := 97) _), am_bI0, am_f114_0, am_er_f, am_sy_f, Bool.false_and, Bool.and_false, reduceCtorEq, not_false_eq_true, not_true_eq_false, eq_self, am_os_some, Option.toList_some, Option.toList_none, List.cons_append, List.nil_append, if_true, if_false, true_and, am_nw1_i, am_nw1_r, am_nw1_n, cond_true]
              exact ho
            · simp only [am_s206_0, am_s206_1, am_s206_4, am_s206_7, am_s206_8, am_s206_11, am_s206_12, am_s206_14, am_s206_17, am_s206_18, am_s206_20, am_s206_23, am_s206_24, am_s206_26, am_s206_29, am_s206_30, am_s206_32, am_s206_35, am_s206_36, am_s206_37, am_s206_40, am_s206_41, am_s206_44, am_s206_45, am_s206_47, am_s206_50, am_s206_51, am_s206_52, am_s206_55, am_s206_56, am_s206_58, am_s206_61, am_s206_62, am_s206_64, am_s206_67, am_cal_ok am_cat_0 am_rcv_f (am_m183 (D := 97) _), h1, h2, h3, l8, l16, l32, l168, l328, l3216, not_true_eq_false, not_false_eq_true, am_cal_ok am_cat_0 am_v114 (am_d1 (D := 98)), am_cal_ok am_cat_0 am_v114 (am_d2 (D := 98)), am_cal_ok am_cat_0 am_v114 (am_d3 (D := 98)), am_cal_ok am_cat_0 am_v114 (am_d4 (D := 98)), am_cal_ok am_cat_0 am_v114 (am_d5 (D := 98)), am_cal_ok am_cat_0 am_rcv_f (am_y125 _ _), am_cal_ok am_cat_0 am_rcv_f (am_m183 (D := 97) _), am_bI0, am_f114_0, am_er_f, am_sy_f, Bool.false_and, Bool.and_false, reduceCtorEq, not_false_eq_true, not_true_eq_false, eq_self, am_os_some, Option.toList_some, Option.toList_none, List.cons_append, List.nil_append, if_true, if_false, true_and, am_nw1_i, am_nw1_r, am_nw1_n, cond_true]
              exact ho
            · simp only [am_s206_0, am_s206_1, am_s206_4, am_s206_7, am_s206_8, am_s206_11, am_s206_12, am_s206_14, am_s206_17, am_s206_18, am_s206_20, am_s206_23, am_s206_24, am_s206_26, am_s206_29, am_s206_30, am_s206_32, am_s206_35, am_s206_36, am_s206_37, am_s206_40, am_s206_41, am_s206_44, am_s206_45, am_s206_47, am_s206_50, am_s206_51, am_s206_52, am_s206_55, am_s206_56, am_s206_58, am_s206_61, am_s206_62, am_s206_64, am_s206_67, am_cal_ok am_cat_0 am_rcv_f (am_m183 (D := 97) _), h1, h2, h3, l8, l16, l32, l168, l328, l3216, not_true_eq_false, not_false_eq_true, am_cal_ok am_cat_0 am_v114 (am_d1 (D := 98)), am_cal_ok am_cat_0 am_v114 (am_d2 (D := 98)), am_cal_ok am_cat_0 am_v114 (am_d3 (D := 98)), am_cal_ok am_cat_0 am_v114 (am_d4 (D := 98)), am_cal_ok am_cat_0 am_v114 (am_d5 (D := 98)), am_cal_ok am_cat_0 am_rcv_f (am_y125 _ _), am_cal_ok am_cat_0 am_rcv_f (am_m183 (D := 97) _), am_bI0, am_f114_0, am_er_f, am_sy_f, Bool.false_and, Bool.and_false, reduceCtorEq, not_false_eq_true, not_true_eq_false, eq_self, am_os_some, Option.toList_some, Option.toList_none, List.cons_append, List.nil_append, if_true, if_false, true_and, am_nw1_i, am_nw1_r, am_nw1_n, cond_true]
              exact ho
          · rw [if_pos h3]
            rcases hb with rfl | rfl | rfl
            · refine am_rO_err (k := 1) (r := -1000000001) (by decide) am_ec1.symm fun X q G hc => am_CD_of (M := am_N206) rfl rfl ?_
              have hn : G 115 2 = nI (s.1.1 13 0) := hc.1.1.2.1
              show am_Rn _ _ ((Option.some FieldType.int)) am_J206 0 [some (.ref 114), some (.int (nI j)), some (.int 8), some (.int n), none] [] (am_L0 q, G) _
              simp only [am_s206_0, am_s206_1, am_s206_4, am_s206_7, am_s206_8, am_s206_11, am_s206_12, am_s206_14, am_s206_17, am_s206_18, am_s206_20, am_s206_23, am_s206_24, am_s206_26, am_s206_29, am_s206_30, am_s206_32, am_s206_35, am_s206_36, am_s206_37, am_s206_40, am_s206_41, am_s206_44, am_s206_45, am_s206_47, am_s206_50, am_s206_51, am_s206_52, am_s206_55, am_s206_56, am_s206_58, am_s206_61, am_s206_62, am_s206_64, am_s206_67, am_cal_ok am_cat_0 am_rcv_f (am_m183 (D := 97) _), h1, l8, l16, l32, l168, l328, l3216, h2, h3, not_true_eq_false, am_cal_ok am_cat_0 am_v114 (am_d1 (D := 98)), am_cal_ok am_cat_0 am_v114 (am_d2 (D := 98)), am_cal_ok am_cat_0 am_v114 (am_d3 (D := 98)), am_cal_ok am_cat_0 am_v114 (am_d4 (D := 98)), am_cal_ok am_cat_0 am_v114 (am_d5 (D := 98)), am_cal_ok am_cat_0 am_rcv_f (am_y125 _ _), am_cal_ok am_cat_0 am_rcv_f (am_m183 (D := 97) _), am_bI0, am_f114_0, am_er_f, am_sy_f, Bool.false_and, Bool.and_false, reduceCtorEq, not_false_eq_true, not_true_eq_false, eq_self, am_os_some, Option.toList_some, Option.toList_none, List.cons_append, List.nil_append, if_true, if_false, true_and, am_nw1_i, am_nw1_r, am_nw1_n, cond_true]
            · refine am_rO_err (k := 1) (r := -1000000001) (by decide) am_ec1.symm fun X q G hc => am_CD_of (M := am_N206) rfl rfl ?_
              have hn : G 115 2 = nI (s.1.1 13 0) := hc.1.1.2.1
              show am_Rn _ _ ((Option.some FieldType.int)) am_J206 0 [some (.ref 114), some (.int (nI j)), some (.int 16), some (.int n), none] [] (am_L0 q, G) _
              simp only [am_s206_0, am_s206_1, am_s206_4, am_s206_7, am_s206_8, am_s206_11, am_s206_12, am_s206_14, am_s206_17, am_s206_18, am_s206_20, am_s206_23, am_s206_24, am_s206_26, am_s206_29, am_s206_30, am_s206_32, am_s206_35, am_s206_36, am_s206_37, am_s206_40, am_s206_41, am_s206_44, am_s206_45, am_s206_47, am_s206_50, am_s206_51, am_s206_52, am_s206_55, am_s206_56, am_s206_58, am_s206_61, am_s206_62, am_s206_64, am_s206_67, am_cal_ok am_cat_0 am_rcv_f (am_m183 (D := 97) _), h1, l8, l16, l32, l168, l328, l3216, h2, h3, not_true_eq_false, am_cal_ok am_cat_0 am_v114 (am_d1 (D := 98)), am_cal_ok am_cat_0 am_v114 (am_d2 (D := 98)), am_cal_ok am_cat_0 am_v114 (am_d3 (D := 98)), am_cal_ok am_cat_0 am_v114 (am_d4 (D := 98)), am_cal_ok am_cat_0 am_v114 (am_d5 (D := 98)), am_cal_ok am_cat_0 am_rcv_f (am_y125 _ _), am_cal_ok am_cat_0 am_rcv_f (am_m183 (D := 97) _), am_bI0, am_f114_0, am_er_f, am_sy_f, Bool.false_and, Bool.and_false, reduceCtorEq, not_false_eq_true, not_true_eq_false, eq_self, am_os_some, Option.toList_some, Option.toList_none, List.cons_append, List.nil_append, if_true, if_false, true_and, am_nw1_i, am_nw1_r, am_nw1_n, cond_true]
            · refine am_rO_err (k := 1) (r := -1000000001) (by decide) am_ec1.symm fun X q G hc => am_CD_of (M := am_N206) rfl rfl ?_
              have hn : G 115 2 = nI (s.1.1 13 0) := hc.1.1.2.1
              show am_Rn _ _ ((Option.some FieldType.int)) am_J206 0 [some (.ref 114), some (.int (nI j)), some (.int 32), some (.int n), none] [] (am_L0 q, G) _
              simp only [am_s206_0, am_s206_1, am_s206_4, am_s206_7, am_s206_8, am_s206_11, am_s206_12, am_s206_14, am_s206_17, am_s206_18, am_s206_20, am_s206_23, am_s206_24, am_s206_26, am_s206_29, am_s206_30, am_s206_32, am_s206_35, am_s206_36, am_s206_37, am_s206_40, am_s206_41, am_s206_44, am_s206_45, am_s206_47, am_s206_50, am_s206_51, am_s206_52, am_s206_55, am_s206_56, am_s206_58, am_s206_61, am_s206_62, am_s206_64, am_s206_67, am_cal_ok am_cat_0 am_rcv_f (am_m183 (D := 97) _), h1, l8, l16, l32, l168, l328, l3216, h2, h3, not_true_eq_false, am_cal_ok am_cat_0 am_v114 (am_d1 (D := 98)), am_cal_ok am_cat_0 am_v114 (am_d2 (D := 98)), am_cal_ok am_cat_0 am_v114 (am_d3 (D := 98)), am_cal_ok am_cat_0 am_v114 (am_d4 (D := 98)), am_cal_ok am_cat_0 am_v114 (am_d5 (D := 98)), am_cal_ok am_cat_0 am_rcv_f (am_y125 _ _), am_cal_ok am_cat_0 am_rcv_f (am_m183 (D := 97) _), am_bI0, am_f114_0, am_er_f, am_sy_f, Bool.false_and, Bool.and_false, reduceCtorEq, not_false_eq_true, not_true_eq_false, eq_self, am_os_some, Option.toList_some, Option.toList_none, List.cons_append, List.nil_append, if_true, if_false, true_and, am_nw1_i, am_nw1_r, am_nw1_n, cond_true]
      · rw [if_pos hb]
        have n8 : ¬ b = 8 := fun e => hb (Or.inl e)
        have n16 : ¬ b = 16 := fun e => hb (Or.inr (Or.inl e))
        have n32 : ¬ b = 32 := fun e => hb (Or.inr (Or.inr e))
        refine am_rO_err (k := 1) (r := -1000000001) (by decide) am_ec1.symm fun X q G hc => am_CD_of (M := am_N206) rfl rfl ?_
        have hn : G 115 2 = nI (s.1.1 13 0) := hc.1.1.2.1
        show am_Rn _ _ ((Option.some FieldType.int)) am_J206 0 [some (.ref 114), some (.int (nI j)), some (.int b), some (.int n), none] [] (am_L0 q, G) _
        simp only [am_s206_0, am_s206_1, am_s206_4, am_s206_7, am_s206_8, am_s206_11, am_s206_12, am_s206_14, am_s206_17, am_s206_18, am_s206_20, am_s206_23, am_s206_24, am_s206_26, am_s206_29, am_s206_30, am_s206_32, am_s206_35, am_s206_36, am_s206_37, am_s206_40, am_s206_41, am_s206_44, am_s206_45, am_s206_47, am_s206_50, am_s206_51, am_s206_52, am_s206_55, am_s206_56, am_s206_58, am_s206_61, am_s206_62, am_s206_64, am_s206_67, am_cal_ok am_cat_0 am_rcv_f (am_m183 (D := 97) _), h1, h0, n8, n16, n32, am_cal_ok am_cat_0 am_v114 (am_d1 (D := 98)), am_cal_ok am_cat_0 am_v114 (am_d2 (D := 98)), am_cal_ok am_cat_0 am_v114 (am_d3 (D := 98)), am_cal_ok am_cat_0 am_v114 (am_d4 (D := 98)), am_cal_ok am_cat_0 am_v114 (am_d5 (D := 98)), am_cal_ok am_cat_0 am_rcv_f (am_y125 _ _), am_cal_ok am_cat_0 am_rcv_f (am_m183 (D := 97) _), am_bI0, am_f114_0, am_er_f, am_sy_f, Bool.false_and, Bool.and_false, reduceCtorEq, not_false_eq_true, not_true_eq_false, eq_self, am_os_some, Option.toList_some, Option.toList_none, List.cons_append, List.nil_append, if_true, if_false, true_and, am_nw1_i, am_nw1_r, am_nw1_n, cond_true]
theorem am_r207 {a i v : Int32} {s : am_St} (hs : am_oks s) : am_rO 207 [.int a, .int i, .int v] s (am_O108 a i v s) := by
  unfold am_O108
  cases h1 : am_wi a 3 with
  | false =>
    rw [if_pos rfl]
    refine am_rO_err (k := 1) (r := -1000000001) (by decide) am_ec1.symm fun X q G hc => am_CD_of (M := am_N207) rfl rfl ?_
    have hn : G 115 2 = nI (s.1.1 13 0) := hc.1.1.2.1
    show am_Rn _ _ ((Option.some FieldType.int)) am_J207 0 [some (.ref 114), some (.int a), some (.int i), some (.int v)] [] (am_L0 q, G) _
    simp only [am_s207_0, am_s207_1, am_s207_4, am_s207_7, am_s207_8, am_s207_10, am_s207_13, am_s207_14, am_s207_15, am_s207_18, am_s207_19, am_s207_20, am_s207_23, am_s207_24, am_s207_26, am_s207_29, am_s207_30, am_s207_31, am_s207_32, am_s207_33, am_s207_36, am_s207_37, am_s207_38, am_s207_39, am_s207_40, am_s207_43, am_s207_46, am_s207_47, am_s207_49, am_s207_52, am_cal_ok am_cat_0 am_rcv_f (am_m183 (D := 97) _), h1, am_cal_ok am_cat_0 am_v114 (am_d1 (D := 98)), am_cal_ok am_cat_0 am_v114 (am_d2 (D := 98)), am_cal_ok am_cat_0 am_v114 (am_d3 (D := 98)), am_cal_ok am_cat_0 am_v114 (am_d4 (D := 98)), am_cal_ok am_cat_0 am_v114 (am_d5 (D := 98)), am_cal_ok am_cat_0 am_rcv_f (am_y125 _ _), am_cal_ok am_cat_0 am_rcv_f (am_m183 (D := 97) _), am_bI0, am_f114_0, am_er_f, am_sy_f, Bool.false_and, Bool.and_false, reduceCtorEq, not_false_eq_true, not_true_eq_false, eq_self, am_os_some, Option.toList_some, Option.toList_none, List.cons_append, List.nil_append, if_true, if_false, true_and, am_nw1_i, am_nw1_r, am_nw1_n, cond_true]
  | true =>
    rw [if_neg (by decide)]
    obtain ⟨a1, a2⟩ := am_wi_nI (n := 3) (by decide) h1
    generalize a.toNatClampNeg = j at a1 a2
    subst a2
    have hj : j < 4 := by omega
    have ho := hs.2.2.2 j hj
    rcases hx : s.2.2.2.2.2 j with ⟨b, z, V⟩
    rw [hx] at ho
    obtain ⟨hz, -, -⟩ := ho
    dsimp only at hz ⊢
    by_cases hb : b = 0
    · rw [if_pos hb]
      refine am_rO_err (k := 2) (r := -1000000002) (by decide) am_ec2.symm fun X q G hc => am_CD_of (M := am_N207) rfl rfl ?_
      have hn : G 115 2 = nI (s.1.1 13 0) := hc.1.1.2.1
      have hsh := hc.2.2.2.2.2.2.2 j hj
      rw [hx] at hsh
      have kb : G 120 j = 0 := hsh.1.trans hb
      show am_Rn _ _ ((Option.some FieldType.int)) am_J207 0 [some (.ref 114), some (.int (nI j)), some (.int i), some (.int v)] [] (am_L0 q, G) _
      simp only [am_s207_0, am_s207_1, am_s207_4, am_s207_7, am_s207_8, am_s207_10, am_s207_13, am_s207_14, am_s207_15, am_s207_18, am_s207_19, am_s207_20, am_s207_23, am_s207_24, am_s207_26, am_s207_29, am_s207_30, am_s207_31, am_s207_32, am_s207_33, am_s207_36, am_s207_37, am_s207_38, am_s207_39, am_s207_40, am_s207_43, am_s207_46, am_s207_47, am_s207_49, am_s207_52, am_cal_ok am_cat_0 am_rcv_f (am_m183 (D := 97) _), h1, am_f114_19, am_r120 hj, kb, not_true_eq_false, am_cal_ok am_cat_0 am_v114 (am_d1 (D := 98)), am_cal_ok am_cat_0 am_v114 (am_d2 (D := 98)), am_cal_ok am_cat_0 am_v114 (am_d3 (D := 98)), am_cal_ok am_cat_0 am_v114 (am_d4 (D := 98)), am_cal_ok am_cat_0 am_v114 (am_d5 (D := 98)), am_cal_ok am_cat_0 am_rcv_f (am_y125 _ _), am_cal_ok am_cat_0 am_rcv_f (am_m183 (D := 97) _), am_bI0, am_f114_0, am_er_f, am_sy_f, Bool.false_and, Bool.and_false, reduceCtorEq, not_false_eq_true, not_true_eq_false, eq_self, am_os_some, Option.toList_some, Option.toList_none, List.cons_append, List.nil_append, if_true, if_false, true_and, am_nw1_i, am_nw1_r, am_nw1_n, cond_true]
    · rw [if_neg hb]
      have hip : am_ip z i = (decide (¬ i < 0) && decide (i < nI z)) := rfl
      by_cases h : i < 0 ∨ ¬ i < nI z
      · rw [if_pos h]
        have h3 : am_ip z i = false := by
          rw [hip]
          rcases h with h | h <;> simp [h]
        refine am_rO_err (k := 1) (r := -1000000001) (by decide) am_ec1.symm fun X q G hc => am_CD_of (M := am_N207) rfl rfl ?_
        have hn : G 115 2 = nI (s.1.1 13 0) := hc.1.1.2.1
        have hsh := hc.2.2.2.2.2.2.2 j hj
        rw [hx] at hsh
        have kb : G 120 j = b := hsh.1
        have kz : G 121 j = nI z := hsh.2.1
        show am_Rn _ _ ((Option.some FieldType.int)) am_J207 0 [some (.ref 114), some (.int (nI j)), some (.int i), some (.int v)] [] (am_L0 q, G) _
        simp only [am_s207_0, am_s207_1, am_s207_4, am_s207_7, am_s207_8, am_s207_10, am_s207_13, am_s207_14, am_s207_15, am_s207_18, am_s207_19, am_s207_20, am_s207_23, am_s207_24, am_s207_26, am_s207_29, am_s207_30, am_s207_31, am_s207_32, am_s207_33, am_s207_36, am_s207_37, am_s207_38, am_s207_39, am_s207_40, am_s207_43, am_s207_46, am_s207_47, am_s207_49, am_s207_52, am_cal_ok am_cat_0 am_rcv_f (am_m183 (D := 97) _), h1, am_f114_19, am_f114_20, am_r120 hj, am_r121 hj, kb, kz, hb, am_lepr (show z < 2 ^ 30 by omega), h3, not_false_eq_true, am_cal_ok am_cat_0 am_v114 (am_d1 (D := 98)), am_cal_ok am_cat_0 am_v114 (am_d2 (D := 98)), am_cal_ok am_cat_0 am_v114 (am_d3 (D := 98)), am_cal_ok am_cat_0 am_v114 (am_d4 (D := 98)), am_cal_ok am_cat_0 am_v114 (am_d5 (D := 98)), am_cal_ok am_cat_0 am_rcv_f (am_y125 _ _), am_cal_ok am_cat_0 am_rcv_f (am_m183 (D := 97) _), am_bI0, am_f114_0, am_er_f, am_sy_f, Bool.false_and, Bool.and_false, reduceCtorEq, not_false_eq_true, not_true_eq_false, eq_self, am_os_some, Option.toList_some, Option.toList_none, List.cons_append, List.nil_append, if_true, if_false, true_and, am_nw1_i, am_nw1_r, am_nw1_n, cond_true]
      · rw [if_neg h]
        have h' : ¬ i < 0 ∧ i < nI z := ⟨fun e => h (Or.inl e), Decidable.not_not.mp fun e => h (Or.inr e)⟩
        have h3 : am_ip z i = true := by rw [hip]; simp [h'.1, h'.2]
        obtain ⟨k, hk, rfl⟩ := nI_of h'.1
        have hlt := (nI_ltI hk (by omega)).mp h'.2
        rw [nI_clamp hk]
        intro N xs q G hc
        have hn : G 115 2 = nI (s.1.1 13 0) := hc.1.1.2.1
        have hsh := hc.2.2.2.2.2.2.2 j hj
        rw [hx] at hsh
        have kb : G 120 j = b := hsh.1
        have kz : G 121 j = nI z := hsh.2.1
        have f : ∀ i x, i ≠ 122 → am_up G 122 (40 * j + k) (am_sgn b v) i x = G i x := fun i x h => by rw [am_up_get, if_neg h]
        refine ⟨am_up G 122 (40 * j + k) (am_sgn b v), fun i x hi => f i x (by omega), am_rfl_H hc (fun i x _ _ _ _ _ _ _ c => f i x c) (fun i hi hij => ⟨f 120 i (by decide), f 121 i (by decide), fun x hx => by rw [am_up_get, if_pos rfl, if_neg (by omega)]⟩) ⟨(f 120 j (by decide)).trans kb, (f 121 j (by decide)).trans kz, fun x hx => ?_⟩, am_CD_of (M := am_N207) rfl rfl ?_⟩
        · dsimp only
          rw [am_up_get, if_pos rfl]
          by_cases c : x = k
          · rw [if_pos (by omega), if_pos c, am_sgn_nrw]
          · rw [if_neg (by omega), if_neg c]
            exact hsh.2.2 x hx
        · show am_Rn _ _ ((Option.some FieldType.int)) am_J207 0 [some (.ref 114), some (.int (nI j)), some (.int (nI k)), some (.int v)] [] (am_L0 q, G) _
          simp only [am_s207_0, am_s207_1, am_s207_4, am_s207_7, am_s207_8, am_s207_10, am_s207_13, am_s207_14, am_s207_15, am_s207_18, am_s207_19, am_s207_20, am_s207_23, am_s207_24, am_s207_26, am_s207_29, am_s207_30, am_s207_31, am_s207_32, am_s207_33, am_s207_36, am_s207_37, am_s207_38, am_s207_39, am_s207_40, am_s207_43, am_s207_46, am_s207_47, am_s207_49, am_s207_52, am_s207_53, am_s207_54, am_s207_57, am_s207_59, am_s207_60, am_s207_61, am_s207_62, am_s207_63, am_s207_64, am_s207_67, am_s207_68, am_s207_69, am_s207_70, am_s207_73, am_s207_74, am_s207_75, am_cal_ok am_cat_0 am_rcv_f (am_m183 (D := 97) _), h1, am_f114_19, am_f114_20, am_f114_21, am_r120 hj, am_r121 hj, kb, kz, hb, am_lepr (show z < 2 ^ 30 by omega), h3, am_mul40, nI_add, am_cal_ok (am_cat_2 _ _) am_rcv_f (am_m205 (D := 98)), am_w122 (show 40 * j + k < 160 by omega), not_false_eq_true, am_cal_ok am_cat_0 am_v114 (am_d1 (D := 98)), am_cal_ok am_cat_0 am_v114 (am_d2 (D := 98)), am_cal_ok am_cat_0 am_v114 (am_d3 (D := 98)), am_cal_ok am_cat_0 am_v114 (am_d4 (D := 98)), am_cal_ok am_cat_0 am_v114 (am_d5 (D := 98)), am_cal_ok am_cat_0 am_rcv_f (am_y125 _ _), am_cal_ok am_cat_0 am_rcv_f (am_m183 (D := 97) _), am_bI0, am_f114_0, am_er_f, am_sy_f, Bool.false_and, Bool.and_false, reduceCtorEq, not_false_eq_true, not_true_eq_false, eq_self, am_os_some, Option.toList_some, Option.toList_none, List.cons_append, List.nil_append, if_true, if_false, true_and, am_nw1_i, am_nw1_r, am_nw1_n, cond_true]
end AMRS1
