/-! THE REFERENCE: rules -/
theorem am_sh4 : ∀ r : Fin 256, nI r.1 >>> ((4 : Int32) &&& 31) = nI (r.1 / 16) ∧ nI r.1 &&& 15 = nI (r.1 % 16) := by decide +kernel
section AMRN5
variable {X : am_X} {D q : Nat} {S : am_S} {G : am_G} {b : Int32} {z : Nat} {V : Nat → Int32}
theorem am_mul40 (v : Nat) : (40 : Int32) * nI v = nI (40 * v) := (Int32.ofNat_mul 40 v).symm
theorem am_r120 {k : Nat} (hk : k < 4) : am_ald X (am_L0 q, G) 120 (nI k) = some (G 120 k) := by rw [am_a120, am_in_nI hk (by decide), nI_clamp (by omega)]; rfl
theorem am_r121 {k : Nat} (hk : k < 4) : am_ald X (am_L0 q, G) 121 (nI k) = some (G 121 k) := by rw [am_a121, am_in_nI hk (by decide), nI_clamp (by omega)]; rfl
theorem am_r122 {k : Nat} (hk : k < 160) : am_ald X (am_L0 q, G) 122 (nI k) = some (G 122 k) := by rw [am_a122, am_in_nI hk (by decide), nI_clamp (by omega)]; rfl
theorem am_m184 {r t : Nat} (hr : r < 256) {w : am_M} : am_CD X (D + 1) 184 [.int (nI r), .int (nI t)] w = some (some (.int (am_bI (am_rul r t))), w) := by
  obtain ⟨e1, e2⟩ := am_sh4 ⟨r, hr⟩
  dsimp only at e1 e2
  have e3 : nI (r / 16) &&& nI t = nI t &&& nI (r / 16) := Int32.and_comm _ _
  refine am_CD_of (M := am_N184) rfl rfl ?_
  show am_Rn _ _ ((Option.some FieldType.boolean)) am_J184 0 [some (.int (nI r)), some (.int (nI t))] [] w _
  unfold am_rul
  by_cases c : nI t &&& nI (r / 16) = nI (r % 16)
  · simp only [am_s184_0, am_s184_1, am_s184_2, am_s184_3, am_s184_4, am_s184_5, am_s184_6, am_s184_8, am_s184_9, am_s184_12, am_s184_13, am_s184_16, am_s184_17, e1, e2, e3, c, am_bI, decide_true, not_true_eq_false, or_true, true_or, eq_self, am_os_some, Option.toList_some, Option.toList_none, List.cons_append, List.nil_append, if_true, if_false, true_and, am_nw1_i, am_nw1_r, am_nw1_n, cond_true]
  · simp only [am_s184_0, am_s184_1, am_s184_2, am_s184_3, am_s184_4, am_s184_5, am_s184_6, am_s184_8, am_s184_9, am_s184_12, am_s184_13, am_s184_16, am_s184_17, e1, e2, e3, c, am_bI, decide_false, reduceCtorEq, not_false_eq_true, or_true, true_or, eq_self, am_os_some, Option.toList_some, Option.toList_none, List.cons_append, List.nil_append, if_true, if_false, true_and, am_nw1_i, am_nw1_r, am_nw1_n, cond_true]
/-- out of the loop, once it doesn't fit -/
theorem am_l185z {j r p : Nat} {y : Option Value} (hj : j < 4) : am_Rn X (D + 1) (some .boolean) am_J185 22 [some (.ref 114), some (.int (nI j)), some (.int (nI r)), some (.int 0), some (.int (nI p)), y] [] (am_L0 q, G) (some (.int 0), (am_L0 q, G)) := by
  by_cases c1 : nI p < G 115 2
  · by_cases c2 : nI p < G 121 j
    · simp only [am_s185_22, am_s185_24, am_s185_25, am_s185_28, am_s185_29, am_s185_30, am_s185_33, am_s185_35, am_s185_36, am_s185_39, am_s185_40, am_s185_41, am_s185_44, am_s185_45, am_s185_109, am_s185_110, am_f114_0, am_r115_2, am_f114_20, am_r121 hj, c1, c2, not_true_eq_false, true_or, eq_self, am_os_some, Option.toList_some, Option.toList_none, List.cons_append, List.nil_append, if_true, if_false, true_and, am_nw1_i, am_nw1_r, am_nw1_n, cond_true]
    · simp only [am_s185_22, am_s185_24, am_s185_25, am_s185_28, am_s185_29, am_s185_30, am_s185_33, am_s185_35, am_s185_36, am_s185_39, am_s185_40, am_s185_41, am_s185_44, am_s185_45, am_s185_109, am_s185_110, am_f114_0, am_r115_2, am_f114_20, am_r121 hj, c1, c2, not_true_eq_false, true_or, eq_self, am_os_some, Option.toList_some, Option.toList_none, List.cons_append, List.nil_append, if_true, if_false, true_and, am_nw1_i, am_nw1_r, am_nw1_n, cond_true]
  · simp only [am_s185_22, am_s185_24, am_s185_25, am_s185_28, am_s185_29, am_s185_30, am_s185_33, am_s185_35, am_s185_36, am_s185_39, am_s185_40, am_s185_41, am_s185_44, am_s185_45, am_s185_109, am_s185_110, am_f114_0, am_r115_2, c1, not_true_eq_false, true_or, eq_self, am_os_some, Option.toList_some, Option.toList_none, List.cons_append, List.nil_append, if_true, if_false, true_and, am_nw1_i, am_nw1_r, am_nw1_n, cond_true]
theorem am_l185 (h : am_rp (G 115) S) (hw : am_wf S) {j r : Nat} (hj : j < 4) (hr : r < 256) (hsh : am_rsh G j (b, z, V)) (hz : z ≤ 40) (hv : ∀ i, am_vok b (V i)) : ∀ (d p : Nat) (y : Option Value), p + d = min (S 13 0) z → am_nw1 y = true → am_Rn X (D + 1) (some .boolean) am_J185 22 [some (.ref 114), some (.int (nI j)), some (.int (nI r)), some (.int 1), some (.int (nI p)), y] [] (am_L0 q, G) (some (.int (am_bI (am_fta S V r d p))), (am_L0 q, G)) := by
  have h8 := hw.1
  have k2 : G 115 2 = nI (S 13 0) := h.2.1
  obtain ⟨v1, v2, v3⟩ := hsh
  dsimp only at v1 v2 v3
  have e10 : ((1 : Int32) = 0) = False := by decide
  intro d
  induction d with
  | zero =>
    intro p y hp _
    by_cases c : p = S 13 0
    · have h1 : ¬ nI p < nI (S 13 0) := by rw [c]; exact Int32.lt_irrefl
      simp only [am_s185_22, am_s185_24, am_s185_25, am_s185_28, am_s185_29, am_s185_30, am_s185_33, am_s185_35, am_s185_36, am_s185_39, am_s185_40, am_s185_41, am_s185_44, am_s185_45, am_s185_109, am_s185_110, am_f114_0, am_r115_2, k2, h1, am_fta, am_bI, or_true, eq_self, am_os_some, Option.toList_some, Option.toList_none, List.cons_append, List.nil_append, if_true, if_false, true_and, am_nw1_i, am_nw1_r, am_nw1_n, cond_true]
    · have hz : p = z := by omega
      have h1 : nI p < nI (S 13 0) := nI_lt (by omega) (by omega)
      have h2 : ¬ nI p < nI z := by rw [hz]; exact Int32.lt_irrefl
      simp only [am_s185_22, am_s185_24, am_s185_25, am_s185_28, am_s185_29, am_s185_30, am_s185_33, am_s185_35, am_s185_36, am_s185_39, am_s185_40, am_s185_41, am_s185_44, am_s185_45, am_s185_109, am_s185_110, am_f114_0, am_r115_2, k2, h1, am_f114_20, am_r121 hj, v2, h2, am_fta, am_bI, or_true, eq_self, am_os_some, Option.toList_some, Option.toList_none, List.cons_append, List.nil_append, if_true, if_false, true_and, am_nw1_i, am_nw1_r, am_nw1_n, cond_true]
  | succ d ih =>
    intro p y hp hy
    have p8 : p < 8 := by omega
    have h1 : nI p < nI (S 13 0) := nI_lt (by omega) (by omega)
    have h2 : nI p < nI z := nI_lt (by omega) (by omega)
    have hi : nI p + 1 = nI (p + 1) := nI_add p 1
    have kt := h.2.2.1 p 2 p8 (by decide)
    have kv := v3 p (by omega)
    have g1 := am_m184 (X := X) (D := D) (t := S 2 p) hr (w := (am_L0 q, G))
    obtain ⟨s1, s2⟩ := am_sgn_wi (M := 1) (hv p) (by decide)
    have g125 := am_m125 (X := X) (D := D) (w := (am_L0 q, G)) (am_sgn b (V p)) 0 1
    have s1' : (decide (¬ am_sgn b (V p) < 0) && decide (am_sgn b (V p) ≤ 1)) = am_wi (V p) 1 := s1
    rw [s1'] at g125
    unfold am_fta
    rw [am_okp_e]
    cases hw1 : am_wi (V p) 1 with
    | false =>
      rw [hw1] at g125
      rw [if_neg (show ¬ (false = true) by decide), if_pos rfl]
      simp only [am_s185_22, am_s185_24, am_s185_25, am_s185_28, am_s185_29, am_s185_30, am_s185_33, am_s185_35, am_s185_36, am_s185_39, am_s185_40, am_s185_41, am_s185_44, am_s185_45, am_s185_48, am_s185_49, am_s185_52, am_s185_54, am_s185_55, am_s185_56, am_s185_58, am_s185_59, am_s185_60, am_s185_62, am_s185_64, am_s185_65, am_s185_66, am_s185_69, am_s185_72, am_s185_73, am_s185_74, am_s185_76, am_s185_77, am_s185_80, am_s185_83, am_s185_85, am_s185_86, am_s185_89, am_s185_90, am_s185_93, am_s185_94, am_s185_97, am_s185_98, am_s185_101, am_s185_102, am_s185_103, am_f114_0, am_r115_2, k2, h1, am_f114_20, am_r121 hj, v2, h2, e10, am_f114_21, am_mul40, nI_add, am_r122 (show 40 * j + p < 160 by omega), kv, hy, am_cal_ok am_cat_0 am_rcv_f (g125), am_bI0, not_true_eq_false, not_false_eq_true, eq_self, am_os_some, Option.toList_some, Option.toList_none, List.cons_append, List.nil_append, if_true, if_false, true_and, am_nw1_i, am_nw1_r, am_nw1_n, cond_true]
      rw [am_s185_106, hi]
      have hi' : nI (p + 1) = nI (p + 1) := rfl
      exact ih (p + 1) (some (.int _)) (by omega) rfl
    | true =>
      rw [hw1] at g125
      rw [if_pos rfl]
      have es := s2 hw1
      rw [es] at g125 kv
      cases hg : am_rul r (S 2 p) with
      | true =>
        rw [hg] at g1
        by_cases c : V p = 1
        · rw [decide_eq_true c, show (true == true) = true from rfl, if_pos rfl]
          rw [c] at g125 kv
          simp only [am_s185_22, am_s185_24, am_s185_25, am_s185_28, am_s185_29, am_s185_30, am_s185_33, am_s185_35, am_s185_36, am_s185_39, am_s185_40, am_s185_41, am_s185_44, am_s185_45, am_s185_48, am_s185_49, am_s185_52, am_s185_54, am_s185_55, am_s185_56, am_s185_58, am_s185_59, am_s185_60, am_s185_62, am_s185_64, am_s185_65, am_s185_66, am_s185_69, am_s185_72, am_s185_73, am_s185_74, am_s185_76, am_s185_77, am_s185_80, am_s185_83, am_s185_85, am_s185_86, am_s185_89, am_s185_90, am_s185_93, am_s185_94, am_s185_97, am_s185_98, am_s185_101, am_s185_102, am_s185_103, am_f114_0, am_r115_2, k2, h1, am_f114_20, am_r121 hj, v2, h2, e10, am_f114_21, am_mul40, nI_add, am_r122 (show 40 * j + p < 160 by omega), kv, hy, am_cal_ok am_cat_0 am_rcv_f (g125), am_bI0, am_cal_ok (am_cat_1 _) am_v114 (am_i130_2 (D := D) p8), kt, am_cal_ok am_cat_0 am_rcv_f (g1), c, am_bI, reduceCtorEq, not_true_eq_false, not_false_eq_true, eq_self, am_os_some, Option.toList_some, Option.toList_none, List.cons_append, List.nil_append, if_true, if_false, true_and, am_nw1_i, am_nw1_r, am_nw1_n, cond_true]
          rw [am_s185_106, hi]
          exact ih (p + 1) (some (.int _)) (by omega) rfl
        · rw [decide_eq_false c, show (true == false) = false from rfl, if_neg (show ¬ (false = true) by decide)]
          simp only [am_s185_22, am_s185_24, am_s185_25, am_s185_28, am_s185_29, am_s185_30, am_s185_33, am_s185_35, am_s185_36, am_s185_39, am_s185_40, am_s185_41, am_s185_44, am_s185_45, am_s185_48, am_s185_49, am_s185_52, am_s185_54, am_s185_55, am_s185_56, am_s185_58, am_s185_59, am_s185_60, am_s185_62, am_s185_64, am_s185_65, am_s185_66, am_s185_69, am_s185_72, am_s185_73, am_s185_74, am_s185_76, am_s185_77, am_s185_80, am_s185_83, am_s185_85, am_s185_86, am_s185_89, am_s185_90, am_s185_93, am_s185_94, am_s185_97, am_s185_98, am_s185_101, am_s185_102, am_s185_103, am_f114_0, am_r115_2, k2, h1, am_f114_20, am_r121 hj, v2, h2, e10, am_f114_21, am_mul40, nI_add, am_r122 (show 40 * j + p < 160 by omega), kv, hy, am_cal_ok am_cat_0 am_rcv_f (g125), am_bI0, am_cal_ok (am_cat_1 _) am_v114 (am_i130_2 (D := D) p8), kt, am_cal_ok am_cat_0 am_rcv_f (g1), c, am_bI, reduceCtorEq, not_true_eq_false, not_false_eq_true, eq_self, am_os_some, Option.toList_some, Option.toList_none, List.cons_append, List.nil_append, if_true, if_false, true_and, am_nw1_i, am_nw1_r, am_nw1_n, cond_true]
          rw [am_s185_106, hi]
          exact am_l185z hj
      | false =>
        rw [hg] at g1
        by_cases c : V p = 1
        · rw [decide_eq_true c, show (false == true) = false from rfl, if_neg (show ¬ (false = true) by decide)]
          rw [c] at g125 kv
          have e01 : ((0 : Int32) = 1) = False := by decide
          simp only [am_s185_22, am_s185_24, am_s185_25, am_s185_28, am_s185_29, am_s185_30, am_s185_33, am_s185_35, am_s185_36, am_s185_39, am_s185_40, am_s185_41, am_s185_44, am_s185_45, am_s185_48, am_s185_49, am_s185_52, am_s185_54, am_s185_55, am_s185_56, am_s185_58, am_s185_59, am_s185_60, am_s185_62, am_s185_64, am_s185_65, am_s185_66, am_s185_69, am_s185_72, am_s185_73, am_s185_74, am_s185_76, am_s185_77, am_s185_80, am_s185_83, am_s185_85, am_s185_86, am_s185_89, am_s185_90, am_s185_93, am_s185_94, am_s185_97, am_s185_98, am_s185_101, am_s185_102, am_s185_103, am_f114_0, am_r115_2, k2, h1, am_f114_20, am_r121 hj, v2, h2, e10, e01, am_f114_21, am_mul40, nI_add, am_r122 (show 40 * j + p < 160 by omega), kv, hy, am_cal_ok am_cat_0 am_rcv_f (g125), am_bI0, am_cal_ok (am_cat_1 _) am_v114 (am_i130_2 (D := D) p8), kt, am_cal_ok am_cat_0 am_rcv_f (g1), c, am_bI, reduceCtorEq, not_true_eq_false, not_false_eq_true, eq_self, am_os_some, Option.toList_some, Option.toList_none, List.cons_append, List.nil_append, if_true, if_false, true_and, am_nw1_i, am_nw1_r, am_nw1_n, cond_true]
          rw [am_s185_106, hi]
          exact am_l185z hj
        · rw [decide_eq_false c, show (false == false) = true from rfl, if_pos rfl]
          simp only [am_s185_22, am_s185_24, am_s185_25, am_s185_28, am_s185_29, am_s185_30, am_s185_33, am_s185_35, am_s185_36, am_s185_39, am_s185_40, am_s185_41, am_s185_44, am_s185_45, am_s185_48, am_s185_49, am_s185_52, am_s185_54, am_s185_55, am_s185_56, am_s185_58, am_s185_59, am_s185_60, am_s185_62, am_s185_64, am_s185_65, am_s185_66, am_s185_69, am_s185_72, am_s185_73, am_s185_74, am_s185_76, am_s185_77, am_s185_80, am_s185_83, am_s185_85, am_s185_86, am_s185_89, am_s185_90, am_s185_93, am_s185_94, am_s185_97, am_s185_98, am_s185_101, am_s185_102, am_s185_103, am_f114_0, am_r115_2, k2, h1, am_f114_20, am_r121 hj, v2, h2, e10, am_f114_21, am_mul40, nI_add, am_r122 (show 40 * j + p < 160 by omega), kv, hy, am_cal_ok am_cat_0 am_rcv_f (g125), am_bI0, am_cal_ok (am_cat_1 _) am_v114 (am_i130_2 (D := D) p8), kt, am_cal_ok am_cat_0 am_rcv_f (g1), c, am_bI, reduceCtorEq, not_true_eq_false, not_false_eq_true, eq_self, am_os_some, Option.toList_some, Option.toList_none, List.cons_append, List.nil_append, if_true, if_false, true_and, am_nw1_i, am_nw1_r, am_nw1_n, cond_true]
          rw [am_s185_106, hi]
          exact ih (p + 1) (some (.int _)) (by omega) rfl
theorem am_m185 (h : am_rp (G 115) S) (hw : am_wf S) {j r : Nat} (hj : j < 4) (hr : r < 256) (hsh : am_rsh G j (b, z, V)) (hz : z ≤ 40) (hv : ∀ i, am_vok b (V i)) : am_CD X (D + 2) 185 [.ref 114, .int (nI j), .int (nI r)] (am_L0 q, G) = some (some (.int (am_bI (am_fts S V z r))), (am_L0 q, G)) := by
  obtain ⟨e1, e2⟩ := am_sh4 ⟨r, hr⟩
  dsimp only at e1 e2
  refine am_CD_of (M := am_N185) rfl rfl ?_
  show am_Rn _ _ ((Option.some FieldType.boolean)) am_J185 0 [some (.ref 114), some (.int (nI j)), some (.int (nI r)), none, none, none] [] (am_L0 q, G) _
  unfold am_fts am_irl
  by_cases c : nI (r % 16) &&& (nI (r / 16) ^^^ (-1)) = 0
  · rw [decide_eq_true c, Bool.true_and]
    simp only [am_s185_0, am_s185_1, am_s185_3, am_s185_4, am_s185_5, am_s185_6, am_s185_7, am_s185_8, am_s185_9, am_s185_10, am_s185_13, am_s185_14, am_s185_17, am_s185_18, am_s185_19, am_s185_20, e1, e2, c, not_true_eq_false, eq_self, am_os_some, Option.toList_some, Option.toList_none, List.cons_append, List.nil_append, if_true, if_false, true_and, am_nw1_i, am_nw1_r, am_nw1_n, cond_true]
    exact am_l185 h hw hj hr hsh hz hv (min (S 13 0) z) 0 none (by omega) rfl
  · rw [decide_eq_false c, Bool.false_and]
    simp only [am_s185_0, am_s185_1, am_s185_3, am_s185_4, am_s185_5, am_s185_6, am_s185_7, am_s185_8, am_s185_9, am_s185_10, am_s185_13, am_s185_14, am_s185_17, am_s185_18, am_s185_19, am_s185_20, e1, e2, c, not_false_eq_true, eq_self, am_os_some, Option.toList_some, Option.toList_none, List.cons_append, List.nil_append, if_true, if_false, true_and, am_nw1_i, am_nw1_r, am_nw1_n, cond_true]
    exact am_l185z (p := 0) hj
theorem am_l187a (h : am_rp (G 115) S) (hw : am_wf S) {j t : Nat} {bb l : Option Value} (hj : j < 4) (hsh : am_rsh G j (b, z, V)) (hz : z ≤ 40) (hv : ∀ i, am_vok b (V i)) : ∀ (d k : Nat), k + d = 256 → ∀ o, am_Rn X (D + 2) (some .int) am_J187 22 [some (.ref 114), some (.int (nI j)), bb, l, some (.int (nI t)), some (.int (am_ev S V z t k)), some (.int (nI k))] [] (am_L0 q, G) o = am_Rn X (D + 2) (some .int) am_J187 70 [some (.ref 114), some (.int (nI j)), bb, l, some (.int (nI t)), some (.int (am_ev S V z t 256)), some (.int (nI 256))] [] (am_L0 q, G) o := by
  intro d
  induction d with
  | zero =>
    intro k hk o
    obtain rfl : k = 256 := by omega
    have h1 : ¬ nI 256 < 256 := by decide +kernel
    simp only [am_s187_22, am_s187_24, am_s187_27, h1, eq_self, am_os_some, Option.toList_some, Option.toList_none, List.cons_append, List.nil_append, if_true, if_false, true_and, am_nw1_i, am_nw1_r, am_nw1_n, cond_true]
  | succ d ih =>
    intro k hk o
    have h1 : nI k < 256 := nI_lt (b := 256) (by omega) (by decide)
    have hi : nI k + 1 = nI (k + 1) := nI_add k 1
    have g185 := am_m185 (X := X) (D := D) (q := q) (r := k) h hw hj (by omega) hsh hz hv
    have g184 := am_m184 (X := X) (D := D + 1) (r := k) (t := t) (by omega) (w := (am_L0 q, G))
    have ih1 := ih (k + 1) (by omega) o
    rw [am_ev_s] at ih1
    cases hf : am_fts S V z k with
    | false =>
      rw [hf] at g185 ih1
      rw [if_neg (by decide)] at ih1
      simp only [am_s187_22, am_s187_24, am_s187_27, am_s187_30, am_s187_32, am_s187_33, am_s187_34, am_s187_36, am_s187_39, am_s187_42, am_s187_44, am_s187_46, am_s187_49, am_s187_52, am_s187_53, am_s187_56, am_s187_57, am_s187_60, am_s187_61, am_s187_62, am_s187_64, h1, am_cal_ok (am_cat_1 _) am_v114 (g185), am_bI0, not_true_eq_false, eq_self, am_os_some, Option.toList_some, Option.toList_none, List.cons_append, List.nil_append, if_true, if_false, true_and, am_nw1_i, am_nw1_r, am_nw1_n, cond_true]
      rw [am_s187_67, hi]
      exact ih1
    | true =>
      rw [hf] at g185 ih1
      rw [if_pos rfl] at ih1
      cases hg : am_rul k t with
      | false =>
        rw [hg] at g184 ih1
        rw [if_neg (by decide)] at ih1
        simp only [am_s187_22, am_s187_24, am_s187_27, am_s187_30, am_s187_32, am_s187_33, am_s187_34, am_s187_36, am_s187_39, am_s187_42, am_s187_44, am_s187_46, am_s187_49, am_s187_52, am_s187_53, am_s187_56, am_s187_57, am_s187_60, am_s187_61, am_s187_62, am_s187_64, h1, am_cal_ok (am_cat_1 _) am_v114 (g185), am_cal_ok (am_cat_1 _) am_rcv_f (g184), am_bI0, reduceCtorEq, not_true_eq_false, not_false_eq_true, eq_self, am_os_some, Option.toList_some, Option.toList_none, List.cons_append, List.nil_append, if_true, if_false, true_and, am_nw1_i, am_nw1_r, am_nw1_n, cond_true]
        rw [am_s187_67, hi]
        exact ih1
      | true =>
        rw [hg] at g184 ih1
        rw [if_pos rfl] at ih1
        simp only [am_s187_22, am_s187_24, am_s187_27, am_s187_30, am_s187_32, am_s187_33, am_s187_34, am_s187_36, am_s187_39, am_s187_42, am_s187_44, am_s187_46, am_s187_49, am_s187_52, am_s187_53, am_s187_56, am_s187_57, am_s187_60, am_s187_61, am_s187_62, am_s187_64, h1, am_cal_ok (am_cat_1 _) am_v114 (g185), am_cal_ok (am_cat_1 _) am_rcv_f (g184), am_bI0, reduceCtorEq, not_true_eq_false, not_false_eq_true, eq_self, am_os_some, Option.toList_some, Option.toList_none, List.cons_append, List.nil_append, if_true, if_false, true_and, am_nw1_i, am_nw1_r, am_nw1_n, cond_true]
        rw [am_s187_67, hi]
        exact ih1
theorem am_m187 (h : am_rp (G 115) S) (hw : am_wf S) {j : Nat} (hj : j < 4) (hsh : am_rsh G j (b, z, V)) (hz : z ≤ 40) (hv : ∀ i, am_vok b (V i)) : am_CD X (D + 3) 187 [.ref 114, .int (nI j)] (am_L0 q, G) = some (some (.int (nI (am_mev (am_flr S V z 256) 15).1)), (am_L0 q, G)) := by
  have hL := (am_flr_le (S := S) (V := V) (z := z) 256).1
  have hu : ∀ t, am_abs (am_ev S V z t 256) = am_une (am_flr S V z 256) t := fun t => rfl
  generalize hLL : am_flr S V z 256 = L at hL hu
  have hl : ∀ (d k : Nat) (y1 y2 : Option Value), k + d = 16 → am_nw1 y1 = true → am_Rn X (D + 2) (some .int) am_J187 9 [some (.ref 114), some (.int (nI j)), some (.int (nI (am_mv2 L k).1)), some (.int (am_mv2 L k).2), some (.int (nI k)), y1, y2] [] (am_L0 q, G) (some (.int (nI (am_mv2 L 16).1)), (am_L0 q, G)) := by
    intro d
    induction d with
    | zero =>
      intro k y1 y2 hk _
      obtain rfl : k = 16 := by omega
      have h1 : ¬ nI 16 ≤ 15 := by decide +kernel
      simp only [am_s187_9, am_s187_11, am_s187_13, am_s187_117, am_s187_118, h1, eq_self, am_os_some, Option.toList_some, Option.toList_none, List.cons_append, List.nil_append, if_true, if_false, true_and, am_nw1_i, am_nw1_r, am_nw1_n, cond_true]
    | succ d ih =>
      intro k y1 y2 hk _
      have h1 : nI k ≤ 15 := nI_le (b := 15) (by omega) (by decide)
      have hi : nI k + 1 = nI (k + 1) := nI_add k 1
      have ga := fun o => am_l187a (X := X) (D := D) (q := q) (t := k) (bb := some (.int (nI (am_mv2 L k).1))) (l := some (.int (am_mv2 L k).2)) h hw hj hsh hz hv 256 0 rfl o
      have e0 : am_ev S V z k 0 = 0 := rfl
      rw [e0, nI_0] at ga
      have ih1 := ih (k + 1) (some (.int (am_une L k))) (some (.int (nI 256))) (by omega) rfl
      simp only [am_s187_9, am_s187_11, am_s187_13, am_s187_16, am_s187_17, am_s187_19, am_s187_20, h1, eq_self, am_os_some, Option.toList_some, Option.toList_none, List.cons_append, List.nil_append, if_true, if_false, true_and, am_nw1_i, am_nw1_r, am_nw1_n, cond_true]
      rw [ga]
      have eu : am_Rn X (D + 2) (some .int) am_J187 70 [some (.ref 114), some (.int (nI j)), some (.int (nI (am_mv2 L k).1)), some (.int (am_mv2 L k).2), some (.int (nI k)), some (.int (am_ev S V z k 256)), some (.int (nI 256))] [] (am_L0 q, G) (some (.int (nI (am_mv2 L 16).1)), (am_L0 q, G)) = am_Rn X (D + 2) (some .int) am_J187 85 [some (.ref 114), some (.int (nI j)), some (.int (nI (am_mv2 L k).1)), some (.int (am_mv2 L k).2), some (.int (nI k)), some (.int (am_une L k)), some (.int (nI 256))] [] (am_L0 q, G) (some (.int (nI (am_mv2 L 16).1)), (am_L0 q, G)) := by
        rw [← hu k, ← am_abs_e]
        by_cases c : am_ev S V z k 256 < 0
        · rw [if_pos c]
          simp only [am_s187_70, am_s187_72, am_s187_75, am_s187_77, am_s187_78, am_s187_81, am_s187_83, c, not_true_eq_false, eq_self, am_os_some, Option.toList_some, Option.toList_none, List.cons_append, List.nil_append, if_true, if_false, true_and, am_nw1_i, am_nw1_r, am_nw1_n, cond_true]
        · rw [if_neg c]
          simp only [am_s187_70, am_s187_72, am_s187_75, am_s187_77, am_s187_78, am_s187_81, am_s187_83, c, not_false_eq_true, eq_self, am_os_some, Option.toList_some, Option.toList_none, List.cons_append, List.nil_append, if_true, if_false, true_and, am_nw1_i, am_nw1_r, am_nw1_n, cond_true]
      rw [eu]
      have em : am_mv2 L (k + 1) = if am_une L k < (am_mv2 L k).2 then (k, am_une L k) else am_mv2 L k := rfl
      rw [em] at ih1
      by_cases c : am_une L k < (am_mv2 L k).2
      · rw [if_pos c] at ih1
        simp only [am_s187_85, am_s187_87, am_s187_88, am_s187_91, am_s187_93, am_s187_96, am_s187_97, am_s187_98, am_s187_100, am_s187_101, am_s187_104, am_s187_106, am_s187_109, am_s187_110, am_s187_111, c, not_true_eq_false, not_false_eq_true, eq_self, am_os_some, Option.toList_some, Option.toList_none, List.cons_append, List.nil_append, if_true, if_false, true_and, am_nw1_i, am_nw1_r, am_nw1_n, cond_true]
        rw [am_s187_114, hi]
        exact ih1
      · rw [if_neg c] at ih1
        simp only [am_s187_85, am_s187_87, am_s187_88, am_s187_91, am_s187_93, am_s187_96, am_s187_97, am_s187_98, am_s187_100, am_s187_101, am_s187_104, am_s187_106, am_s187_109, am_s187_110, am_s187_111, c, not_true_eq_false, not_false_eq_true, eq_self, am_os_some, Option.toList_some, Option.toList_none, List.cons_append, List.nil_append, if_true, if_false, true_and, am_nw1_i, am_nw1_r, am_nw1_n, cond_true]
        rw [am_s187_114, hi]
        exact ih1
  have hfin := hl 16 0 none none rfl rfl
  rw [am_mv2_e hL 15] at hfin
  refine am_CD_of (M := am_N187) rfl rfl ?_
  show am_Rn _ _ ((Option.some FieldType.int)) am_J187 0 [some (.ref 114), some (.int (nI j)), none, none, none, none, none] [] (am_L0 q, G) _
  simp only [am_s187_0, am_s187_1, am_s187_2, am_s187_5, am_s187_6, am_s187_7, eq_self, am_os_some, Option.toList_some, Option.toList_none, List.cons_append, List.nil_append, if_true, if_false, true_and, am_nw1_i, am_nw1_r, am_nw1_n, cond_true]
  exact hfin
theorem am_l186 (h : am_rp (G 115) S) (hw : am_wf S) {j : Nat} {w : Int32} (hj : j < 4) (hsh : am_rsh G j (b, z, V)) (hz : z ≤ 40) (hv : ∀ i, am_vok b (V i)) : ∀ (k : Nat), k ≤ 256 → ∀ o, am_Rn X 99 (some .int) am_J186 49 [some (.ref 114), some (.int (nI j)), some (.int w), some (.int (nI (am_tp S V z (256 - k)).length)), some (.int (nI ((am_tp S V z (256 - k)).getD 0 0))), some (.int (nI k - 1))] [] (am_L0 q, G) o = am_Rn X 99 (some .int) am_J186 77 [some (.ref 114), some (.int (nI j)), some (.int w), some (.int (nI (am_flr S V z 256).length)), some (.int (nI ((am_flr S V z 256).getD 0 0))), some (.int (nI 0 - 1))] [] (am_L0 q, G) o := by
  intro k
  induction k with
  | zero =>
    intro _ o
    rw [Nat.sub_zero, am_tp_all]
    have h1 : (nI 0 - 1 < 0) = True := by decide +kernel
    simp only [am_s186_49, am_s186_51, h1, eq_self, am_os_some, Option.toList_some, Option.toList_none, List.cons_append, List.nil_append, if_true, if_false, true_and, am_nw1_i, am_nw1_r, am_nw1_n, cond_true]
  | succ k ih =>
    intro hk o
    have ih1 := ih (by omega) o
    have h1 : ¬ nI k < 0 := nI_pos (by omega)
    have e1 : nI (k + 1) - 1 = nI k := nI_pred k
    have e2 : nI k + (-1) = nI k - 1 := (Int32.sub_eq_add_neg _ _).symm
    have g185 := am_m185 (X := X) (D := 97) (q := q) (r := k) h hw hj (by omega) hsh hz hv
    have ed : 256 - k = (256 - (k + 1)) + 1 := by omega
    have ek : 255 - (256 - (k + 1)) = k := by omega
    have et : am_tp S V z (256 - (k + 1) + 1) = if am_fts S V z (255 - (256 - (k + 1))) = true then (255 - (256 - (k + 1))) :: am_tp S V z (256 - (k + 1)) else am_tp S V z (256 - (k + 1)) := rfl
    rw [ed, et, ek] at ih1
    have hlen : (am_tp S V z (256 - (k + 1))).length ≤ 256 := by
      have := congrArg List.length (am_flr_tp S V z (256 - (k + 1)) (k + 1) (by omega))
      rw [List.length_append] at this
      have := (am_flr_le (S := S) (V := V) (z := z) 256).1
      omega
    generalize am_tp S V z (256 - (k + 1)) = L at *
    have hl : nI L.length + 1 = nI (L.length + 1) := nI_add _ 1
    cases hf : am_fts S V z k with
    | false =>
      rw [hf] at g185 ih1
      rw [if_neg (by decide)] at ih1
      simp only [am_s186_49, am_s186_51, am_s186_54, am_s186_55, am_s186_56, am_s186_58, am_s186_61, am_s186_64, am_s186_67, am_s186_69, am_s186_71, e1, h1, am_cal_ok am_cat_0 am_v114 (g185), am_bI0, e2, not_true_eq_false, not_false_eq_true, eq_self, am_os_some, Option.toList_some, Option.toList_none, List.cons_append, List.nil_append, if_true, if_false, true_and, am_nw1_i, am_nw1_r, am_nw1_n, cond_true]
      rw [am_s186_74]
      exact ih1
    | true =>
      rw [hf] at g185 ih1
      rw [if_pos rfl] at ih1
      simp only [am_s186_49, am_s186_51, am_s186_54, am_s186_55, am_s186_56, am_s186_58, am_s186_61, am_s186_64, am_s186_67, am_s186_69, am_s186_71, e1, h1, am_cal_ok am_cat_0 am_v114 (g185), am_bI0, e2, hl, reduceCtorEq, not_true_eq_false, not_false_eq_true, eq_self, am_os_some, Option.toList_some, Option.toList_none, List.cons_append, List.nil_append, if_true, if_false, true_and, am_nw1_i, am_nw1_r, am_nw1_n, cond_true]
      rw [am_s186_74]
      exact ih1
end AMRN5
section AMRN6
variable {X : am_X} {q : Nat}
theorem am_r186 {a w : Int32} {s : am_St} (hs : am_oks s) : am_rO 186 [.int a, .int w] s (am_O96 a w s) := by
  unfold am_O96
  cases h1 : am_wi a 3 with
  | false =>
    refine am_rO_err (k := 1) (r := -1000000001) (by decide) am_ec1.symm fun X q G hc => am_CD_of (M := am_N186) rfl rfl ?_
    have hn : G 115 2 = nI (s.1.1 13 0) := hc.1.1.2.1
    show am_Rn _ _ ((Option.some FieldType.int)) am_J186 0 [some (.ref 114), some (.int a), some (.int w), none, none, none] [] (am_L0 q, G) _
    simp only [am_s186_0, am_s186_1, am_s186_4, am_s186_7, am_s186_8, am_s186_9, am_s186_10, am_s186_13, am_s186_16, am_s186_17, am_s186_19, am_s186_22, am_cal_ok am_cat_0 am_rcv_f (am_m183 (D := 97) _), h1, am_cal_ok am_cat_0 am_v114 (am_d1 (D := 98)), am_cal_ok am_cat_0 am_v114 (am_d2 (D := 98)), am_cal_ok am_cat_0 am_v114 (am_d3 (D := 98)), am_cal_ok am_cat_0 am_v114 (am_d4 (D := 98)), am_cal_ok am_cat_0 am_v114 (am_d5 (D := 98)), am_cal_ok am_cat_0 am_rcv_f (am_y125 _ _), am_cal_ok am_cat_0 am_rcv_f (am_m183 (D := 97) _), am_bI0, am_f114_0, am_er_f, am_sy_f, Bool.false_and, Bool.and_false, reduceCtorEq, not_false_eq_true, not_true_eq_false, eq_self, am_os_some, Option.toList_some, Option.toList_none, List.cons_append, List.nil_append, if_true, if_false, true_and, am_nw1_i, am_nw1_r, am_nw1_n, cond_true]
  | true =>
    cases h2 : am_wi w 2 with
    | false =>
      rw [if_pos (by decide)]
      refine am_rO_err (k := 1) (r := -1000000001) (by decide) am_ec1.symm fun X q G hc => am_CD_of (M := am_N186) rfl rfl ?_
      have hn : G 115 2 = nI (s.1.1 13 0) := hc.1.1.2.1
      show am_Rn _ _ ((Option.some FieldType.int)) am_J186 0 [some (.ref 114), some (.int a), some (.int w), none, none, none] [] (am_L0 q, G) _
      simp only [am_s186_0, am_s186_1, am_s186_4, am_s186_7, am_s186_8, am_s186_9, am_s186_10, am_s186_13, am_s186_16, am_s186_17, am_s186_19, am_s186_22, am_cal_ok am_cat_0 am_rcv_f (am_m183 (D := 97) _), h1, h2, am_cal_ok am_cat_0 am_v114 (am_d1 (D := 98)), am_cal_ok am_cat_0 am_v114 (am_d2 (D := 98)), am_cal_ok am_cat_0 am_v114 (am_d3 (D := 98)), am_cal_ok am_cat_0 am_v114 (am_d4 (D := 98)), am_cal_ok am_cat_0 am_v114 (am_d5 (D := 98)), am_cal_ok am_cat_0 am_rcv_f (am_y125 _ _), am_cal_ok am_cat_0 am_rcv_f (am_m183 (D := 97) _), am_bI0, am_f114_0, am_er_f, am_sy_f, Bool.false_and, Bool.and_false, reduceCtorEq, not_false_eq_true, not_true_eq_false, eq_self, am_os_some, Option.toList_some, Option.toList_none, List.cons_append, List.nil_append, if_true, if_false, true_and, am_nw1_i, am_nw1_r, am_nw1_n, cond_true]
    | true =>
      rw [if_neg (by decide)]
      obtain ⟨a1, a2⟩ := am_wi_nI (n := 3) (by decide) h1
      obtain ⟨w1, w2⟩ := am_wi_nI (n := 2) (by decide) h2
      generalize a.toNatClampNeg = j at a1 a2
      generalize w.toNatClampNeg = w at w1 w2
      subst a2 w2
      have hj : j < 4 := by omega
      have ho := hs.2.2.2 j hj
      rcases hx : s.2.2.2.2.2 j with ⟨b, z, V⟩
      rw [hx] at ho
      obtain ⟨hz, -, hv⟩ := ho
      dsimp only at hz hv ⊢
      by_cases hb : b = 0
      · rw [if_pos hb]
        refine am_rO_err (k := 2) (r := -1000000002) (by decide) am_ec2.symm fun X q G hc => am_CD_of (M := am_N186) rfl rfl ?_
        have hn : G 115 2 = nI (s.1.1 13 0) := hc.1.1.2.1
        have hsh := hc.2.2.2.2.2.2.2 j hj
        rw [hx] at hsh
        have kb : G 120 j = 0 := hsh.1.trans hb
        show am_Rn _ _ ((Option.some FieldType.int)) am_J186 0 [some (.ref 114), some (.int (nI j)), some (.int (nI w)), none, none, none] [] (am_L0 q, G) _
        simp only [am_s186_0, am_s186_1, am_s186_4, am_s186_7, am_s186_8, am_s186_9, am_s186_10, am_s186_13, am_s186_16, am_s186_17, am_s186_19, am_s186_22, am_s186_23, am_s186_24, am_s186_27, am_s186_28, am_s186_29, am_s186_32, am_s186_33, am_s186_35, am_s186_38, am_cal_ok am_cat_0 am_rcv_f (am_m183 (D := 97) _), h1, h2, am_f114_19, am_r120 hj, kb, not_true_eq_false, am_cal_ok am_cat_0 am_v114 (am_d1 (D := 98)), am_cal_ok am_cat_0 am_v114 (am_d2 (D := 98)), am_cal_ok am_cat_0 am_v114 (am_d3 (D := 98)), am_cal_ok am_cat_0 am_v114 (am_d4 (D := 98)), am_cal_ok am_cat_0 am_v114 (am_d5 (D := 98)), am_cal_ok am_cat_0 am_rcv_f (am_y125 _ _), am_cal_ok am_cat_0 am_rcv_f (am_m183 (D := 97) _), am_bI0, am_f114_0, am_er_f, am_sy_f, Bool.false_and, Bool.and_false, reduceCtorEq, not_false_eq_true, not_true_eq_false, eq_self, am_os_some, Option.toList_some, Option.toList_none, List.cons_append, List.nil_append, if_true, if_false, true_and, am_nw1_i, am_nw1_r, am_nw1_n, cond_true]
      · rw [if_neg hb]
        have pre : ∀ (N : Nat) (xs : Nat → Int32) (q : Nat) (G : am_G) (o : Option Value × am_M), am_rfl G s → am_Rn (am_X0 N xs) 99 (some .int) am_J186 77 [some (.ref 114), some (.int (nI j)), some (.int (nI w)), some (.int (nI (am_flr s.1.1 V z 256).length)), some (.int (nI ((am_flr s.1.1 V z 256).getD 0 0))), some (.int (nI 0 - 1))] [] (am_L0 q, G) o → am_CD (am_X0 N xs) 100 186 [.ref 114, .int (nI j), .int (nI w)] (am_L0 q, G) = some o := fun N xs q G o hc h => by
          have hsh := hc.2.2.2.2.2.2.2 j hj
          rw [hx] at hsh
          have kb : G 120 j = b := hsh.1
          have g := am_l186 (X := am_X0 N xs) (q := q) (w := nI w) hc.1.1 hs.1.1 hj hsh hz hv 256 (Nat.le_refl _) o
          have e0 : am_tp s.1.1 V z (256 - 256) = [] := rfl
          have e1 : nI 256 - 1 = 255 := by decide +kernel
          rw [e0, e1] at g
          refine am_CD_of (M := am_N186) rfl rfl ?_
          show am_Rn _ _ ((Option.some FieldType.int)) am_J186 0 [some (.ref 114), some (.int (nI j)), some (.int (nI w)), none, none, none] [] (am_L0 q, G) _
          simp only [am_s186_0, am_s186_1, am_s186_4, am_s186_7, am_s186_8, am_s186_9, am_s186_10, am_s186_13, am_s186_16, am_s186_17, am_s186_19, am_s186_22, am_s186_23, am_s186_24, am_s186_27, am_s186_28, am_s186_29, am_s186_32, am_s186_33, am_s186_35, am_s186_38, am_s186_39, am_s186_40, am_s186_41, am_s186_42, am_s186_44, am_s186_47, am_cal_ok am_cat_0 am_rcv_f (am_m183 (D := 97) _), h1, h2, am_f114_19, am_r120 hj, kb, hb, not_false_eq_true, am_cal_ok am_cat_0 am_v114 (am_d1 (D := 98)), am_cal_ok am_cat_0 am_v114 (am_d2 (D := 98)), am_cal_ok am_cat_0 am_v114 (am_d3 (D := 98)), am_cal_ok am_cat_0 am_v114 (am_d4 (D := 98)), am_cal_ok am_cat_0 am_v114 (am_d5 (D := 98)), am_cal_ok am_cat_0 am_rcv_f (am_y125 _ _), am_cal_ok am_cat_0 am_rcv_f (am_m183 (D := 97) _), am_bI0, am_f114_0, am_er_f, am_sy_f, Bool.false_and, Bool.and_false, reduceCtorEq, not_false_eq_true, not_true_eq_false, eq_self, am_os_some, Option.toList_some, Option.toList_none, List.cons_append, List.nil_append, if_true, if_false, true_and, am_nw1_i, am_nw1_r, am_nw1_n, cond_true]
          refine (g.mpr ?_)
          exact h
        have hlen := (am_flr_le (S := s.1.1) (V := V) (z := z) 256).1
        match w, w1, pre with
        | 0, _, pre =>
          rw [if_pos rfl]
          refine am_rO_same fun N xs q G hc => ⟨G, fun _ _ _ => rfl, fun _ _ _ _ _ _ _ _ => rfl, pre N xs q G _ hc ?_⟩
          have e1 : (nI 0 = 1) = False := by decide
          have e0 : (nI 0 = 0) = True := by decide
          simp only [am_s186_77, am_s186_78, am_s186_79, am_s186_82, am_s186_83, am_s186_86, am_s186_87, am_s186_89, am_s186_92, am_s186_93, am_s186_94, am_s186_97, am_s186_98, am_s186_101, am_s186_102, am_s186_103, am_s186_106, am_s186_108, am_s186_111, am_s186_112, am_s186_113, am_s186_116, e1, e0, not_true_eq_false, not_false_eq_true, am_cal_ok am_cat_0 am_v114 (am_d1 (D := 98)), am_cal_ok am_cat_0 am_v114 (am_d2 (D := 98)), am_cal_ok am_cat_0 am_v114 (am_d3 (D := 98)), am_cal_ok am_cat_0 am_v114 (am_d4 (D := 98)), am_cal_ok am_cat_0 am_v114 (am_d5 (D := 98)), am_cal_ok am_cat_0 am_rcv_f (am_y125 _ _), am_cal_ok am_cat_0 am_rcv_f (am_m183 (D := 97) _), am_bI0, am_f114_0, am_er_f, am_sy_f, Bool.false_and, Bool.and_false, reduceCtorEq, not_false_eq_true, not_true_eq_false, eq_self, am_os_some, Option.toList_some, Option.toList_none, List.cons_append, List.nil_append, if_true, if_false, true_and, am_nw1_i, am_nw1_r, am_nw1_n, cond_true]
        | 2, _, pre =>
          rw [if_neg (by decide), if_pos rfl]
          refine am_rO_same fun N xs q G hc => ⟨G, fun _ _ _ => rfl, fun _ _ _ _ _ _ _ _ => rfl, pre N xs q G _ hc ?_⟩
          have hsh := hc.2.2.2.2.2.2.2 j hj
          rw [hx] at hsh
          have e1 : (nI 2 = 1) = False := by decide
          have e0 : (nI 2 = 0) = False := by decide
          simp only [am_s186_77, am_s186_78, am_s186_79, am_s186_82, am_s186_83, am_s186_86, am_s186_87, am_s186_89, am_s186_92, am_s186_93, am_s186_94, am_s186_97, am_s186_98, am_s186_101, am_s186_102, am_s186_103, am_s186_106, am_s186_108, am_s186_111, am_s186_112, am_s186_113, am_s186_116, e1, e0, am_cal_ok am_cat_0 am_v114 (am_m187 (D := 96) hc.1.1 hs.1.1 hj hsh hz hv), not_true_eq_false, not_false_eq_true, am_cal_ok am_cat_0 am_v114 (am_d1 (D := 98)), am_cal_ok am_cat_0 am_v114 (am_d2 (D := 98)), am_cal_ok am_cat_0 am_v114 (am_d3 (D := 98)), am_cal_ok am_cat_0 am_v114 (am_d4 (D := 98)), am_cal_ok am_cat_0 am_v114 (am_d5 (D := 98)), am_cal_ok am_cat_0 am_rcv_f (am_y125 _ _), am_cal_ok am_cat_0 am_rcv_f (am_m183 (D := 97) _), am_bI0, am_f114_0, am_er_f, am_sy_f, Bool.false_and, Bool.and_false, reduceCtorEq, not_false_eq_true, not_true_eq_false, eq_self, am_os_some, Option.toList_some, Option.toList_none, List.cons_append, List.nil_append, if_true, if_false, true_and, am_nw1_i, am_nw1_r, am_nw1_n, cond_true]
        | 1, _, pre =>
          rw [if_neg (by decide), if_neg (by decide)]
          have e1 : (nI 1 = 1) = True := by decide
          have e0 : (nI 1 = 0) = False := by decide
          by_cases hl : (am_flr s.1.1 V z 256).length = 0
          · rw [if_pos hl]
            intro N xs q G hc
            have e2 : nI (am_flr s.1.1 V z 256).length = 0 := by rw [hl]; rfl
            refine ⟨am_up G 119 2 (G 119 2 + 1), fun i j hi => by rw [am_up_get, if_neg (by omega)], am_rfl_E (by decide) hc, pre N xs q G _ hc ?_⟩
            simp only [am_s186_77, am_s186_78, am_s186_79, am_s186_82, am_s186_83, am_s186_86, am_s186_87, am_s186_89, am_s186_92, am_s186_93, am_s186_94, am_s186_97, am_s186_98, am_s186_101, am_s186_102, am_s186_103, am_s186_106, am_s186_108, am_s186_111, am_s186_112, am_s186_113, am_s186_116, e1, e0, e2, am_er_f, am_ec2, not_true_eq_false, not_false_eq_true, am_cal_ok am_cat_0 am_v114 (am_d1 (D := 98)), am_cal_ok am_cat_0 am_v114 (am_d2 (D := 98)), am_cal_ok am_cat_0 am_v114 (am_d3 (D := 98)), am_cal_ok am_cat_0 am_v114 (am_d4 (D := 98)), am_cal_ok am_cat_0 am_v114 (am_d5 (D := 98)), am_cal_ok am_cat_0 am_rcv_f (am_y125 _ _), am_cal_ok am_cat_0 am_rcv_f (am_m183 (D := 97) _), am_bI0, am_f114_0, am_er_f, am_sy_f, Bool.false_and, Bool.and_false, reduceCtorEq, not_false_eq_true, not_true_eq_false, eq_self, am_os_some, Option.toList_some, Option.toList_none, List.cons_append, List.nil_append, if_true, if_false, true_and, am_nw1_i, am_nw1_r, am_nw1_n, cond_true]
          · rw [if_neg hl]
            refine am_rO_same fun N xs q G hc => ⟨G, fun _ _ _ => rfl, fun _ _ _ _ _ _ _ _ => rfl, pre N xs q G _ hc ?_⟩
            have e2 : ¬ nI (am_flr s.1.1 V z 256).length = 0 := nI_ne0 (by omega) (by omega)
            simp only [am_s186_77, am_s186_78, am_s186_79, am_s186_82, am_s186_83, am_s186_86, am_s186_87, am_s186_89, am_s186_92, am_s186_93, am_s186_94, am_s186_97, am_s186_98, am_s186_101, am_s186_102, am_s186_103, am_s186_106, am_s186_108, am_s186_111, am_s186_112, am_s186_113, am_s186_116, e1, e0, e2, not_true_eq_false, not_false_eq_true, am_cal_ok am_cat_0 am_v114 (am_d1 (D := 98)), am_cal_ok am_cat_0 am_v114 (am_d2 (D := 98)), am_cal_ok am_cat_0 am_v114 (am_d3 (D := 98)), am_cal_ok am_cat_0 am_v114 (am_d4 (D := 98)), am_cal_ok am_cat_0 am_v114 (am_d5 (D := 98)), am_cal_ok am_cat_0 am_rcv_f (am_y125 _ _), am_cal_ok am_cat_0 am_rcv_f (am_m183 (D := 97) _), am_bI0, am_f114_0, am_er_f, am_sy_f, Bool.false_and, Bool.and_false, reduceCtorEq, not_false_eq_true, not_true_eq_false, eq_self, am_os_some, Option.toList_some, Option.toList_none, List.cons_append, List.nil_append, if_true, if_false, true_and, am_nw1_i, am_nw1_r, am_nw1_n, cond_true]
end AMRN6
