/-! THE REFERENCE: a TEXT is walked: byteAt, isDigit, fails, number, named -/
def am_ps (u : Nat) (B : Nat → Nat) (n : Nat) (a b c : Int32) (G : am_G) (i op : Nat) : Prop := G 114 7 = nI u ∧ G 114 8 = nI i ∧ G 114 9 = nI n ∧ G 114 10 = nI op ∧ G 114 11 = a ∧ G 114 12 = b ∧ G 114 13 = c ∧ G 114 14 = 1 ∧ (∀ j, j < n → G 115 (181 + 50 * u + j) = nI (B j) ∧ B j < 256) ∧ n ≤ 50
/-- a fault, at i -/
def am_pf (G : am_G) (i : Nat) : Prop := G 114 8 = nI i ∧ G 114 14 = 0
def am_frp (G G' : am_G) : Prop := ∀ i j, (i = 114 → j ≠ 8 ∧ j ≠ 10 ∧ j ≠ 14) → G' i j = G i j
theorem am_frp.tr {G G1 G2 : am_G} (h1 : am_frp G G1) (h2 : am_frp G1 G2) : am_frp G G2 := fun i j h => (h2 i j h).trans (h1 i j h)
theorem am_frp.rf (G : am_G) : am_frp G G := fun _ _ _ => rfl
theorem am_frp_up (G : am_G) {k : Nat} (v : Int32) (h : k = 8 ∨ k = 10 ∨ k = 14) : am_frp G (am_up G 114 k v) := fun i j hh => by
  rw [am_up_get]
  split
  · rename_i e
    have := hh e
    rw [if_neg (by omega)]
  · rfl
theorem am_ps_up {u : Nat} {B : Nat → Nat} {n : Nat} {a b c : Int32} {G G' : am_G} {i op i' op' : Nat} (h : am_ps u B n a b c G i op) (hf : am_frp G G') (h8 : G' 114 8 = nI i') (h10 : G' 114 10 = nI op') (h14 : G' 114 14 = 1) : am_ps u B n a b c G' i' op' := by
  obtain ⟨a1, a2, a3, a4, a5, a6, a7, a8, a9, a10⟩ := h
  exact ⟨by rw [hf 114 7 (by omega)]; exact a1, h8, by rw [hf 114 9 (by omega)]; exact a3, h10, by rw [hf 114 11 (by omega)]; exact a5, by rw [hf 114 12 (by omega)]; exact a6, by rw [hf 114 13 (by omega)]; exact a7, h14, fun j hj => by rw [hf 115 _ (by omega)]; exact a9 j hj, a10⟩
theorem am_ps_at {u : Nat} {B : Nat → Nat} {n : Nat} {a b c : Int32} {G : am_G} {i op : Nat} (h : am_ps u B n a b c G i op) (i' : Nat) : am_ps u B n a b c (am_up G 114 8 (nI i')) i' op :=
  am_ps_up h (am_frp_up G _ (by omega)) (by rw [am_up_get, if_pos rfl, if_pos rfl]) (by rw [am_up_get, if_pos rfl, if_neg (by decide)]; exact h.2.2.2.1) (by rw [am_up_get, if_pos rfl, if_neg (by decide)]; exact h.2.2.2.2.2.2.2.1)
theorem am_ps_op {u : Nat} {B : Nat → Nat} {n : Nat} {a b c : Int32} {G : am_G} {i op : Nat} (h : am_ps u B n a b c G i op) (op' : Nat) : am_ps u B n a b c (am_up G 114 10 (nI op')) i op' :=
  am_ps_up h (am_frp_up G _ (by omega)) (by rw [am_up_get, if_pos rfl, if_neg (by decide)]; exact h.2.1) (by rw [am_up_get, if_pos rfl, if_pos rfl]) (by rw [am_up_get, if_pos rfl, if_neg (by decide)]; exact h.2.2.2.2.2.2.2.1)
theorem am_dig125 : ∀ c : Fin 256, (decide (¬ nI c.1 < 48) && decide (nI c.1 ≤ 57)) = am_dig c.1 := by decide +kernel
section AMPW
variable {X : am_X} {D q : Nat} {u n : Nat} {B : Nat → Nat} {a b c : Int32} {G : am_G} {i op : Nat}
theorem am_mul50 (v : Nat) : (50 : Int32) * nI v = nI (50 * v) := (Int32.ofNat_mul 50 v).symm
theorem am_ad181 (v : Nat) : (181 : Int32) + nI v = nI (181 + v) := nI_add 181 v
theorem am_m144 (h : am_ps u B n a b c G i op) (hu : u < 2) {k : Nat} (hk : k ≤ n) : am_CD X (D + 1) 144 [.ref 114, .int (nI k)] (am_L0 q, G) = some (some (.int (am_nx B n k)), (am_L0 q, G)) := by
  obtain ⟨a1, a2, a3, a4, a5, a6, a7, a8, a9, a10⟩ := h
  refine am_CD_of (M := am_N144) rfl rfl ?_
  show am_Rn _ _ ((Option.some FieldType.int)) am_J144 0 [some (.ref 114), some (.int (nI k))] [] (am_L0 q, G) _
  unfold am_nx
  by_cases e : k < n
  · have h1 : nI k < nI n := nI_lt e (by omega)
    rw [if_pos e]
    simp only [am_s144_0, am_s144_1, am_s144_2, am_s144_5, am_s144_8, am_s144_9, am_s144_12, am_s144_15, am_s144_17, am_s144_18, am_s144_21, am_s144_22, am_s144_23, am_s144_24, am_s144_25, am_s144_26, am_s144_29, am_s144_30, am_f114_9, am_f114_7, am_f114_0, a1, a3, h1, am_mul50, am_ad181, nI_add, am_r115 (show 181 + 50 * u + k < 281 by omega), (a9 k e).1, eq_self, am_os_some, Option.toList_some, Option.toList_none, List.cons_append, List.nil_append, if_true, if_false, true_and, am_nw1_i, am_nw1_r, am_nw1_n, cond_true]
  · have h1 : ¬ nI k < nI n := nI_nlt (by omega) (by omega)
    rw [if_neg e]
    simp only [am_s144_0, am_s144_1, am_s144_2, am_s144_5, am_s144_8, am_s144_9, am_s144_12, am_s144_15, am_s144_17, am_s144_18, am_s144_21, am_s144_22, am_s144_23, am_s144_24, am_s144_25, am_s144_26, am_s144_29, am_s144_30, am_f114_9, a3, h1, eq_self, am_os_some, Option.toList_some, Option.toList_none, List.cons_append, List.nil_append, if_true, if_false, true_and, am_nw1_i, am_nw1_r, am_nw1_n, cond_true]
theorem am_m145 (hB : ∀ j, j < n → B j < 256) {w : am_M} : am_CD X (D + 2) 145 [.int (am_nx B n i)] w = some (some (.int (am_bI (am_dig (am_byt B n i)))), w) := by
  have e : (decide (¬ am_nx B n i < 48) && decide (am_nx B n i ≤ 57)) = am_dig (am_byt B n i) := by
    unfold am_nx am_byt
    by_cases h : i < n
    · rw [if_pos h, if_pos h]
      exact am_dig125 ⟨B i, hB i h⟩
    · rw [if_neg h, if_neg h]
      decide +kernel
  refine am_CD_of (M := am_N145) rfl rfl ?_
  show am_Rn _ _ ((Option.some FieldType.boolean)) am_J145 0 [some (.int (am_nx B n i))] [] w _
  simp only [am_s145_0, am_s145_1, am_s145_3, am_s145_5, am_s145_8, am_cal_ok am_cat_0 am_rcv_f (am_m125 (D := D) _ _ _), e, am_bI01, eq_self, am_os_some, Option.toList_some, Option.toList_none, List.cons_append, List.nil_append, if_true, if_false, true_and, am_nw1_i, am_nw1_r, am_nw1_n, cond_true]
theorem am_m146 : am_CD X (D + 1) 146 [.ref 114] (am_L0 q, G) = some (some (.int 0), (am_L0 q, am_up G 114 14 0)) := by
  refine am_CD_of (M := am_N146) rfl rfl ?_
  show am_Rn _ _ ((Option.some FieldType.int)) am_J146 0 [some (.ref 114)] [] (am_L0 q, G) _
  have e : am_putM (am_L0 q, G) 114 11 14 (.int 0) = some (am_L0 q, am_up G 114 14 0) := rfl
  simp only [am_s146_0, am_s146_1, am_s146_2, am_s146_5, am_s146_6, e, eq_self, am_os_some, Option.toList_some, Option.toList_none, List.cons_append, List.nil_append, if_true, if_false, true_and, am_nw1_i, am_nw1_r, am_nw1_n, cond_true]
theorem am_m147 (h : am_ps u B n a b c G i op) (hu : u < 2) (hi : i ≤ n) : ∃ G' : am_G, am_frp G G' ∧ am_ps u B n a b c G' (am_num B n 4 i 0).2 op ∧ am_CD X (D + 3) 147 [.ref 114] (am_L0 q, G) = some (some (.int (nI (am_num B n 4 i 0).1)), (am_L0 q, G')) := by
  have hB : ∀ j, j < n → B j < 256 := fun j hj => (h.2.2.2.2.2.2.2.2.1 j hj).2
  have hl : ∀ (d k i v : Nat) (G : am_G), k + d = 4 → i ≤ n → v < 10 ^ k → am_ps u B n a b c G i op → ∃ G' : am_G, am_frp G G' ∧ am_ps u B n a b c G' (am_num B n d i v).2 op ∧ am_Rn X (D + 2) (some .int) am_J147 4 [some (.ref 114), some (.int (nI v)), some (.int (nI k))] [] (am_L0 q, G) (some (.int (nI (am_num B n d i v).1)), (am_L0 q, G')) := by
    intro d
    induction d with
    | zero =>
      intro k i v G hk hi hv h
      obtain rfl : k = 4 := by omega
      have h1 : ¬ nI 4 < 4 := by decide +kernel
      refine ⟨G, am_frp.rf G, h, ?_⟩
      unfold am_num
      simp only [am_s147_4, am_s147_5, am_s147_6, am_s147_56, am_s147_57, h1, eq_self, am_os_some, Option.toList_some, Option.toList_none, List.cons_append, List.nil_append, if_true, if_false, true_and, am_nw1_i, am_nw1_r, am_nw1_n, cond_true]
    | succ d ih =>
      intro k i v G hk hi hv h
      have h1 : nI k < 4 := nI_lt (show k < 4 by omega) (by decide)
      have hi1 : nI k + 1 = nI (k + 1) := nI_add k 1
      have g1 := am_m144 (X := X) (D := D + 1) (q := q) h hu hi
      have g2 := am_m145 (X := X) (D := D) hB (i := i) (w := (am_L0 q, G))
      have hat : G 114 8 = nI i := h.2.1
      unfold am_num
      cases hd : am_dig (am_byt B n i) with
      | true =>
        rw [hd] at g2
        have hc := am_dig_lt hd
        have hnx : am_nx B n i = nI (am_byt B n i) := (am_nx_eq hB (by omega)).mpr rfl
        have s1 : nI (10 * v) + nI (am_byt B n i) - 48 = nI (10 * v + (am_byt B n i - 48)) := by
          rw [nI_add, show (48 : Int32) = nI 48 from rfl, am_sub (by omega)]
          exact congrArg nI (by omega)
        have s2 : nI i + 1 = nI (i + 1) := nI_add i 1
        have hp : 10 * v + (am_byt B n i - 48) < 10 ^ (k + 1) := by rw [Nat.pow_succ]; omega
        obtain ⟨G', f, c, g⟩ := ih (k + 1) (i + 1) (10 * v + (am_byt B n i - 48)) _ (by omega) (by omega) hp (am_ps_at h (i + 1))
        have e : ∀ x : Int32, am_putM (am_L0 q, G) 114 11 8 (.int x) = some (am_L0 q, am_up G 114 8 x) := fun _ => rfl
        refine ⟨G', (am_frp_up G _ (by omega)).tr f, c, ?_⟩
        rw [hnx] at g1 g2
        simp only [am_s147_4, am_s147_5, am_s147_6, am_s147_9, am_s147_10, am_s147_11, am_s147_14, am_s147_17, am_s147_20, am_s147_23, am_s147_25, am_s147_26, am_s147_27, am_s147_28, am_s147_29, am_s147_32, am_s147_35, am_s147_36, am_s147_38, am_s147_39, am_s147_40, am_s147_41, am_s147_41a, am_s147_42, am_s147_45, am_s147_46, am_s147_47, am_s147_50, h1, am_cal_ok am_cat_0 am_v114 (g1), am_cal_ok am_cat_0 am_rcv_f (g2), am_bI0, reduceCtorEq, not_true_eq_false, am_mul10, am_cal_ok (am_cat_1 _) am_v114 (g1), s1, am_f114_8, e, hat, s2, eq_self, am_os_some, Option.toList_some, Option.toList_none, List.cons_append, List.nil_append, if_true, if_false, true_and, am_nw1_i, am_nw1_r, am_nw1_n, cond_true]
        rw [am_s147_53, hi1]
        exact g
      | false =>
        rw [hd] at g2
        refine ⟨G, am_frp.rf G, h, ?_⟩
        simp only [am_s147_4, am_s147_5, am_s147_6, am_s147_9, am_s147_10, am_s147_11, am_s147_14, am_s147_17, am_s147_20, am_s147_56, am_s147_57, h1, am_cal_ok am_cat_0 am_v114 (g1), am_cal_ok am_cat_0 am_rcv_f (g2), am_bI0, am_f114_8, hat, eq_self, am_os_some, Option.toList_some, Option.toList_none, List.cons_append, List.nil_append, if_true, if_false, true_and, am_nw1_i, am_nw1_r, am_nw1_n, cond_true]
        rfl
  obtain ⟨G', f, c, g⟩ := hl 4 0 i 0 G rfl hi (by decide) h
  refine ⟨G', f, c, am_CD_of (M := am_N147) rfl rfl ?_⟩
  show am_Rn _ _ ((Option.some FieldType.int)) am_J147 0 [some (.ref 114), none, none] [] (am_L0 q, G) _
  simp only [am_s147_0, am_s147_1, am_s147_2, am_s147_3, eq_self, am_os_some, Option.toList_some, Option.toList_none, List.cons_append, List.nil_append, if_true, if_false, true_and, am_nw1_i, am_nw1_r, am_nw1_n, cond_true]
  exact g
theorem am_nxe (hB : ∀ j, j < n → B j < 256) {x : Nat} (hx : x < 256) : (am_nx B n i = nI x) = (am_byt B n i = x) := propext (am_nx_eq hB hx)
theorem am_m148 (h : am_ps u B n a b c G i op) (hu : u < 2) : (∀ k, am_nam u (am_byt B n i) = some k → am_CD X (D + 2) 148 [.ref 114, .int (am_nx B n i)] (am_L0 q, G) = some (some (.int (if k = 0 then a else if k = 1 then b else c)), (am_L0 q, am_up G 114 8 (nI (i + 1))))) ∧ (am_nam u (am_byt B n i) = none → am_CD X (D + 2) 148 [.ref 114, .int (am_nx B n i)] (am_L0 q, G) = some (some (.int 0), (am_L0 q, am_up G 114 14 0))) := by
  have hB : ∀ j, j < n → B j < 256 := fun j hj => (h.2.2.2.2.2.2.2.2.1 j hj).2
  obtain ⟨a1, a2, a3, a4, a5, a6, a7, a8, a9, a10⟩ := h
  have x116 : (am_nx B n i = 116) = (am_byt B n i = 116) := am_nxe hB (x := 116) (by decide)
  have x100 : (am_nx B n i = 100) = (am_byt B n i = 100) := am_nxe hB (x := 100) (by decide)
  have x119 : (am_nx B n i = 119) = (am_byt B n i = 119) := am_nxe hB (x := 119) (by decide)
  have x111 : (am_nx B n i = 111) = (am_byt B n i = 111) := am_nxe hB (x := 111) (by decide)
  have x109 : (am_nx B n i = 109) = (am_byt B n i = 109) := am_nxe hB (x := 109) (by decide)
  have e : ∀ x : Int32, am_putM (am_L0 q, G) 114 11 8 (.int x) = some (am_L0 q, am_up G 114 8 x) := fun _ => rfl
  have s2 : nI i + 1 = nI (i + 1) := nI_add i 1
  have c10 : ((1 : Int32) = 0) = False := by decide
  have n0 : (nI 0 = 0) = True := by decide
  have n1 : (nI 1 = 0) = False := by decide
  have k10 : ((1 : Nat) = 0) = False := by decide
  have k20 : ((2 : Nat) = 0) = False := by decide
  have k21 : ((2 : Nat) = 1) = False := by decide
  generalize am_byt B n i = y at x116 x100 x119 x111 x109
  have run : ∀ o, am_Rn _ _ ((Option.some FieldType.int)) am_J148 0 [some (.ref 114), some (.int (am_nx B n i)), none, none, none] [] (am_L0 q, G) o → am_Rn X (D + 1) (some .int) am_J148 0 [some (.ref 114), some (.int (am_nx B n i)), none, none, none] [] (am_L0 q, G) o := fun o ho => ho
  match u, hu, a1 with
  | 0, _, a1 =>
    refine ⟨fun k hk => am_CD_of (M := am_N148) rfl rfl ?_, fun hk => am_CD_of (M := am_N148) rfl rfl ?_⟩
    all_goals
      show am_Rn X (D + 1) (some .int) am_J148 0 [some (.ref 114), some (.int (am_nx B n i)), none, none, none] [] (am_L0 q, G) _
      unfold am_nam at hk
      rw [if_pos rfl] at hk
      by_cases c1 : y = 116
      · rw [if_pos c1] at hk
        cases hk
        try simp only [am_s148_0, am_s148_1, am_s148_2, am_s148_5, am_s148_8, am_s148_10, am_s148_13, am_s148_15, am_s148_18, am_s148_19, am_s148_22, am_s148_23, am_s148_24, am_s148_25, am_s148_26, am_s148_29, am_s148_32, am_s148_34, am_s148_37, am_s148_39, am_s148_42, am_s148_43, am_s148_46, am_s148_47, am_s148_48, am_s148_49, am_s148_50, am_s148_53, am_s148_56, am_s148_58, am_s148_61, am_s148_63, am_s148_66, am_s148_67, am_s148_70, am_s148_71, am_s148_73, am_s148_74, am_s148_77, am_s148_78, am_s148_81, am_s148_83, am_s148_86, am_s148_87, am_s148_90, am_s148_91, am_s148_92, am_s148_92a, am_s148_93, am_s148_96, am_s148_97, am_s148_98, am_s148_101, am_s148_102, am_s148_105, am_s148_106, am_s148_109, am_s148_112, am_s148_113, am_s148_116, am_s148_117, am_s148_120, am_s148_123, am_s148_124, am_s148_127, am_f114_7, am_f114_8, am_f114_11, a1, a2, a5, x116, x100, x119, c1, n0, e, s2, c10, not_true_eq_false, not_false_eq_true, show ((116 : Nat) = 100) = False by decide, show ((116 : Nat) = 119) = False by decide, am_up_get, Nat.reduceEqDiff, eq_self, am_os_some, Option.toList_some, Option.toList_none, List.cons_append, List.nil_append, if_true, if_false, true_and, am_nw1_i, am_nw1_r, am_nw1_n, cond_true]
      · rw [if_neg c1] at hk
        by_cases c2 : y = 100
        · rw [if_pos c2] at hk
          cases hk
          try simp only [am_s148_0, am_s148_1, am_s148_2, am_s148_5, am_s148_8, am_s148_10, am_s148_13, am_s148_15, am_s148_18, am_s148_19, am_s148_22, am_s148_23, am_s148_24, am_s148_25, am_s148_26, am_s148_29, am_s148_32, am_s148_34, am_s148_37, am_s148_39, am_s148_42, am_s148_43, am_s148_46, am_s148_47, am_s148_48, am_s148_49, am_s148_50, am_s148_53, am_s148_56, am_s148_58, am_s148_61, am_s148_63, am_s148_66, am_s148_67, am_s148_70, am_s148_71, am_s148_73, am_s148_74, am_s148_77, am_s148_78, am_s148_81, am_s148_83, am_s148_86, am_s148_87, am_s148_90, am_s148_91, am_s148_92, am_s148_92a, am_s148_93, am_s148_96, am_s148_97, am_s148_98, am_s148_101, am_s148_102, am_s148_105, am_s148_106, am_s148_109, am_s148_112, am_s148_113, am_s148_116, am_s148_117, am_s148_120, am_s148_123, am_s148_124, am_s148_127, am_f114_7, am_f114_8, am_f114_12, a1, a2, a6, x116, x100, x119, c1, c2, n0, e, s2, c10, k10, not_true_eq_false, not_false_eq_true, show ((100 : Nat) = 116) = False by decide, show ((100 : Nat) = 119) = False by decide, am_up_get, Nat.reduceEqDiff, eq_self, am_os_some, Option.toList_some, Option.toList_none, List.cons_append, List.nil_append, if_true, if_false, true_and, am_nw1_i, am_nw1_r, am_nw1_n, cond_true]
        · rw [if_neg c2] at hk
          by_cases c3 : y = 119
          · rw [if_pos c3] at hk
            cases hk
            try simp only [am_s148_0, am_s148_1, am_s148_2, am_s148_5, am_s148_8, am_s148_10, am_s148_13, am_s148_15, am_s148_18, am_s148_19, am_s148_22, am_s148_23, am_s148_24, am_s148_25, am_s148_26, am_s148_29, am_s148_32, am_s148_34, am_s148_37, am_s148_39, am_s148_42, am_s148_43, am_s148_46, am_s148_47, am_s148_48, am_s148_49, am_s148_50, am_s148_53, am_s148_56, am_s148_58, am_s148_61, am_s148_63, am_s148_66, am_s148_67, am_s148_70, am_s148_71, am_s148_73, am_s148_74, am_s148_77, am_s148_78, am_s148_81, am_s148_83, am_s148_86, am_s148_87, am_s148_90, am_s148_91, am_s148_92, am_s148_92a, am_s148_93, am_s148_96, am_s148_97, am_s148_98, am_s148_101, am_s148_102, am_s148_105, am_s148_106, am_s148_109, am_s148_112, am_s148_113, am_s148_116, am_s148_117, am_s148_120, am_s148_123, am_s148_124, am_s148_127, am_f114_7, am_f114_8, am_f114_13, a1, a2, a7, x116, x100, x119, c3, n0, e, s2, c10, k20, k21, not_true_eq_false, not_false_eq_true, show ((119 : Nat) = 116) = False by decide, show ((119 : Nat) = 100) = False by decide, am_up_get, Nat.reduceEqDiff, eq_self, am_os_some, Option.toList_some, Option.toList_none, List.cons_append, List.nil_append, if_true, if_false, true_and, am_nw1_i, am_nw1_r, am_nw1_n, cond_true]
          · rw [if_neg c3] at hk
            cases hk
            try simp only [am_s148_0, am_s148_1, am_s148_2, am_s148_5, am_s148_8, am_s148_10, am_s148_13, am_s148_15, am_s148_18, am_s148_19, am_s148_22, am_s148_23, am_s148_24, am_s148_25, am_s148_26, am_s148_29, am_s148_32, am_s148_34, am_s148_37, am_s148_39, am_s148_42, am_s148_43, am_s148_46, am_s148_47, am_s148_48, am_s148_49, am_s148_50, am_s148_53, am_s148_56, am_s148_58, am_s148_61, am_s148_63, am_s148_66, am_s148_67, am_s148_70, am_s148_71, am_s148_73, am_s148_74, am_s148_77, am_s148_78, am_s148_81, am_s148_83, am_s148_86, am_s148_87, am_s148_90, am_s148_91, am_s148_92, am_s148_92a, am_s148_93, am_s148_96, am_s148_97, am_s148_98, am_s148_101, am_s148_102, am_s148_105, am_s148_106, am_s148_109, am_s148_112, am_s148_113, am_s148_116, am_s148_117, am_s148_120, am_s148_123, am_s148_124, am_s148_127, am_f114_7, a1, x116, x100, x119, c1, c2, c3, n0, c10, am_cal_ok am_cat_0 am_v114 (am_m146 (D := D)), not_true_eq_false, not_false_eq_true, eq_self, am_os_some, Option.toList_some, Option.toList_none, List.cons_append, List.nil_append, if_true, if_false, true_and, am_nw1_i, am_nw1_r, am_nw1_n, cond_true]
  | 1, _, a1 =>
    refine ⟨fun k hk => am_CD_of (M := am_N148) rfl rfl ?_, fun hk => am_CD_of (M := am_N148) rfl rfl ?_⟩
    all_goals
      show am_Rn X (D + 1) (some .int) am_J148 0 [some (.ref 114), some (.int (am_nx B n i)), none, none, none] [] (am_L0 q, G) _
      unfold am_nam at hk
      rw [if_neg (by decide)] at hk
      by_cases c1 : y = 119
      · rw [if_pos c1] at hk
        cases hk
        try simp only [am_s148_0, am_s148_1, am_s148_2, am_s148_5, am_s148_8, am_s148_10, am_s148_13, am_s148_15, am_s148_18, am_s148_19, am_s148_22, am_s148_23, am_s148_24, am_s148_25, am_s148_26, am_s148_29, am_s148_32, am_s148_34, am_s148_37, am_s148_39, am_s148_42, am_s148_43, am_s148_46, am_s148_47, am_s148_48, am_s148_49, am_s148_50, am_s148_53, am_s148_56, am_s148_58, am_s148_61, am_s148_63, am_s148_66, am_s148_67, am_s148_70, am_s148_71, am_s148_73, am_s148_74, am_s148_77, am_s148_78, am_s148_81, am_s148_83, am_s148_86, am_s148_87, am_s148_90, am_s148_91, am_s148_92, am_s148_92a, am_s148_93, am_s148_96, am_s148_97, am_s148_98, am_s148_101, am_s148_102, am_s148_105, am_s148_106, am_s148_109, am_s148_112, am_s148_113, am_s148_116, am_s148_117, am_s148_120, am_s148_123, am_s148_124, am_s148_127, am_f114_7, am_f114_8, am_f114_11, a1, a2, a5, x119, x111, x109, c1, n1, e, s2, c10, not_true_eq_false, not_false_eq_true, show ((119 : Nat) = 111) = False by decide, show ((119 : Nat) = 109) = False by decide, am_up_get, Nat.reduceEqDiff, eq_self, am_os_some, Option.toList_some, Option.toList_none, List.cons_append, List.nil_append, if_true, if_false, true_and, am_nw1_i, am_nw1_r, am_nw1_n, cond_true]
      · rw [if_neg c1] at hk
        by_cases c2 : y = 111
        · rw [if_pos c2] at hk
          cases hk
          try simp only [am_s148_0, am_s148_1, am_s148_2, am_s148_5, am_s148_8, am_s148_10, am_s148_13, am_s148_15, am_s148_18, am_s148_19, am_s148_22, am_s148_23, am_s148_24, am_s148_25, am_s148_26, am_s148_29, am_s148_32, am_s148_34, am_s148_37, am_s148_39, am_s148_42, am_s148_43, am_s148_46, am_s148_47, am_s148_48, am_s148_49, am_s148_50, am_s148_53, am_s148_56, am_s148_58, am_s148_61, am_s148_63, am_s148_66, am_s148_67, am_s148_70, am_s148_71, am_s148_73, am_s148_74, am_s148_77, am_s148_78, am_s148_81, am_s148_83, am_s148_86, am_s148_87, am_s148_90, am_s148_91, am_s148_92, am_s148_92a, am_s148_93, am_s148_96, am_s148_97, am_s148_98, am_s148_101, am_s148_102, am_s148_105, am_s148_106, am_s148_109, am_s148_112, am_s148_113, am_s148_116, am_s148_117, am_s148_120, am_s148_123, am_s148_124, am_s148_127, am_f114_7, am_f114_8, am_f114_12, a1, a2, a6, x119, x111, x109, c2, n1, e, s2, c10, k10, not_true_eq_false, not_false_eq_true, show ((111 : Nat) = 119) = False by decide, show ((111 : Nat) = 109) = False by decide, am_up_get, Nat.reduceEqDiff, eq_self, am_os_some, Option.toList_some, Option.toList_none, List.cons_append, List.nil_append, if_true, if_false, true_and, am_nw1_i, am_nw1_r, am_nw1_n, cond_true]
        · rw [if_neg c2] at hk
          by_cases c3 : y = 109
          · rw [if_pos c3] at hk
            cases hk
            try simp only [am_s148_0, am_s148_1, am_s148_2, am_s148_5, am_s148_8, am_s148_10, am_s148_13, am_s148_15, am_s148_18, am_s148_19, am_s148_22, am_s148_23, am_s148_24, am_s148_25, am_s148_26, am_s148_29, am_s148_32, am_s148_34, am_s148_37, am_s148_39, am_s148_42, am_s148_43, am_s148_46, am_s148_47, am_s148_48, am_s148_49, am_s148_50, am_s148_53, am_s148_56, am_s148_58, am_s148_61, am_s148_63, am_s148_66, am_s148_67, am_s148_70, am_s148_71, am_s148_73, am_s148_74, am_s148_77, am_s148_78, am_s148_81, am_s148_83, am_s148_86, am_s148_87, am_s148_90, am_s148_91, am_s148_92, am_s148_92a, am_s148_93, am_s148_96, am_s148_97, am_s148_98, am_s148_101, am_s148_102, am_s148_105, am_s148_106, am_s148_109, am_s148_112, am_s148_113, am_s148_116, am_s148_117, am_s148_120, am_s148_123, am_s148_124, am_s148_127, am_f114_7, am_f114_8, am_f114_13, a1, a2, a7, x119, x111, x109, c3, n1, e, s2, c10, k20, k21, not_true_eq_false, not_false_eq_true, show ((109 : Nat) = 119) = False by decide, show ((109 : Nat) = 111) = False by decide, am_up_get, Nat.reduceEqDiff, eq_self, am_os_some, Option.toList_some, Option.toList_none, List.cons_append, List.nil_append, if_true, if_false, true_and, am_nw1_i, am_nw1_r, am_nw1_n, cond_true]
          · rw [if_neg c3] at hk
            cases hk
            try simp only [am_s148_0, am_s148_1, am_s148_2, am_s148_5, am_s148_8, am_s148_10, am_s148_13, am_s148_15, am_s148_18, am_s148_19, am_s148_22, am_s148_23, am_s148_24, am_s148_25, am_s148_26, am_s148_29, am_s148_32, am_s148_34, am_s148_37, am_s148_39, am_s148_42, am_s148_43, am_s148_46, am_s148_47, am_s148_48, am_s148_49, am_s148_50, am_s148_53, am_s148_56, am_s148_58, am_s148_61, am_s148_63, am_s148_66, am_s148_67, am_s148_70, am_s148_71, am_s148_73, am_s148_74, am_s148_77, am_s148_78, am_s148_81, am_s148_83, am_s148_86, am_s148_87, am_s148_90, am_s148_91, am_s148_92, am_s148_92a, am_s148_93, am_s148_96, am_s148_97, am_s148_98, am_s148_101, am_s148_102, am_s148_105, am_s148_106, am_s148_109, am_s148_112, am_s148_113, am_s148_116, am_s148_117, am_s148_120, am_s148_123, am_s148_124, am_s148_127, am_f114_7, a1, x119, x111, x109, c1, c2, c3, n1, c10, am_cal_ok am_cat_0 am_v114 (am_m146 (D := D)), not_true_eq_false, not_false_eq_true, eq_self, am_os_some, Option.toList_some, Option.toList_none, List.cons_append, List.nil_append, if_true, if_false, true_and, am_nw1_i, am_nw1_r, am_nw1_n, cond_true]
end AMPW
