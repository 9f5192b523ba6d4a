/-! THE REFERENCE: is given, lends -/
def am_rc (G : am_G) (S : am_S) (T U : am_T) (wh : Int32) : Prop := am_rp (G 115) S ∧ am_rx (G 115) 0 T ∧ am_rx (G 115) 1 U ∧ G 114 15 = wh
theorem am_frw.tr {G G1 G2 : am_G} (h1 : am_frw G G1) (h2 : am_frw G1 G2) : am_frw G G2 := fun i j h => (h2 i j h).trans (h1 i j h)
theorem am_frw.rf (G : am_G) : am_frw G G := fun _ _ _ => rfl
theorem am_frw.row {G G' : am_G} (h : am_frw G G') : G' 115 = G 115 := funext fun j => h 115 j (by omega)
theorem am_rc.fr {G G' : am_G} {S : am_S} {T U : am_T} {wh : Int32} (h : am_rc G S T U wh) (hf : am_frw G G') : am_rc G' S T U wh := by
  obtain ⟨h1, h2, h3, h4⟩ := h
  unfold am_rc
  rw [hf.row, hf 114 15 (by omega)]
  exact ⟨h1, h2, h3, h4⟩
theorem am_lgv01 (u : Nat) (T : am_T) (a b c : Int32) : am_lgv u T a b c = am_bI (decide (am_lgv u T a b c = 1)) := by
  unfold am_lgv
  rcases am_cl0_or (am_lr u T a b c) with h | h <;> rw [h] <;> decide
section AMR7
variable {X : am_X} {D q : Nat} {G : am_G} {S : am_S} {T U : am_T} {wh : Int32}
theorem am_m162 (h : am_rc G S T U wh) {p t d : Nat} (hp : p < 8) (hd : d < 2 ^ 31) : ∃ G' : am_G, am_frw G G' ∧ am_CD X (D + 47) 162 [.ref 114, .int (nI p), .int (nI t), .int (nI d)] (am_L0 q, G) = some (some (.int (am_bI (am_gt T t (d % 7) (S 3 p)))), (am_L0 q, G')) := by
  have k3 : G 115 (7 + 5 * p + 3) = nI (S 3 p) := h.1.2.2.1 p 3 hp (by decide)
  have h7 : nI d - nI d / 7 * 7 = nI (d % 7) := pk_rem (d := 7) hd (by decide) (by decide)
  have e7 : ((7 : Int32) = 0) = False := by decide
  have e10 : ((1 : Int32) = 0) = False := by decide
  obtain ⟨G', f, g⟩ := am_m156 (X := X) (q := q) (u := 0) (a := nI t) (b := nI (d % 7)) (c := nI (S 3 p)) (by decide) h.2.1 (D := D)
  have g' : am_CD X (D + 46) 156 [.ref 114, .int 0, .int (nI t), .int (nI (d % 7)), .int (nI (S 3 p))] (am_L0 q, G) = some (some (.int (am_bI (am_gt T t (d % 7) (S 3 p)))), (am_L0 q, G')) := by
    rw [show am_bI (am_gt T t (d % 7) (S 3 p)) = am_lgv 0 T (nI t) (nI (d % 7)) (nI (S 3 p)) from (am_lgv01 _ _ _ _ _).symm]
    exact g
  refine ⟨G', f, am_CD_of (M := am_N162) rfl rfl ?_⟩
  show am_Rn _ _ ((Option.some FieldType.boolean)) am_J162 0 [some (.ref 114), some (.int (nI p)), some (.int (nI t)), some (.int (nI d))] [] (am_L0 q, G) _
  cases hg : am_gt T t (d % 7) (S 3 p)
  all_goals
    rw [hg] at g'
    simp only [am_s162_0, am_s162_1, am_s162_2, am_s162_3, am_s162_4, am_s162_6, am_s162_7, am_s162_8, am_s162_9, am_s162_10, am_s162_13, am_s162_16, am_s162_19, am_s162_20, am_s162_23, am_s162_24, e7, h7, am_cal_ok (am_cat_4 _ _ _ _) am_v114 (am_i130_3 (D := D + 45) hp), k3, am_cal_ok am_cat_0 am_v114 (g'), am_bI0, e10, true_or, or_true, reduceCtorEq, not_false_eq_true, not_true_eq_false, eq_self, am_os_some, Option.toList_some, Option.toList_none, List.cons_append, List.nil_append, if_true, if_false, true_and, am_nw1_i, am_nw1_r, am_nw1_n, cond_true]
    rfl
theorem am_m163 (h : am_rc G S T U wh) (hd : S 13 1 < 2 ^ 31) {p : Nat} (hp : p < 8) : ∃ G' : am_G, am_frw G G' ∧ am_CD X (D + 48) 163 [.ref 114, .int (nI p)] (am_L0 q, G) = some (some (.int (am_bI (am_gv T S p))), (am_L0 q, G')) := by
  have k2 : G 115 (7 + 5 * p + 2) = nI (S 2 p) := h.1.2.2.1 p 2 hp (by decide)
  have k0 : G 115 0 = nI (S 13 1) := h.1.1
  obtain ⟨G', f, g⟩ := am_m162 (X := X) (D := D) (q := q) (t := S 2 p) h hp hd
  refine ⟨G', f, am_CD_of (M := am_N163) rfl rfl ?_⟩
  show am_Rn _ _ ((Option.some FieldType.boolean)) am_J163 0 [some (.ref 114), some (.int (nI p))] [] (am_L0 q, G) _
  unfold am_gv
  simp only [am_s163_0, am_s163_1, am_s163_2, am_s163_3, am_s163_4, am_s163_5, am_s163_8, am_s163_9, am_s163_12, am_s163_13, am_s163_14, am_s163_17, am_cal_ok (am_cat_2 _ _) am_v114 (am_i130_2 (D := D + 46) hp), am_f114_0, am_r115_0, k0, k2, am_cal_ok am_cat_0 am_v114 (g), am_bI01, eq_self, am_os_some, Option.toList_some, Option.toList_none, List.cons_append, List.nil_append, if_true, if_false, true_and, am_nw1_i, am_nw1_r, am_nw1_n, cond_true]
/-- lends: o to p -/
def am_ldq (U : am_T) (h : Nat) (S : am_S) (p o : Nat) : Bool := decide (o ≠ p) && (decide (o ≠ h) && (decide (0 < S 3 o) && am_ln0 U S p o))
theorem am_m164 (h : am_rc G S T U wh) (hw : am_wf S) {hd p o : Nat} (hh : ∀ k, k < 8 → (nI k = wh ↔ k = hd)) (hp : p < 8) (ho : o < 8) : ∃ G' : am_G, am_frw G G' ∧ am_CD X (D + 47) 164 [.ref 114, .int (nI o), .int (nI p)] (am_L0 q, G) = some (some (.int (am_bI (am_ldq U hd S p o))), (am_L0 q, G')) := by
  have k3 : G 115 (7 + 5 * o + 3) = nI (S 3 o) := h.1.2.2.1 o 3 ho (by decide)
  have k1 : G 115 (7 + 5 * o + 1) = nI (S 1 o) := h.1.2.2.1 o 1 ho (by decide)
  have kd := h.1.2.2.2 p o hp ho
  have k15 := h.2.2.2
  have w3 := (hw.2.1 o ho).2.2.2.1
  have e10 : ((1 : Int32) = 0) = False := by decide
  have eop : (nI o = nI p) = (o = p) := propext (nI_eq (by omega) (by omega))
  have eoh : (nI o = wh) = (o = hd) := propext (hh o ho)
  by_cases c1 : o = p
  · refine ⟨G, am_frw.rf G, am_CD_of (M := am_N164) rfl rfl ?_⟩
    have e : am_ldq U hd S p o = false := by unfold am_ldq; simp [c1]
    rw [e]
    show am_Rn _ _ ((Option.some FieldType.boolean)) am_J164 0 [some (.ref 114), some (.int (nI o)), some (.int (nI p))] [] (am_L0 q, G) _
    simp only [am_s164_0, am_s164_1, am_s164_2, am_s164_5, am_s164_6, am_s164_7, am_s164_10, am_s164_13, am_s164_14, am_s164_15, am_s164_16, am_s164_19, am_s164_22, am_s164_23, am_s164_24, am_s164_25, am_s164_26, am_s164_27, am_s164_30, am_s164_31, am_s164_32, am_s164_33, am_s164_36, am_s164_37, am_s164_38, am_s164_39, am_s164_42, am_s164_45, am_s164_48, am_s164_49, am_s164_52, am_s164_53, eop, c1, not_true_eq_false, true_or, eq_self, am_os_some, Option.toList_some, Option.toList_none, List.cons_append, List.nil_append, if_true, if_false, true_and, am_nw1_i, am_nw1_r, am_nw1_n, cond_true]
    rfl
  · by_cases c2 : o = hd
    · refine ⟨G, am_frw.rf G, am_CD_of (M := am_N164) rfl rfl ?_⟩
      have e : am_ldq U hd S p o = false := by unfold am_ldq; simp [c2]
      rw [e]
      show am_Rn _ _ ((Option.some FieldType.boolean)) am_J164 0 [some (.ref 114), some (.int (nI o)), some (.int (nI p))] [] (am_L0 q, G) _
      rw [c2] at eop c1 eoh
      rw [c2]
      simp only [am_s164_0, am_s164_1, am_s164_2, am_s164_5, am_s164_6, am_s164_7, am_s164_10, am_s164_13, am_s164_14, am_s164_15, am_s164_16, am_s164_19, am_s164_22, am_s164_23, am_s164_24, am_s164_25, am_s164_26, am_s164_27, am_s164_30, am_s164_31, am_s164_32, am_s164_33, am_s164_36, am_s164_37, am_s164_38, am_s164_39, am_s164_42, am_s164_45, am_s164_48, am_s164_49, am_s164_52, am_s164_53, eop, c1, am_f114_15, k15, eoh, not_true_eq_false, not_false_eq_true, true_or, eq_self, am_os_some, Option.toList_some, Option.toList_none, List.cons_append, List.nil_append, if_true, if_false, true_and, am_nw1_i, am_nw1_r, am_nw1_n, cond_true]
      rfl
    · by_cases c3 : 0 < S 3 o
      · obtain ⟨G', f, g⟩ := am_m156 (X := X) (q := q) (u := 1) (a := nI (S 3 o)) (b := nI (S (5 + p) o)) (c := nI (S 1 o)) (by decide) h.2.2.1 (D := D)
        have g' : am_CD X (D + 46) 156 [.ref 114, .int 1, .int (nI (S 3 o)), .int (nI (S (5 + p) o)), .int (nI (S 1 o))] (am_L0 q, G) = some (some (.int (am_bI (am_ln0 U S p o))), (am_L0 q, G')) := by
          rw [show am_bI (am_ln0 U S p o) = am_lgv 1 U (nI (S 3 o)) (nI (S (5 + p) o)) (nI (S 1 o)) from (am_lgv01 _ _ _ _ _).symm]
          exact g
        have p3 : ¬ nI (S 3 o) ≤ 0 := nI_nle c3 (by omega)
        refine ⟨G', f, am_CD_of (M := am_N164) rfl rfl ?_⟩
        have e : am_ldq U hd S p o = am_ln0 U S p o := by unfold am_ldq; simp [c1, c2, c3]
        rw [e]
        show am_Rn _ _ ((Option.some FieldType.boolean)) am_J164 0 [some (.ref 114), some (.int (nI o)), some (.int (nI p))] [] (am_L0 q, G) _
        cases hg : am_ln0 U S p o
        all_goals
          rw [hg] at g'
          simp only [am_s164_0, am_s164_1, am_s164_2, am_s164_5, am_s164_6, am_s164_7, am_s164_10, am_s164_13, am_s164_14, am_s164_15, am_s164_16, am_s164_19, am_s164_22, am_s164_23, am_s164_24, am_s164_25, am_s164_26, am_s164_27, am_s164_30, am_s164_31, am_s164_32, am_s164_33, am_s164_36, am_s164_37, am_s164_38, am_s164_39, am_s164_42, am_s164_45, am_s164_48, am_s164_49, am_s164_52, am_s164_53, eop, c1, am_f114_15, k15, eoh, c2, am_cal_ok am_cat_0 am_v114 (am_i130_3 (D := D + 45) ho), am_cal_ok (am_cat_2 _ _) am_v114 (am_i130_3 (D := D + 45) ho), am_cal_ok (am_cat_3 _ _ _) am_v114 (am_m133 (D := D + 45) hp ho), am_cal_ok (am_cat_4 _ _ _ _) am_v114 (am_i130_1 (D := D + 45) ho), k3, k1, kd, p3, am_cal_ok am_cat_0 am_v114 (g'), am_bI0, e10, true_or, or_true, reduceCtorEq, not_false_eq_true, not_true_eq_false, eq_self, am_os_some, Option.toList_some, Option.toList_none, List.cons_append, List.nil_append, if_true, if_false, true_and, am_nw1_i, am_nw1_r, am_nw1_n, cond_true]
          rfl
      · have p3 : nI (S 3 o) ≤ 0 := by rw [show S 3 o = 0 by omega]; decide
        refine ⟨G, am_frw.rf G, am_CD_of (M := am_N164) rfl rfl ?_⟩
        have e : am_ldq U hd S p o = false := by unfold am_ldq; simp [c3]
        rw [e]
        show am_Rn _ _ ((Option.some FieldType.boolean)) am_J164 0 [some (.ref 114), some (.int (nI o)), some (.int (nI p))] [] (am_L0 q, G) _
        simp only [am_s164_0, am_s164_1, am_s164_2, am_s164_5, am_s164_6, am_s164_7, am_s164_10, am_s164_13, am_s164_14, am_s164_15, am_s164_16, am_s164_19, am_s164_22, am_s164_23, am_s164_24, am_s164_25, am_s164_26, am_s164_27, am_s164_30, am_s164_31, am_s164_32, am_s164_33, am_s164_36, am_s164_37, am_s164_38, am_s164_39, am_s164_42, am_s164_45, am_s164_48, am_s164_49, am_s164_52, am_s164_53, eop, c1, am_f114_15, k15, eoh, c2, am_cal_ok am_cat_0 am_v114 (am_i130_3 (D := D + 45) ho), k3, p3, not_true_eq_false, not_false_eq_true, true_or, eq_self, am_os_some, Option.toList_some, Option.toList_none, List.cons_append, List.nil_append, if_true, if_false, true_and, am_nw1_i, am_nw1_r, am_nw1_n, cond_true]
        rfl
end AMR7
