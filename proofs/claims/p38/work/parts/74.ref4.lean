/-! THE REFERENCE: the levels of a TEXT, one by one -/
def am_lvM (md : Nat) : Nat := match md with
  | 0 => 154
  | 1 => 153
  | 2 => 152
  | 3 => 151
  | 4 => 150
  | _ => 149
/-- the run of a level's second part, v in hand -/
def am_RL (X : am_X) (D q lv : Nat) (v : Int32) (G : am_G) (o : Option Value × am_M) : Prop := match lv with
  | 0 => ∀ y2 : Option Value, am_Rn X D (some .int) am_J154 5 [some (.ref 114), some (.int v), y2] [] (am_L0 q, G) o
  | 1 => ∀ y2 : Option Value, am_Rn X D (some .int) am_J153 5 [some (.ref 114), some (.int v), y2] [] (am_L0 q, G) o
  | 2 => ∀ y2 y3 y4 : Option Value, am_Rn X D (some .int) am_J152 5 [some (.ref 114), some (.int v), y2, y3, y4] [] (am_L0 q, G) o
  | 3 => ∀ y2 y3 : Option Value, am_Rn X D (some .int) am_J151 5 [some (.ref 114), some (.int v), y2, y3] [] (am_L0 q, G) o
  | _ => ∀ y2 y3 : Option Value, am_Rn X D (some .int) am_J150 5 [some (.ref 114), some (.int v), y2, y3] [] (am_L0 q, G) o
theorem am_lvq0 (c : Nat) : am_lvl c = 0 ↔ c = 124 := by
  unfold am_lvl
  repeat' split
  all_goals omega
theorem am_lvq1 (c : Nat) : am_lvl c = 1 ↔ c = 38 := by
  unfold am_lvl
  repeat' split
  all_goals omega
theorem am_lvq2 (c : Nat) : am_lvl c = 2 ↔ c = 60 ∨ c = 61 ∨ c = 62 := by
  unfold am_lvl
  repeat' split
  all_goals omega
theorem am_lvq3 (c : Nat) : am_lvl c = 3 ↔ c = 43 ∨ c = 45 := by
  unfold am_lvl
  repeat' split
  all_goals omega
theorem am_lvq4 (c : Nat) : am_lvl c = 4 ↔ c = 42 ∨ c = 47 ∨ c = 37 := by
  unfold am_lvl
  repeat' split
  all_goals omega
section AMLV
variable {X : am_X} {D q : Nat} {u n : Nat} {B : Nat → Nat} {a b c : Int32} {G G1 : am_G} {i op : Nat} {v w r : Int32}
theorem am_LA {lv : Nat} (hl : lv < 5) {o : Option Value × am_M} (h1 : am_CD X D (am_lvM (lv + 1)) [.ref 114] (am_L0 q, G) = some (some (.int v), (am_L0 q, G1))) (h2 : am_RL X D q lv v G1 o) : am_CD X (D + 1) (am_lvM lv) [.ref 114] (am_L0 q, G) = some o := by
  match lv, hl, h1, h2 with
  | 0, _, h1, h2 =>
    have g : am_CD X D 153 [.ref 114] (am_L0 q, G) = some (some (.int v), (am_L0 q, G1)) := h1
    refine am_CD_of (M := am_N154) rfl rfl ?_
    show am_Rn _ _ ((Option.some FieldType.int)) am_J154 0 [some (.ref 114), none, none] [] (am_L0 q, G) _
    simp only [am_s154_0, am_s154_1, am_s154_4, am_cal_ok am_cat_0 am_v114 (g), eq_self, am_os_some, Option.toList_some, Option.toList_none, List.cons_append, List.nil_append, if_true, if_false, true_and, am_nw1_i, am_nw1_r, am_nw1_n, cond_true]
    exact h2 none
  | 1, _, h1, h2 =>
    have g : am_CD X D 152 [.ref 114] (am_L0 q, G) = some (some (.int v), (am_L0 q, G1)) := h1
    refine am_CD_of (M := am_N153) rfl rfl ?_
    show am_Rn _ _ ((Option.some FieldType.int)) am_J153 0 [some (.ref 114), none, none] [] (am_L0 q, G) _
    simp only [am_s153_0, am_s153_1, am_s153_4, am_cal_ok am_cat_0 am_v114 (g), eq_self, am_os_some, Option.toList_some, Option.toList_none, List.cons_append, List.nil_append, if_true, if_false, true_and, am_nw1_i, am_nw1_r, am_nw1_n, cond_true]
    exact h2 none
  | 2, _, h1, h2 =>
    have g : am_CD X D 151 [.ref 114] (am_L0 q, G) = some (some (.int v), (am_L0 q, G1)) := h1
    refine am_CD_of (M := am_N152) rfl rfl ?_
    show am_Rn _ _ ((Option.some FieldType.int)) am_J152 0 [some (.ref 114), none, none, none, none] [] (am_L0 q, G) _
    simp only [am_s152_0, am_s152_1, am_s152_4, am_cal_ok am_cat_0 am_v114 (g), eq_self, am_os_some, Option.toList_some, Option.toList_none, List.cons_append, List.nil_append, if_true, if_false, true_and, am_nw1_i, am_nw1_r, am_nw1_n, cond_true]
    exact h2 none none none
  | 3, _, h1, h2 =>
    have g : am_CD X D 150 [.ref 114] (am_L0 q, G) = some (some (.int v), (am_L0 q, G1)) := h1
    refine am_CD_of (M := am_N151) rfl rfl ?_
    show am_Rn _ _ ((Option.some FieldType.int)) am_J151 0 [some (.ref 114), none, none, none] [] (am_L0 q, G) _
    simp only [am_s151_0, am_s151_1, am_s151_4, am_cal_ok am_cat_0 am_v114 (g), eq_self, am_os_some, Option.toList_some, Option.toList_none, List.cons_append, List.nil_append, if_true, if_false, true_and, am_nw1_i, am_nw1_r, am_nw1_n, cond_true]
    exact h2 none none
  | 4, _, h1, h2 =>
    have g : am_CD X D 149 [.ref 114] (am_L0 q, G) = some (some (.int v), (am_L0 q, G1)) := h1
    refine am_CD_of (M := am_N150) rfl rfl ?_
    show am_Rn _ _ ((Option.some FieldType.int)) am_J150 0 [some (.ref 114), none, none, none] [] (am_L0 q, G) _
    simp only [am_s150_0, am_s150_1, am_s150_4, am_cal_ok am_cat_0 am_v114 (g), eq_self, am_os_some, Option.toList_some, Option.toList_none, List.cons_append, List.nil_append, if_true, if_false, true_and, am_nw1_i, am_nw1_r, am_nw1_n, cond_true]
    exact h2 none none
theorem am_LB1 {lv : Nat} (hl : lv < 5) (h : G 114 14 = 0) : am_RL X D q lv v G (some (.int v), (am_L0 q, G)) := by
  have h60 : ((-1 : Int32) = 60) = False := by decide
  have h61 : ((-1 : Int32) = 61) = False := by decide
  have h62 : ((-1 : Int32) = 62) = False := by decide
  match lv, hl with
  | 0, _ =>
    intro y2
    simp only [am_s154_5, am_s154_6, am_s154_9, am_s154_57, am_s154_58, am_f114_14, h, not_true_eq_false, not_false_eq_true, eq_self, am_os_some, Option.toList_some, Option.toList_none, List.cons_append, List.nil_append, if_true, if_false, true_and, am_nw1_i, am_nw1_r, am_nw1_n, cond_true]
  | 1, _ =>
    intro y2
    simp only [am_s153_5, am_s153_6, am_s153_9, am_s153_57, am_s153_58, am_f114_14, h, not_true_eq_false, not_false_eq_true, eq_self, am_os_some, Option.toList_some, Option.toList_none, List.cons_append, List.nil_append, if_true, if_false, true_and, am_nw1_i, am_nw1_r, am_nw1_n, cond_true]
  | 2, _ =>
    intro y2 y3 y4
    simp only [am_s152_5, am_s152_6, am_s152_9, am_s152_12, am_s152_13, am_s152_14, am_s152_17, am_s152_20, am_s152_23, am_s152_24, am_s152_25, am_s152_26, am_s152_28, am_s152_31, am_s152_32, am_s152_34, am_s152_37, am_s152_38, am_s152_40, am_s152_43, am_s152_44, am_f114_14, h, h60, h61, h62, not_true_eq_false, not_false_eq_true, eq_self, am_os_some, Option.toList_some, Option.toList_none, List.cons_append, List.nil_append, if_true, if_false, true_and, am_nw1_i, am_nw1_r, am_nw1_n, cond_true]
  | 3, _ =>
    intro y2 y3
    simp only [am_s151_5, am_s151_6, am_s151_9, am_s151_81, am_s151_82, am_f114_14, h, not_true_eq_false, not_false_eq_true, eq_self, am_os_some, Option.toList_some, Option.toList_none, List.cons_append, List.nil_append, if_true, if_false, true_and, am_nw1_i, am_nw1_r, am_nw1_n, cond_true]
  | 4, _ =>
    intro y2 y3
    simp only [am_s150_5, am_s150_6, am_s150_9, am_s150_114, am_s150_115, am_f114_14, h, not_true_eq_false, not_false_eq_true, eq_self, am_os_some, Option.toList_some, Option.toList_none, List.cons_append, List.nil_append, if_true, if_false, true_and, am_nw1_i, am_nw1_r, am_nw1_n, cond_true]
theorem am_LB2 {lv : Nat} (hl : lv < 5) (h : am_ps u B n a b c G i op) (hu : u < 2) (hi : i ≤ n) (hne : ¬ am_lvl (am_byt B n i) = lv) : am_RL X (D + 1) q lv v G (some (.int v), (am_L0 q, G)) := by
  have g := am_m144 (X := X) (D := D) (q := q) h hu hi
  have hB : ∀ j, j < n → B j < 256 := fun j hj => (h.2.2.2.2.2.2.2.2.1 j hj).2
  have h8 := h.2.1
  have h14 := h.2.2.2.2.2.2.2.1
  have e10 : ((1 : Int32) = 0) = False := by decide
  match lv, hl, hne with
  | 0, _, hne =>
    have x124 : ¬ am_nx B n i = 124 := fun e => hne ((am_lvq0 _).mpr (by have := (am_nx_eq (c := 124) hB (by decide)).mp e; omega))
    intro y2
    simp only [am_s154_5, am_s154_6, am_s154_9, am_s154_12, am_s154_13, am_s154_14, am_s154_17, am_s154_20, am_s154_22, am_s154_57, am_s154_58, am_f114_14, am_f114_8, h14, h8, e10, am_cal_ok am_cat_0 am_v114 (g), x124, not_true_eq_false, not_false_eq_true, eq_self, am_os_some, Option.toList_some, Option.toList_none, List.cons_append, List.nil_append, if_true, if_false, true_and, am_nw1_i, am_nw1_r, am_nw1_n, cond_true]
  | 1, _, hne =>
    have x38 : ¬ am_nx B n i = 38 := fun e => hne ((am_lvq1 _).mpr (by have := (am_nx_eq (c := 38) hB (by decide)).mp e; omega))
    intro y2
    simp only [am_s153_5, am_s153_6, am_s153_9, am_s153_12, am_s153_13, am_s153_14, am_s153_17, am_s153_20, am_s153_22, am_s153_57, am_s153_58, am_f114_14, am_f114_8, h14, h8, e10, am_cal_ok am_cat_0 am_v114 (g), x38, not_true_eq_false, not_false_eq_true, eq_self, am_os_some, Option.toList_some, Option.toList_none, List.cons_append, List.nil_append, if_true, if_false, true_and, am_nw1_i, am_nw1_r, am_nw1_n, cond_true]
  | 2, _, hne =>
    have x60 : ¬ am_nx B n i = 60 := fun e => hne ((am_lvq2 _).mpr (by have := (am_nx_eq (c := 60) hB (by decide)).mp e; omega))
    have x61 : ¬ am_nx B n i = 61 := fun e => hne ((am_lvq2 _).mpr (by have := (am_nx_eq (c := 61) hB (by decide)).mp e; omega))
    have x62 : ¬ am_nx B n i = 62 := fun e => hne ((am_lvq2 _).mpr (by have := (am_nx_eq (c := 62) hB (by decide)).mp e; omega))
    intro y2 y3 y4
    simp only [am_s152_5, am_s152_6, am_s152_9, am_s152_12, am_s152_13, am_s152_14, am_s152_17, am_s152_20, am_s152_23, am_s152_24, am_s152_25, am_s152_26, am_s152_28, am_s152_31, am_s152_32, am_s152_34, am_s152_37, am_s152_38, am_s152_40, am_s152_43, am_s152_44, am_f114_14, am_f114_8, h14, h8, e10, am_cal_ok am_cat_0 am_v114 (g), x60, x61, x62, not_true_eq_false, not_false_eq_true, eq_self, am_os_some, Option.toList_some, Option.toList_none, List.cons_append, List.nil_append, if_true, if_false, true_and, am_nw1_i, am_nw1_r, am_nw1_n, cond_true]
  | 3, _, hne =>
    have x43 : ¬ am_nx B n i = 43 := fun e => hne ((am_lvq3 _).mpr (by have := (am_nx_eq (c := 43) hB (by decide)).mp e; omega))
    have x45 : ¬ am_nx B n i = 45 := fun e => hne ((am_lvq3 _).mpr (by have := (am_nx_eq (c := 45) hB (by decide)).mp e; omega))
    intro y2 y3
    simp only [am_s151_5, am_s151_6, am_s151_9, am_s151_12, am_s151_13, am_s151_14, am_s151_17, am_s151_20, am_s151_22, am_s151_25, am_s151_26, am_s151_27, am_s151_30, am_s151_33, am_s151_35, am_s151_81, am_s151_82, am_f114_14, am_f114_8, h14, h8, e10, am_cal_ok am_cat_0 am_v114 (g), x43, x45, not_true_eq_false, not_false_eq_true, eq_self, am_os_some, Option.toList_some, Option.toList_none, List.cons_append, List.nil_append, if_true, if_false, true_and, am_nw1_i, am_nw1_r, am_nw1_n, cond_true]
  | 4, _, hne =>
    have x42 : ¬ am_nx B n i = 42 := fun e => hne ((am_lvq4 _).mpr (by have := (am_nx_eq (c := 42) hB (by decide)).mp e; omega))
    have x47 : ¬ am_nx B n i = 47 := fun e => hne ((am_lvq4 _).mpr (by have := (am_nx_eq (c := 47) hB (by decide)).mp e; omega))
    have x37 : ¬ am_nx B n i = 37 := fun e => hne ((am_lvq4 _).mpr (by have := (am_nx_eq (c := 37) hB (by decide)).mp e; omega))
    intro y2 y3
    simp only [am_s150_5, am_s150_6, am_s150_9, am_s150_12, am_s150_13, am_s150_14, am_s150_17, am_s150_20, am_s150_22, am_s150_25, am_s150_26, am_s150_27, am_s150_30, am_s150_33, am_s150_35, am_s150_38, am_s150_39, am_s150_40, am_s150_43, am_s150_46, am_s150_48, am_s150_114, am_s150_115, am_f114_14, am_f114_8, h14, h8, e10, am_cal_ok am_cat_0 am_v114 (g), x42, x47, x37, not_true_eq_false, not_false_eq_true, eq_self, am_os_some, Option.toList_some, Option.toList_none, List.cons_append, List.nil_append, if_true, if_false, true_and, am_nw1_i, am_nw1_r, am_nw1_n, cond_true]
theorem am_LB3 {lv : Nat} (hl : lv < 5) (h : am_ps u B n a b c G i op) (hu : u < 2) (hi : i ≤ n) (he : am_lvl (am_byt B n i) = lv) (hs : am_CD X (D + 1) (am_lvM (lv + 1)) [.ref 114] (am_L0 q, am_up G 114 8 (nI (i + 1))) = some (some (.int w), (am_L0 q, G1))) : (lv ≠ 2 → ∀ o, am_RL X (D + 1) q lv (am_jn (am_byt B n i) v w) G1 o → am_RL X (D + 1) q lv v G o) ∧ (lv = 2 → am_RL X (D + 1) q 2 v G (some (.int (am_jn (am_byt B n i) v w)), (am_L0 q, G1))) := by
  have g := am_m144 (X := X) (D := D) (q := q) h hu hi
  have hB : ∀ j, j < n → B j < 256 := fun j hj => (h.2.2.2.2.2.2.2.2.1 j hj).2
  have h8 := h.2.1
  have h14 := h.2.2.2.2.2.2.2.1
  have e10 : ((1 : Int32) = 0) = False := by decide
  have ep : ∀ x : Int32, am_putM (am_L0 q, G) 114 11 8 (.int x) = some (am_L0 q, am_up G 114 8 x) := fun _ => rfl
  have s2 : nI i + 1 = nI (i + 1) := nI_add i 1
  match lv, hl, he, hs with
  | 0, _, he, hs =>
    have gs : am_CD X (D + 1) 153 [.ref 114] (am_L0 q, am_up G 114 8 (nI (i + 1))) = some (some (.int w), (am_L0 q, G1)) := hs
    refine ⟨fun _ o ho => ?_, fun e => absurd e (by decide)⟩
    have hc := (am_lvq0 _).mp he
    have x : am_nx B n i = 124 := (am_nx_eq (c := 124) hB (by decide)).mpr hc
    rw [hc] at ho
    rw [x] at g
    intro y2
    have ho' := ho (some (.int w))
    have c1 : ((1 : Int32) = 0) = False := by decide
    by_cases v0 : v = 0
    · by_cases w0 : w = 0
      · have ej : am_jn 124 v w = 0 := by unfold am_jn; simp [v0, w0]
        rw [ej] at ho'
        simp only [am_s154_5, am_s154_6, am_s154_9, am_s154_12, am_s154_13, am_s154_14, am_s154_17, am_s154_20, am_s154_22, am_s154_25, am_s154_26, am_s154_26a, am_s154_27, am_s154_30, am_s154_31, am_s154_32, am_s154_35, am_s154_36, am_s154_39, am_s154_40, am_s154_41, am_s154_44, am_s154_45, am_s154_48, am_s154_49, am_s154_52, am_s154_53, am_f114_14, am_f114_8, h14, h8, e10, ep, s2, am_cal_ok am_cat_0 am_v114 (g), am_cal_ok am_cat_0 am_v114 (gs), v0, w0, not_true_eq_false, not_false_eq_true, eq_self, am_os_some, Option.toList_some, Option.toList_none, List.cons_append, List.nil_append, if_true, if_false, true_and, am_nw1_i, am_nw1_r, am_nw1_n, cond_true]
        rw [am_s154_54]
        rw [w0] at ho'
        exact ho'
      · have ej : am_jn 124 v w = 1 := by unfold am_jn; simp [v0, w0]
        rw [ej] at ho'
        simp only [am_s154_5, am_s154_6, am_s154_9, am_s154_12, am_s154_13, am_s154_14, am_s154_17, am_s154_20, am_s154_22, am_s154_25, am_s154_26, am_s154_26a, am_s154_27, am_s154_30, am_s154_31, am_s154_32, am_s154_35, am_s154_36, am_s154_39, am_s154_40, am_s154_41, am_s154_44, am_s154_45, am_s154_48, am_s154_49, am_s154_52, am_s154_53, am_f114_14, am_f114_8, h14, h8, e10, ep, s2, am_cal_ok am_cat_0 am_v114 (g), am_cal_ok am_cat_0 am_v114 (gs), v0, w0, not_true_eq_false, not_false_eq_true, eq_self, am_os_some, Option.toList_some, Option.toList_none, List.cons_append, List.nil_append, if_true, if_false, true_and, am_nw1_i, am_nw1_r, am_nw1_n, cond_true]
        rw [am_s154_54]
        exact ho'
    · by_cases w0 : w = 0
      · have ej : am_jn 124 v w = 1 := by unfold am_jn; simp [v0, w0]
        rw [ej] at ho'
        simp only [am_s154_5, am_s154_6, am_s154_9, am_s154_12, am_s154_13, am_s154_14, am_s154_17, am_s154_20, am_s154_22, am_s154_25, am_s154_26, am_s154_26a, am_s154_27, am_s154_30, am_s154_31, am_s154_32, am_s154_35, am_s154_36, am_s154_39, am_s154_40, am_s154_41, am_s154_44, am_s154_45, am_s154_48, am_s154_49, am_s154_52, am_s154_53, am_f114_14, am_f114_8, h14, h8, e10, ep, s2, am_cal_ok am_cat_0 am_v114 (g), am_cal_ok am_cat_0 am_v114 (gs), v0, w0, not_true_eq_false, not_false_eq_true, eq_self, am_os_some, Option.toList_some, Option.toList_none, List.cons_append, List.nil_append, if_true, if_false, true_and, am_nw1_i, am_nw1_r, am_nw1_n, cond_true]
        rw [am_s154_54]
        rw [w0] at ho'
        exact ho'
      · have ej : am_jn 124 v w = 1 := by unfold am_jn; simp [v0, w0]
        rw [ej] at ho'
        simp only [am_s154_5, am_s154_6, am_s154_9, am_s154_12, am_s154_13, am_s154_14, am_s154_17, am_s154_20, am_s154_22, am_s154_25, am_s154_26, am_s154_26a, am_s154_27, am_s154_30, am_s154_31, am_s154_32, am_s154_35, am_s154_36, am_s154_39, am_s154_40, am_s154_41, am_s154_44, am_s154_45, am_s154_48, am_s154_49, am_s154_52, am_s154_53, am_f114_14, am_f114_8, h14, h8, e10, ep, s2, am_cal_ok am_cat_0 am_v114 (g), am_cal_ok am_cat_0 am_v114 (gs), v0, w0, not_true_eq_false, not_false_eq_true, eq_self, am_os_some, Option.toList_some, Option.toList_none, List.cons_append, List.nil_append, if_true, if_false, true_and, am_nw1_i, am_nw1_r, am_nw1_n, cond_true]
        rw [am_s154_54]
        exact ho'
  | 1, _, he, hs =>
    have gs : am_CD X (D + 1) 152 [.ref 114] (am_L0 q, am_up G 114 8 (nI (i + 1))) = some (some (.int w), (am_L0 q, G1)) := hs
    refine ⟨fun _ o ho => ?_, fun e => absurd e (by decide)⟩
    have hc := (am_lvq1 _).mp he
    have x : am_nx B n i = 38 := (am_nx_eq (c := 38) hB (by decide)).mpr hc
    rw [hc] at ho
    rw [x] at g
    intro y2
    have ho' := ho (some (.int w))
    have c1 : ((1 : Int32) = 0) = False := by decide
    by_cases v0 : v = 0
    · by_cases w0 : w = 0
      · have ej : am_jn 38 v w = 0 := by unfold am_jn; simp [v0, w0]
        rw [ej] at ho'
        simp only [am_s153_5, am_s153_6, am_s153_9, am_s153_12, am_s153_13, am_s153_14, am_s153_17, am_s153_20, am_s153_22, am_s153_25, am_s153_26, am_s153_26a, am_s153_27, am_s153_30, am_s153_31, am_s153_32, am_s153_35, am_s153_36, am_s153_39, am_s153_40, am_s153_41, am_s153_44, am_s153_45, am_s153_48, am_s153_49, am_s153_52, am_s153_53, am_f114_14, am_f114_8, h14, h8, e10, ep, s2, am_cal_ok am_cat_0 am_v114 (g), am_cal_ok am_cat_0 am_v114 (gs), v0, w0, not_true_eq_false, not_false_eq_true, eq_self, am_os_some, Option.toList_some, Option.toList_none, List.cons_append, List.nil_append, if_true, if_false, true_and, am_nw1_i, am_nw1_r, am_nw1_n, cond_true]
        rw [am_s153_54]
        rw [w0] at ho'
        exact ho'
      · have ej : am_jn 38 v w = 0 := by unfold am_jn; simp [v0, w0]
        rw [ej] at ho'
        simp only [am_s153_5, am_s153_6, am_s153_9, am_s153_12, am_s153_13, am_s153_14, am_s153_17, am_s153_20, am_s153_22, am_s153_25, am_s153_26, am_s153_26a, am_s153_27, am_s153_30, am_s153_31, am_s153_32, am_s153_35, am_s153_36, am_s153_39, am_s153_40, am_s153_41, am_s153_44, am_s153_45, am_s153_48, am_s153_49, am_s153_52, am_s153_53, am_f114_14, am_f114_8, h14, h8, e10, ep, s2, am_cal_ok am_cat_0 am_v114 (g), am_cal_ok am_cat_0 am_v114 (gs), v0, w0, not_true_eq_false, not_false_eq_true, eq_self, am_os_some, Option.toList_some, Option.toList_none, List.cons_append, List.nil_append, if_true, if_false, true_and, am_nw1_i, am_nw1_r, am_nw1_n, cond_true]
        rw [am_s153_54]
        exact ho'
    · by_cases w0 : w = 0
      · have ej : am_jn 38 v w = 0 := by unfold am_jn; simp [v0, w0]
        rw [ej] at ho'
        simp only [am_s153_5, am_s153_6, am_s153_9, am_s153_12, am_s153_13, am_s153_14, am_s153_17, am_s153_20, am_s153_22, am_s153_25, am_s153_26, am_s153_26a, am_s153_27, am_s153_30, am_s153_31, am_s153_32, am_s153_35, am_s153_36, am_s153_39, am_s153_40, am_s153_41, am_s153_44, am_s153_45, am_s153_48, am_s153_49, am_s153_52, am_s153_53, am_f114_14, am_f114_8, h14, h8, e10, ep, s2, am_cal_ok am_cat_0 am_v114 (g), am_cal_ok am_cat_0 am_v114 (gs), v0, w0, not_true_eq_false, not_false_eq_true, eq_self, am_os_some, Option.toList_some, Option.toList_none, List.cons_append, List.nil_append, if_true, if_false, true_and, am_nw1_i, am_nw1_r, am_nw1_n, cond_true]
        rw [am_s153_54]
        rw [w0] at ho'
        exact ho'
      · have ej : am_jn 38 v w = 1 := by unfold am_jn; simp [v0, w0]
        rw [ej] at ho'
        simp only [am_s153_5, am_s153_6, am_s153_9, am_s153_12, am_s153_13, am_s153_14, am_s153_17, am_s153_20, am_s153_22, am_s153_25, am_s153_26, am_s153_26a, am_s153_27, am_s153_30, am_s153_31, am_s153_32, am_s153_35, am_s153_36, am_s153_39, am_s153_40, am_s153_41, am_s153_44, am_s153_45, am_s153_48, am_s153_49, am_s153_52, am_s153_53, am_f114_14, am_f114_8, h14, h8, e10, ep, s2, am_cal_ok am_cat_0 am_v114 (g), am_cal_ok am_cat_0 am_v114 (gs), v0, w0, not_true_eq_false, not_false_eq_true, eq_self, am_os_some, Option.toList_some, Option.toList_none, List.cons_append, List.nil_append, if_true, if_false, true_and, am_nw1_i, am_nw1_r, am_nw1_n, cond_true]
        rw [am_s153_54]
        exact ho'
  | 2, _, he, hs =>
    have gs : am_CD X (D + 1) 151 [.ref 114] (am_L0 q, am_up G 114 8 (nI (i + 1))) = some (some (.int w), (am_L0 q, G1)) := hs
    refine ⟨fun e => absurd rfl e, fun _ => ?_⟩
    have c6061 : ((60 : Int32) = 61) = False := by decide
    have c6160 : ((61 : Int32) = 60) = False := by decide
    have c6260 : ((62 : Int32) = 60) = False := by decide
    have c6261 : ((62 : Int32) = 61) = False := by decide
    intro y2 y3 y4
    rcases (am_lvq2 _).mp he with hc | hc | hc
    · have x : am_nx B n i = 60 := (am_nx_eq (c := 60) hB (by decide)).mpr hc
      rw [x] at g
      rw [hc]
      by_cases k : v < w
      · have ej : am_jn 60 v w = 1 := by unfold am_jn; simp [k]
        rw [ej]
        simp only [am_s152_5, am_s152_6, am_s152_9, am_s152_12, am_s152_13, am_s152_14, am_s152_17, am_s152_20, am_s152_23, am_s152_24, am_s152_25, am_s152_26, am_s152_28, am_s152_31, am_s152_32, am_s152_34, am_s152_37, am_s152_38, am_s152_40, am_s152_43, am_s152_44, am_s152_45, am_s152_46, am_s152_46a, am_s152_47, am_s152_50, am_s152_51, am_s152_52, am_s152_55, am_s152_56, am_s152_59, am_s152_60, am_s152_61, am_s152_63, am_s152_66, am_s152_67, am_s152_68, am_s152_71, am_s152_72, am_s152_75, am_s152_76, am_s152_79, am_s152_80, am_s152_82, am_s152_85, am_s152_86, am_s152_87, am_s152_90, am_s152_91, am_s152_94, am_s152_95, am_s152_98, am_s152_99, am_s152_100, am_s152_103, am_s152_104, am_s152_107, am_s152_108, am_s152_110, am_s152_112, am_s152_115, am_s152_116, am_s152_119, am_s152_120, am_f114_14, am_f114_8, h14, h8, e10, ep, s2, am_cal_ok am_cat_0 am_v114 (g), am_cal_ok am_cat_0 am_v114 (gs), k, not_true_eq_false, not_false_eq_true, eq_self, am_os_some, Option.toList_some, Option.toList_none, List.cons_append, List.nil_append, if_true, if_false, true_and, am_nw1_i, am_nw1_r, am_nw1_n, cond_true]
      · have ej : am_jn 60 v w = 0 := by unfold am_jn; simp [k]
        rw [ej]
        simp only [am_s152_5, am_s152_6, am_s152_9, am_s152_12, am_s152_13, am_s152_14, am_s152_17, am_s152_20, am_s152_23, am_s152_24, am_s152_25, am_s152_26, am_s152_28, am_s152_31, am_s152_32, am_s152_34, am_s152_37, am_s152_38, am_s152_40, am_s152_43, am_s152_44, am_s152_45, am_s152_46, am_s152_46a, am_s152_47, am_s152_50, am_s152_51, am_s152_52, am_s152_55, am_s152_56, am_s152_59, am_s152_60, am_s152_61, am_s152_63, am_s152_66, am_s152_67, am_s152_68, am_s152_71, am_s152_72, am_s152_75, am_s152_76, am_s152_79, am_s152_80, am_s152_82, am_s152_85, am_s152_86, am_s152_87, am_s152_90, am_s152_91, am_s152_94, am_s152_95, am_s152_98, am_s152_99, am_s152_100, am_s152_103, am_s152_104, am_s152_107, am_s152_108, am_s152_110, am_s152_112, am_s152_115, am_s152_116, am_s152_119, am_s152_120, am_f114_14, am_f114_8, h14, h8, e10, ep, s2, am_cal_ok am_cat_0 am_v114 (g), am_cal_ok am_cat_0 am_v114 (gs), k, not_true_eq_false, not_false_eq_true, eq_self, am_os_some, Option.toList_some, Option.toList_none, List.cons_append, List.nil_append, if_true, if_false, true_and, am_nw1_i, am_nw1_r, am_nw1_n, cond_true]
    · have x : am_nx B n i = 61 := (am_nx_eq (c := 61) hB (by decide)).mpr hc
      rw [x] at g
      rw [hc]
      by_cases k : v = w
      · have ej : am_jn 61 v w = 1 := by unfold am_jn; simp [k]
        rw [ej]
        simp only [am_s152_5, am_s152_6, am_s152_9, am_s152_12, am_s152_13, am_s152_14, am_s152_17, am_s152_20, am_s152_23, am_s152_24, am_s152_25, am_s152_26, am_s152_28, am_s152_31, am_s152_32, am_s152_34, am_s152_37, am_s152_38, am_s152_40, am_s152_43, am_s152_44, am_s152_45, am_s152_46, am_s152_46a, am_s152_47, am_s152_50, am_s152_51, am_s152_52, am_s152_55, am_s152_56, am_s152_59, am_s152_60, am_s152_61, am_s152_63, am_s152_66, am_s152_67, am_s152_68, am_s152_71, am_s152_72, am_s152_75, am_s152_76, am_s152_79, am_s152_80, am_s152_82, am_s152_85, am_s152_86, am_s152_87, am_s152_90, am_s152_91, am_s152_94, am_s152_95, am_s152_98, am_s152_99, am_s152_100, am_s152_103, am_s152_104, am_s152_107, am_s152_108, am_s152_110, am_s152_112, am_s152_115, am_s152_116, am_s152_119, am_s152_120, am_f114_14, am_f114_8, h14, h8, e10, ep, s2, am_cal_ok am_cat_0 am_v114 (g), am_cal_ok am_cat_0 am_v114 (gs), c6160, k, not_true_eq_false, not_false_eq_true, eq_self, am_os_some, Option.toList_some, Option.toList_none, List.cons_append, List.nil_append, if_true, if_false, true_and, am_nw1_i, am_nw1_r, am_nw1_n, cond_true]
      · have ej : am_jn 61 v w = 0 := by unfold am_jn; simp [k]
        rw [ej]
        simp only [am_s152_5, am_s152_6, am_s152_9, am_s152_12, am_s152_13, am_s152_14, am_s152_17, am_s152_20, am_s152_23, am_s152_24, am_s152_25, am_s152_26, am_s152_28, am_s152_31, am_s152_32, am_s152_34, am_s152_37, am_s152_38, am_s152_40, am_s152_43, am_s152_44, am_s152_45, am_s152_46, am_s152_46a, am_s152_47, am_s152_50, am_s152_51, am_s152_52, am_s152_55, am_s152_56, am_s152_59, am_s152_60, am_s152_61, am_s152_63, am_s152_66, am_s152_67, am_s152_68, am_s152_71, am_s152_72, am_s152_75, am_s152_76, am_s152_79, am_s152_80, am_s152_82, am_s152_85, am_s152_86, am_s152_87, am_s152_90, am_s152_91, am_s152_94, am_s152_95, am_s152_98, am_s152_99, am_s152_100, am_s152_103, am_s152_104, am_s152_107, am_s152_108, am_s152_110, am_s152_112, am_s152_115, am_s152_116, am_s152_119, am_s152_120, am_f114_14, am_f114_8, h14, h8, e10, ep, s2, am_cal_ok am_cat_0 am_v114 (g), am_cal_ok am_cat_0 am_v114 (gs), c6160, k, not_true_eq_false, not_false_eq_true, eq_self, am_os_some, Option.toList_some, Option.toList_none, List.cons_append, List.nil_append, if_true, if_false, true_and, am_nw1_i, am_nw1_r, am_nw1_n, cond_true]
    · have x : am_nx B n i = 62 := (am_nx_eq (c := 62) hB (by decide)).mpr hc
      rw [x] at g
      rw [hc]
      by_cases k : v ≤ w
      · have ej : am_jn 62 v w = 0 := by unfold am_jn; simp [k]
        rw [ej]
        simp only [am_s152_5, am_s152_6, am_s152_9, am_s152_12, am_s152_13, am_s152_14, am_s152_17, am_s152_20, am_s152_23, am_s152_24, am_s152_25, am_s152_26, am_s152_28, am_s152_31, am_s152_32, am_s152_34, am_s152_37, am_s152_38, am_s152_40, am_s152_43, am_s152_44, am_s152_45, am_s152_46, am_s152_46a, am_s152_47, am_s152_50, am_s152_51, am_s152_52, am_s152_55, am_s152_56, am_s152_59, am_s152_60, am_s152_61, am_s152_63, am_s152_66, am_s152_67, am_s152_68, am_s152_71, am_s152_72, am_s152_75, am_s152_76, am_s152_79, am_s152_80, am_s152_82, am_s152_85, am_s152_86, am_s152_87, am_s152_90, am_s152_91, am_s152_94, am_s152_95, am_s152_98, am_s152_99, am_s152_100, am_s152_103, am_s152_104, am_s152_107, am_s152_108, am_s152_110, am_s152_112, am_s152_115, am_s152_116, am_s152_119, am_s152_120, am_f114_14, am_f114_8, h14, h8, e10, ep, s2, am_cal_ok am_cat_0 am_v114 (g), am_cal_ok am_cat_0 am_v114 (gs), c6260, c6261, k, not_true_eq_false, not_false_eq_true, eq_self, am_os_some, Option.toList_some, Option.toList_none, List.cons_append, List.nil_append, if_true, if_false, true_and, am_nw1_i, am_nw1_r, am_nw1_n, cond_true]
      · have ej : am_jn 62 v w = 1 := by unfold am_jn; simp [k]
        rw [ej]
        simp only [am_s152_5, am_s152_6, am_s152_9, am_s152_12, am_s152_13, am_s152_14, am_s152_17, am_s152_20, am_s152_23, am_s152_24, am_s152_25, am_s152_26, am_s152_28, am_s152_31, am_s152_32, am_s152_34, am_s152_37, am_s152_38, am_s152_40, am_s152_43, am_s152_44, am_s152_45, am_s152_46, am_s152_46a, am_s152_47, am_s152_50, am_s152_51, am_s152_52, am_s152_55, am_s152_56, am_s152_59, am_s152_60, am_s152_61, am_s152_63, am_s152_66, am_s152_67, am_s152_68, am_s152_71, am_s152_72, am_s152_75, am_s152_76, am_s152_79, am_s152_80, am_s152_82, am_s152_85, am_s152_86, am_s152_87, am_s152_90, am_s152_91, am_s152_94, am_s152_95, am_s152_98, am_s152_99, am_s152_100, am_s152_103, am_s152_104, am_s152_107, am_s152_108, am_s152_110, am_s152_112, am_s152_115, am_s152_116, am_s152_119, am_s152_120, am_f114_14, am_f114_8, h14, h8, e10, ep, s2, am_cal_ok am_cat_0 am_v114 (g), am_cal_ok am_cat_0 am_v114 (gs), c6260, c6261, k, not_true_eq_false, not_false_eq_true, eq_self, am_os_some, Option.toList_some, Option.toList_none, List.cons_append, List.nil_append, if_true, if_false, true_and, am_nw1_i, am_nw1_r, am_nw1_n, cond_true]
  | 3, _, he, hs =>
    have gs : am_CD X (D + 1) 150 [.ref 114] (am_L0 q, am_up G 114 8 (nI (i + 1))) = some (some (.int w), (am_L0 q, G1)) := hs
    refine ⟨fun _ o ho => ?_, fun e => absurd e (by decide)⟩
    have c4543 : ((45 : Int32) = 43) = False := by decide
    intro y2 y3
    rcases (am_lvq3 _).mp he with hc | hc
    · have x : am_nx B n i = 43 := (am_nx_eq (c := 43) hB (by decide)).mpr hc
      rw [x] at g
      rw [hc] at ho
      have ho' := ho (some (.int 43)) (some (.int w))
      rw [show am_jn 43 v w = v + w from rfl] at ho'
      simp only [am_s151_5, am_s151_6, am_s151_9, am_s151_12, am_s151_13, am_s151_14, am_s151_17, am_s151_20, am_s151_22, am_s151_25, am_s151_26, am_s151_27, am_s151_30, am_s151_33, am_s151_35, am_s151_38, am_s151_39, am_s151_40, am_s151_43, am_s151_46, am_s151_47, am_s151_48, am_s151_48a, am_s151_49, am_s151_52, am_s151_53, am_s151_54, am_s151_57, am_s151_58, am_s151_61, am_s151_62, am_s151_63, am_s151_65, am_s151_68, am_s151_69, am_s151_70, am_s151_71, am_s151_74, am_s151_75, am_s151_76, am_s151_77, am_f114_14, am_f114_8, h14, h8, e10, ep, s2, am_cal_ok am_cat_0 am_v114 (g), am_cal_ok am_cat_0 am_v114 (gs), not_true_eq_false, not_false_eq_true, eq_self, am_os_some, Option.toList_some, Option.toList_none, List.cons_append, List.nil_append, if_true, if_false, true_and, am_nw1_i, am_nw1_r, am_nw1_n, cond_true]
      rw [am_s151_78]
      exact ho'
    · have x : am_nx B n i = 45 := (am_nx_eq (c := 45) hB (by decide)).mpr hc
      rw [x] at g
      rw [hc] at ho
      have ho' := ho (some (.int 45)) (some (.int w))
      rw [show am_jn 45 v w = v - w from rfl] at ho'
      simp only [am_s151_5, am_s151_6, am_s151_9, am_s151_12, am_s151_13, am_s151_14, am_s151_17, am_s151_20, am_s151_22, am_s151_25, am_s151_26, am_s151_27, am_s151_30, am_s151_33, am_s151_35, am_s151_38, am_s151_39, am_s151_40, am_s151_43, am_s151_46, am_s151_47, am_s151_48, am_s151_48a, am_s151_49, am_s151_52, am_s151_53, am_s151_54, am_s151_57, am_s151_58, am_s151_61, am_s151_62, am_s151_63, am_s151_65, am_s151_68, am_s151_69, am_s151_70, am_s151_71, am_s151_74, am_s151_75, am_s151_76, am_s151_77, am_f114_14, am_f114_8, h14, h8, e10, ep, s2, am_cal_ok am_cat_0 am_v114 (g), am_cal_ok am_cat_0 am_v114 (gs), c4543, not_true_eq_false, not_false_eq_true, eq_self, am_os_some, Option.toList_some, Option.toList_none, List.cons_append, List.nil_append, if_true, if_false, true_and, am_nw1_i, am_nw1_r, am_nw1_n, cond_true]
      rw [am_s151_78]
      exact ho'
  | 4, _, he, hs =>
    have gs : am_CD X (D + 1) 149 [.ref 114] (am_L0 q, am_up G 114 8 (nI (i + 1))) = some (some (.int w), (am_L0 q, G1)) := hs
    refine ⟨fun _ o ho => ?_, fun e => absurd e (by decide)⟩
    have c4742 : ((47 : Int32) = 42) = False := by decide
    have c3742 : ((37 : Int32) = 42) = False := by decide
    have c3747 : ((37 : Int32) = 47) = False := by decide
    intro y2 y3
    rcases (am_lvq4 _).mp he with hc | hc | hc
    · have x : am_nx B n i = 42 := (am_nx_eq (c := 42) hB (by decide)).mpr hc
      rw [x] at g
      rw [hc] at ho
      have ho' := ho (some (.int 42)) (some (.int w))
      rw [show am_jn 42 v w = v * w from rfl] at ho'
      simp only [am_s150_5, am_s150_6, am_s150_9, am_s150_12, am_s150_13, am_s150_14, am_s150_17, am_s150_20, am_s150_22, am_s150_25, am_s150_26, am_s150_27, am_s150_30, am_s150_33, am_s150_35, am_s150_38, am_s150_39, am_s150_40, am_s150_43, am_s150_46, am_s150_48, am_s150_51, am_s150_52, am_s150_53, am_s150_56, am_s150_59, am_s150_60, am_s150_61, am_s150_61a, am_s150_62, am_s150_65, am_s150_66, am_s150_67, am_s150_70, am_s150_71, am_s150_74, am_s150_75, am_s150_76, am_s150_78, am_s150_81, am_s150_82, am_s150_83, am_s150_84, am_s150_87, am_s150_88, am_s150_91, am_s150_92, am_s150_95, am_s150_96, am_s150_98, am_s150_101, am_s150_102, am_s150_103, am_s150_104, am_s150_107, am_s150_108, am_s150_109, am_s150_110, am_f114_14, am_f114_8, h14, h8, e10, ep, s2, am_cal_ok am_cat_0 am_v114 (g), am_cal_ok am_cat_0 am_v114 (gs), not_true_eq_false, not_false_eq_true, eq_self, am_os_some, Option.toList_some, Option.toList_none, List.cons_append, List.nil_append, if_true, if_false, true_and, am_nw1_i, am_nw1_r, am_nw1_n, cond_true]
      rw [am_s150_111]
      exact ho'
    · have x : am_nx B n i = 47 := (am_nx_eq (c := 47) hB (by decide)).mpr hc
      rw [x] at g
      rw [hc] at ho
      have ho' := ho (some (.int 47)) (some (.int w))
      by_cases w0 : w = 0
      · rw [show am_jn 47 v w = 0 by unfold am_jn; simp [w0]] at ho'
        simp only [am_s150_5, am_s150_6, am_s150_9, am_s150_12, am_s150_13, am_s150_14, am_s150_17, am_s150_20, am_s150_22, am_s150_25, am_s150_26, am_s150_27, am_s150_30, am_s150_33, am_s150_35, am_s150_38, am_s150_39, am_s150_40, am_s150_43, am_s150_46, am_s150_48, am_s150_51, am_s150_52, am_s150_53, am_s150_56, am_s150_59, am_s150_60, am_s150_61, am_s150_61a, am_s150_62, am_s150_65, am_s150_66, am_s150_67, am_s150_70, am_s150_71, am_s150_74, am_s150_75, am_s150_76, am_s150_78, am_s150_81, am_s150_82, am_s150_83, am_s150_84, am_s150_87, am_s150_88, am_s150_91, am_s150_92, am_s150_95, am_s150_96, am_s150_98, am_s150_101, am_s150_102, am_s150_103, am_s150_104, am_s150_107, am_s150_108, am_s150_109, am_s150_110, am_f114_14, am_f114_8, h14, h8, e10, ep, s2, am_cal_ok am_cat_0 am_v114 (g), am_cal_ok am_cat_0 am_v114 (gs), c4742, w0, not_true_eq_false, not_false_eq_true, eq_self, am_os_some, Option.toList_some, Option.toList_none, List.cons_append, List.nil_append, if_true, if_false, true_and, am_nw1_i, am_nw1_r, am_nw1_n, cond_true]
        rw [am_s150_111]
        rw [w0] at ho'
        exact ho'
      · rw [show am_jn 47 v w = v / w by unfold am_jn; simp [w0]] at ho'
        simp only [am_s150_5, am_s150_6, am_s150_9, am_s150_12, am_s150_13, am_s150_14, am_s150_17, am_s150_20, am_s150_22, am_s150_25, am_s150_26, am_s150_27, am_s150_30, am_s150_33, am_s150_35, am_s150_38, am_s150_39, am_s150_40, am_s150_43, am_s150_46, am_s150_48, am_s150_51, am_s150_52, am_s150_53, am_s150_56, am_s150_59, am_s150_60, am_s150_61, am_s150_61a, am_s150_62, am_s150_65, am_s150_66, am_s150_67, am_s150_70, am_s150_71, am_s150_74, am_s150_75, am_s150_76, am_s150_78, am_s150_81, am_s150_82, am_s150_83, am_s150_84, am_s150_87, am_s150_88, am_s150_91, am_s150_92, am_s150_95, am_s150_96, am_s150_98, am_s150_101, am_s150_102, am_s150_103, am_s150_104, am_s150_107, am_s150_108, am_s150_109, am_s150_110, am_f114_14, am_f114_8, h14, h8, e10, ep, s2, am_cal_ok am_cat_0 am_v114 (g), am_cal_ok am_cat_0 am_v114 (gs), c4742, w0, not_true_eq_false, not_false_eq_true, eq_self, am_os_some, Option.toList_some, Option.toList_none, List.cons_append, List.nil_append, if_true, if_false, true_and, am_nw1_i, am_nw1_r, am_nw1_n, cond_true]
        rw [am_s150_111]
        exact ho'
    · have x : am_nx B n i = 37 := (am_nx_eq (c := 37) hB (by decide)).mpr hc
      rw [x] at g
      rw [hc] at ho
      have ho' := ho (some (.int 37)) (some (.int w))
      by_cases w0 : w = 0
      · rw [show am_jn 37 v w = 0 by unfold am_jn; simp [w0]] at ho'
        simp only [am_s150_5, am_s150_6, am_s150_9, am_s150_12, am_s150_13, am_s150_14, am_s150_17, am_s150_20, am_s150_22, am_s150_25, am_s150_26, am_s150_27, am_s150_30, am_s150_33, am_s150_35, am_s150_38, am_s150_39, am_s150_40, am_s150_43, am_s150_46, am_s150_48, am_s150_51, am_s150_52, am_s150_53, am_s150_56, am_s150_59, am_s150_60, am_s150_61, am_s150_61a, am_s150_62, am_s150_65, am_s150_66, am_s150_67, am_s150_70, am_s150_71, am_s150_74, am_s150_75, am_s150_76, am_s150_78, am_s150_81, am_s150_82, am_s150_83, am_s150_84, am_s150_87, am_s150_88, am_s150_91, am_s150_92, am_s150_95, am_s150_96, am_s150_98, am_s150_101, am_s150_102, am_s150_103, am_s150_104, am_s150_107, am_s150_108, am_s150_109, am_s150_110, am_f114_14, am_f114_8, h14, h8, e10, ep, s2, am_cal_ok am_cat_0 am_v114 (g), am_cal_ok am_cat_0 am_v114 (gs), c3742, c3747, w0, not_true_eq_false, not_false_eq_true, eq_self, am_os_some, Option.toList_some, Option.toList_none, List.cons_append, List.nil_append, if_true, if_false, true_and, am_nw1_i, am_nw1_r, am_nw1_n, cond_true]
        rw [am_s150_111]
        rw [w0] at ho'
        exact ho'
      · rw [show am_jn 37 v w = v - v / w * w by unfold am_jn; simp [w0]] at ho'
        simp only [am_s150_5, am_s150_6, am_s150_9, am_s150_12, am_s150_13, am_s150_14, am_s150_17, am_s150_20, am_s150_22, am_s150_25, am_s150_26, am_s150_27, am_s150_30, am_s150_33, am_s150_35, am_s150_38, am_s150_39, am_s150_40, am_s150_43, am_s150_46, am_s150_48, am_s150_51, am_s150_52, am_s150_53, am_s150_56, am_s150_59, am_s150_60, am_s150_61, am_s150_61a, am_s150_62, am_s150_65, am_s150_66, am_s150_67, am_s150_70, am_s150_71, am_s150_74, am_s150_75, am_s150_76, am_s150_78, am_s150_81, am_s150_82, am_s150_83, am_s150_84, am_s150_87, am_s150_88, am_s150_91, am_s150_92, am_s150_95, am_s150_96, am_s150_98, am_s150_101, am_s150_102, am_s150_103, am_s150_104, am_s150_107, am_s150_108, am_s150_109, am_s150_110, am_f114_14, am_f114_8, h14, h8, e10, ep, s2, am_cal_ok am_cat_0 am_v114 (g), am_cal_ok am_cat_0 am_v114 (gs), c3742, c3747, w0, not_true_eq_false, not_false_eq_true, eq_self, am_os_some, Option.toList_some, Option.toList_none, List.cons_append, List.nil_append, if_true, if_false, true_and, am_nw1_i, am_nw1_r, am_nw1_n, cond_true]
        rw [am_s150_111]
        exact ho'
end AMLV
