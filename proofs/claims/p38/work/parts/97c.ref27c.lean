/-! THE REFERENCE: voices -/
def am_rtr (G : am_G) (L : List Int32) : Prop := G 114 25 = nI L.length ∧ ∀ i, i < L.length → G 125 i = L.getD i 0
def am_frx (G G' : am_G) : Prop := ∀ i j, (i = 114 → j ≠ 25) → i ≠ 125 → G' i j = G i j
theorem am_frx.tr {G G1 G2 : am_G} (h1 : am_frx G G1) (h2 : am_frx G1 G2) : am_frx G G2 := fun i j a b => (h2 i j a b).trans (h1 i j a b)
def am_vq (G : am_G) (k : Nat) (n m : Int32) : Prop := G 114 26 = nI k ∧ G 114 27 = n ∧ G 114 28 = m
theorem am_vq.fr {G G' : am_G} {k : Nat} {n m : Int32} (h : am_vq G k n m) (hf : am_frx G G') : am_vq G' k n m := ⟨(hf 114 26 (by omega) (by decide)).trans h.1, (hf 114 27 (by omega) (by decide)).trans h.2.1, (hf 114 28 (by omega) (by decide)).trans h.2.2⟩
section AMRR9
variable {X : am_X} {D q k : Nat} {n m : Int32}
theorem am_m198 {G : am_G} {L : List Int32} (hL : am_rtr G L) (hn : L.length < 40) (v : Int32) : ∃ G' : am_G, am_frx G G' ∧ am_rtr G' (L ++ [v]) ∧ am_CD X (D + 1) 198 [.ref 114, .int v] (am_L0 q, G) = some (none, (am_L0 q, G')) := by
  obtain ⟨l1, l2⟩ := hL
  have h1 : nI L.length < 40 := nI_lt (b := 40) hn (by decide)
  have hi : nI L.length + 1 = nI (L.length + 1) := nI_add _ 1
  have e25 : am_up G 125 L.length v 114 25 = nI L.length := by rw [am_up_get, if_neg (by decide)]; exact l1
  generalize hG1 : am_up G 125 L.length v = G1 at e25
  have f1 : ∀ i j, i ≠ 125 → G1 i j = G i j := fun i j h => by rw [← hG1, am_up_get, if_neg h]
  refine ⟨am_up G1 114 25 (nI (L.length + 1)), fun i j a b => ?_, ⟨?_, fun i hi => ?_⟩, am_CD_of (M := am_N198) rfl rfl ?_⟩
  · rw [am_up_get]
    split
    · rw [if_neg (a (by assumption)), f1 i j b]
    · exact f1 i j b
  · rw [am_up_get, if_pos rfl, if_pos rfl, List.length_append]; rfl
  · rw [am_up_get, if_neg (by decide), ← hG1, am_up_get, if_pos rfl]
    rw [List.length_append, List.length_singleton] at hi
    by_cases e : i = L.length
    · rw [if_pos e, e, List.getD_eq_getElem?_getD, List.getElem?_append_right (Nat.le_refl _), Nat.sub_self]
      rfl
    · rw [if_neg e, List.getD_eq_getElem?_getD, List.getElem?_append_left (by omega), ← List.getD_eq_getElem?_getD]
      exact l2 i (by omega)
  · show am_Rn _ _ none am_J198 0 [some (.ref 114), some (.int v)] [] (am_L0 q, G) _
    simp only [am_s198_0, am_s198_1, am_s198_4, am_s198_6, am_s198_9, am_s198_10, am_s198_13, am_s198_14, am_s198_17, am_s198_18, am_s198_19, am_s198_20, am_s198_20a, am_s198_21, am_s198_24, am_s198_25, am_s198_26, am_s198_29, am_f114_25, am_f114_24, am_p114_25, l1, h1, am_t125, am_in_nI hn (by decide), nI_clamp (show L.length < 2 ^ 31 by omega), hG1, e25, hi, not_true_eq_false, not_false_eq_true, eq_self, am_os_some, Option.toList_some, Option.toList_none, List.cons_append, List.nil_append, if_true, if_false, true_and, am_nw1_i, am_nw1_r, am_nw1_n, cond_true]
theorem am_w199_0 {G : am_G} {L : List Int32} (hk6 : k ≤ 6) (hk : am_vq G k n m) (hL : am_rtr G L) (hn : L.length + 1 ≤ 40) (x : Int32) : ∃ G' : am_G, am_frx G G' ∧ am_rtr G' (L ++ (am_vl 0 x n).2) ∧ am_CD X (D + 2) 199 [.ref 114, .int (nI 0), .int x] (am_L0 q, G) = some (some (.int (am_vl 0 x n).1), (am_L0 q, G')) := by
  obtain ⟨G1, f1, c1, g1⟩ := am_m198 (X := X) (D := D) (q := q) hL (by omega) 10
  have kn := (hk.fr f1).2.1
  refine ⟨G1, f1, c1, ?_⟩
  refine am_CD_of (M := am_N199) rfl rfl ?_
  show am_Rn _ _ ((Option.some FieldType.int)) am_J199 0 [some (.ref 114), some (.int (nI 0)), some (.int x)] [] (am_L0 q, G) _
  simp only [am_s199_0, am_s199_1, am_s199_4, am_s199_5, am_s199_7, am_s199_10, am_s199_11, am_s199_12, am_s199_15, am_s199_16, am_s199_17, am_s199_18, am_s199_19, am_s199_22, am_s199_23, am_s199_25, am_s199_28, am_s199_29, am_s199_30, am_s199_31, am_s199_34, am_s199_35, am_s199_36, am_s199_37, am_s199_38, am_s199_39, am_s199_42, am_s199_43, am_s199_46, show (nI 0 = 0) = True by decide, show (nI 0 = 1) = False by decide, not_true_eq_false, not_false_eq_true, am_cal_ok am_cat_0 am_v114 (g1), am_f114_27, kn, eq_self, am_os_some, Option.toList_some, Option.toList_none, List.cons_append, List.nil_append, if_true, if_false, true_and, am_nw1_i, am_nw1_r, am_nw1_n, cond_true]
  all_goals rfl
theorem am_w199_1 {G : am_G} {L : List Int32} (hk6 : k ≤ 6) (hk : am_vq G k n m) (hL : am_rtr G L) (hn : L.length + 2 ≤ 40) (x : Int32) : ∃ G' : am_G, am_frx G G' ∧ am_rtr G' (L ++ (am_vl 1 x n).2) ∧ am_CD X (D + 3) 199 [.ref 114, .int (nI 1), .int x] (am_L0 q, G) = some (some (.int (am_vl 1 x n).1), (am_L0 q, G')) := by
  obtain ⟨G1, f1, c1, g1⟩ := am_m198 (X := X) (D := D + 1) (q := q) hL (by omega) 20
  obtain ⟨G2, f2, c2, g2⟩ := am_w199_0 (X := X) (D := D) (q := q) hk6 (hk.fr f1) c1 (by rw [List.length_append]; simp; omega) x
  have g2' : am_CD X (D + 2) 199 [.ref 114, .int 0, .int x] (am_L0 q, G1) = some (some (.int (x + n)), (am_L0 q, G2)) := g2
  rw [List.append_assoc] at c2
  refine ⟨G2, f1.tr f2, c2, ?_⟩
  refine am_CD_of (M := am_N199) rfl rfl ?_
  show am_Rn _ _ ((Option.some FieldType.int)) am_J199 0 [some (.ref 114), some (.int (nI 1)), some (.int x)] [] (am_L0 q, G) _
  simp only [am_s199_0, am_s199_1, am_s199_4, am_s199_5, am_s199_7, am_s199_10, am_s199_11, am_s199_12, am_s199_15, am_s199_16, am_s199_17, am_s199_18, am_s199_19, am_s199_22, am_s199_23, am_s199_25, am_s199_28, am_s199_29, am_s199_30, am_s199_31, am_s199_34, am_s199_35, am_s199_36, am_s199_37, am_s199_38, am_s199_39, am_s199_42, am_s199_43, am_s199_46, show (nI 1 = 0) = False by decide, show (nI 1 = 1) = True by decide, not_true_eq_false, not_false_eq_true, am_cal_ok am_cat_0 am_v114 (g1), am_cal_ok am_cat_0 am_v114 (g2'), eq_self, am_os_some, Option.toList_some, Option.toList_none, List.cons_append, List.nil_append, if_true, if_false, true_and, am_nw1_i, am_nw1_r, am_nw1_n, cond_true]
  all_goals rfl
theorem am_w199_2 {G : am_G} {L : List Int32} (hk6 : k ≤ 6) (hk : am_vq G k n m) (hL : am_rtr G L) (hn : L.length + 1 ≤ 40) (x : Int32) : ∃ G' : am_G, am_frx G G' ∧ am_rtr G' (L ++ (am_vl 2 x n).2) ∧ am_CD X (D + 3) 199 [.ref 114, .int (nI 2), .int x] (am_L0 q, G) = some (some (.int (am_vl 2 x n).1), (am_L0 q, G')) := by
  obtain ⟨G1, f1, c1, g1⟩ := am_w199_0 (X := X) (D := D) (q := q) hk6 hk hL hn x
  have ea : am_above 2 = nI 0 := by decide +kernel
  have g142 := am_m142 (X := X) (D := D + 1) (k := 2) (by decide) (w := (am_L0 q, G))
  rw [ea] at g142
  refine ⟨G1, f1, c1, ?_⟩
  refine am_CD_of (M := am_N199) rfl rfl ?_
  show am_Rn _ _ ((Option.some FieldType.int)) am_J199 0 [some (.ref 114), some (.int (nI 2)), some (.int x)] [] (am_L0 q, G) _
  simp only [am_s199_0, am_s199_1, am_s199_4, am_s199_5, am_s199_7, am_s199_10, am_s199_11, am_s199_12, am_s199_15, am_s199_16, am_s199_17, am_s199_18, am_s199_19, am_s199_22, am_s199_23, am_s199_25, am_s199_28, am_s199_29, am_s199_30, am_s199_31, am_s199_34, am_s199_35, am_s199_36, am_s199_37, am_s199_38, am_s199_39, am_s199_42, am_s199_43, am_s199_46, show (nI 2 = 0) = False by decide, show (nI 2 = 1) = False by decide, not_true_eq_false, not_false_eq_true, am_cal_ok (am_cat_1 _) am_rcv_f (g142), am_cal_ok am_cat_0 am_v114 (g1), eq_self, am_os_some, Option.toList_some, Option.toList_none, List.cons_append, List.nil_append, if_true, if_false, true_and, am_nw1_i, am_nw1_r, am_nw1_n, cond_true]
  all_goals rfl
theorem am_w199_3 {G : am_G} {L : List Int32} (hk6 : k ≤ 6) (hk : am_vq G k n m) (hL : am_rtr G L) (hn : L.length + 1 ≤ 40) (x : Int32) : ∃ G' : am_G, am_frx G G' ∧ am_rtr G' (L ++ (am_vl 3 x n).2) ∧ am_CD X (D + 3) 199 [.ref 114, .int (nI 3), .int x] (am_L0 q, G) = some (some (.int (am_vl 3 x n).1), (am_L0 q, G')) := by
  obtain ⟨G1, f1, c1, g1⟩ := am_w199_0 (X := X) (D := D) (q := q) hk6 hk hL hn x
  have ea : am_above 3 = nI 0 := by decide +kernel
  have g142 := am_m142 (X := X) (D := D + 1) (k := 3) (by decide) (w := (am_L0 q, G))
  rw [ea] at g142
  refine ⟨G1, f1, c1, ?_⟩
  refine am_CD_of (M := am_N199) rfl rfl ?_
  show am_Rn _ _ ((Option.some FieldType.int)) am_J199 0 [some (.ref 114), some (.int (nI 3)), some (.int x)] [] (am_L0 q, G) _
  simp only [am_s199_0, am_s199_1, am_s199_4, am_s199_5, am_s199_7, am_s199_10, am_s199_11, am_s199_12, am_s199_15, am_s199_16, am_s199_17, am_s199_18, am_s199_19, am_s199_22, am_s199_23, am_s199_25, am_s199_28, am_s199_29, am_s199_30, am_s199_31, am_s199_34, am_s199_35, am_s199_36, am_s199_37, am_s199_38, am_s199_39, am_s199_42, am_s199_43, am_s199_46, show (nI 3 = 0) = False by decide, show (nI 3 = 1) = False by decide, not_true_eq_false, not_false_eq_true, am_cal_ok (am_cat_1 _) am_rcv_f (g142), am_cal_ok am_cat_0 am_v114 (g1), eq_self, am_os_some, Option.toList_some, Option.toList_none, List.cons_append, List.nil_append, if_true, if_false, true_and, am_nw1_i, am_nw1_r, am_nw1_n, cond_true]
  all_goals rfl
theorem am_w199_4 {G : am_G} {L : List Int32} (hk6 : k ≤ 6) (hk : am_vq G k n m) (hL : am_rtr G L) (hn : L.length + 2 ≤ 40) (x : Int32) : ∃ G' : am_G, am_frx G G' ∧ am_rtr G' (L ++ (am_vl 4 x n).2) ∧ am_CD X (D + 4) 199 [.ref 114, .int (nI 4), .int x] (am_L0 q, G) = some (some (.int (am_vl 4 x n).1), (am_L0 q, G')) := by
  obtain ⟨G1, f1, c1, g1⟩ := am_w199_1 (X := X) (D := D) (q := q) hk6 hk hL hn x
  have ea : am_above 4 = nI 1 := by decide +kernel
  have g142 := am_m142 (X := X) (D := D + 2) (k := 4) (by decide) (w := (am_L0 q, G))
  rw [ea] at g142
  refine ⟨G1, f1, c1, ?_⟩
  refine am_CD_of (M := am_N199) rfl rfl ?_
  show am_Rn _ _ ((Option.some FieldType.int)) am_J199 0 [some (.ref 114), some (.int (nI 4)), some (.int x)] [] (am_L0 q, G) _
  simp only [am_s199_0, am_s199_1, am_s199_4, am_s199_5, am_s199_7, am_s199_10, am_s199_11, am_s199_12, am_s199_15, am_s199_16, am_s199_17, am_s199_18, am_s199_19, am_s199_22, am_s199_23, am_s199_25, am_s199_28, am_s199_29, am_s199_30, am_s199_31, am_s199_34, am_s199_35, am_s199_36, am_s199_37, am_s199_38, am_s199_39, am_s199_42, am_s199_43, am_s199_46, show (nI 4 = 0) = False by decide, show (nI 4 = 1) = False by decide, not_true_eq_false, not_false_eq_true, am_cal_ok (am_cat_1 _) am_rcv_f (g142), am_cal_ok am_cat_0 am_v114 (g1), eq_self, am_os_some, Option.toList_some, Option.toList_none, List.cons_append, List.nil_append, if_true, if_false, true_and, am_nw1_i, am_nw1_r, am_nw1_n, cond_true]
  all_goals rfl
theorem am_w199_5 {G : am_G} {L : List Int32} (hk6 : k ≤ 6) (hk : am_vq G k n m) (hL : am_rtr G L) (hn : L.length + 1 ≤ 40) (x : Int32) : ∃ G' : am_G, am_frx G G' ∧ am_rtr G' (L ++ (am_vl 5 x n).2) ∧ am_CD X (D + 4) 199 [.ref 114, .int (nI 5), .int x] (am_L0 q, G) = some (some (.int (am_vl 5 x n).1), (am_L0 q, G')) := by
  obtain ⟨G1, f1, c1, g1⟩ := am_w199_2 (X := X) (D := D) (q := q) hk6 hk hL hn x
  have ea : am_above 5 = nI 2 := by decide +kernel
  have g142 := am_m142 (X := X) (D := D + 2) (k := 5) (by decide) (w := (am_L0 q, G))
  rw [ea] at g142
  refine ⟨G1, f1, c1, ?_⟩
  refine am_CD_of (M := am_N199) rfl rfl ?_
  show am_Rn _ _ ((Option.some FieldType.int)) am_J199 0 [some (.ref 114), some (.int (nI 5)), some (.int x)] [] (am_L0 q, G) _
  simp only [am_s199_0, am_s199_1, am_s199_4, am_s199_5, am_s199_7, am_s199_10, am_s199_11, am_s199_12, am_s199_15, am_s199_16, am_s199_17, am_s199_18, am_s199_19, am_s199_22, am_s199_23, am_s199_25, am_s199_28, am_s199_29, am_s199_30, am_s199_31, am_s199_34, am_s199_35, am_s199_36, am_s199_37, am_s199_38, am_s199_39, am_s199_42, am_s199_43, am_s199_46, show (nI 5 = 0) = False by decide, show (nI 5 = 1) = False by decide, not_true_eq_false, not_false_eq_true, am_cal_ok (am_cat_1 _) am_rcv_f (g142), am_cal_ok am_cat_0 am_v114 (g1), eq_self, am_os_some, Option.toList_some, Option.toList_none, List.cons_append, List.nil_append, if_true, if_false, true_and, am_nw1_i, am_nw1_r, am_nw1_n, cond_true]
  all_goals rfl
theorem am_w199_6 {G : am_G} {L : List Int32} (hk6 : k ≤ 6) (hk : am_vq G k n m) (hL : am_rtr G L) (hn : L.length + 1 ≤ 40) (x : Int32) : ∃ G' : am_G, am_frx G G' ∧ am_rtr G' (L ++ (am_vl 6 x n).2) ∧ am_CD X (D + 4) 199 [.ref 114, .int (nI 6), .int x] (am_L0 q, G) = some (some (.int (am_vl 6 x n).1), (am_L0 q, G')) := by
  obtain ⟨G1, f1, c1, g1⟩ := am_w199_3 (X := X) (D := D) (q := q) hk6 hk hL hn x
  have ea : am_above 6 = nI 3 := by decide +kernel
  have g142 := am_m142 (X := X) (D := D + 2) (k := 6) (by decide) (w := (am_L0 q, G))
  rw [ea] at g142
  refine ⟨G1, f1, c1, ?_⟩
  refine am_CD_of (M := am_N199) rfl rfl ?_
  show am_Rn _ _ ((Option.some FieldType.int)) am_J199 0 [some (.ref 114), some (.int (nI 6)), some (.int x)] [] (am_L0 q, G) _
  simp only [am_s199_0, am_s199_1, am_s199_4, am_s199_5, am_s199_7, am_s199_10, am_s199_11, am_s199_12, am_s199_15, am_s199_16, am_s199_17, am_s199_18, am_s199_19, am_s199_22, am_s199_23, am_s199_25, am_s199_28, am_s199_29, am_s199_30, am_s199_31, am_s199_34, am_s199_35, am_s199_36, am_s199_37, am_s199_38, am_s199_39, am_s199_42, am_s199_43, am_s199_46, show (nI 6 = 0) = False by decide, show (nI 6 = 1) = False by decide, not_true_eq_false, not_false_eq_true, am_cal_ok (am_cat_1 _) am_rcv_f (g142), am_cal_ok am_cat_0 am_v114 (g1), eq_self, am_os_some, Option.toList_some, Option.toList_none, List.cons_append, List.nil_append, if_true, if_false, true_and, am_nw1_i, am_nw1_r, am_nw1_n, cond_true]
  all_goals rfl
theorem am_m199 {G : am_G} {L : List Int32} {f : Nat} (hf : f ≤ 6) (hk6 : k ≤ 6) (hk : am_vq G k n m) (hL : am_rtr G L) (hn : L.length + 2 ≤ 40) (x : Int32) : ∃ G' : am_G, am_frx G G' ∧ am_rtr G' (L ++ (am_vl f x n).2) ∧ am_CD X (D + 4) 199 [.ref 114, .int (nI f), .int x] (am_L0 q, G) = some (some (.int (am_vl f x n).1), (am_L0 q, G')) := by
  match f, hf with
  | 0, _ => exact am_w199_0 (X := X) (D := D + 2) (q := q) hk6 hk hL (by omega) x
  | 1, _ => exact am_w199_1 (X := X) (D := D + 1) (q := q) hk6 hk hL (by omega) x
  | 2, _ => exact am_w199_2 (X := X) (D := D + 1) (q := q) hk6 hk hL (by omega) x
  | 3, _ => exact am_w199_3 (X := X) (D := D + 1) (q := q) hk6 hk hL (by omega) x
  | 4, _ => exact am_w199_4 (X := X) (D := D + 0) (q := q) hk6 hk hL (by omega) x
  | 5, _ => exact am_w199_5 (X := X) (D := D + 0) (q := q) hk6 hk hL (by omega) x
  | 6, _ => exact am_w199_6 (X := X) (D := D + 0) (q := q) hk6 hk hL (by omega) x
theorem am_w200_0 {G : am_G} {L : List Int32} (hk6 : k ≤ 6) (hk : am_vq G k n m) (hL : am_rtr G L) (hn : L.length + 1 ≤ 40) (x : Int32) : ∃ G' : am_G, am_frx G G' ∧ am_rtr G' (L ++ (am_vdn 0 x n m).2) ∧ am_CD X (D + 2) 200 [.ref 114, .int (nI 0), .int x] (am_L0 q, G) = some (some (.int (am_vdn 0 x n m).1), (am_L0 q, G')) := by
  obtain ⟨G1, f1, c1, g1⟩ := am_m198 (X := X) (D := D) (q := q) hL (by omega) 12
  have kn := (hk.fr f1).2.2
  refine ⟨G1, f1, c1, ?_⟩
  refine am_CD_of (M := am_N200) rfl rfl ?_
  show am_Rn _ _ ((Option.some FieldType.int)) am_J200 0 [some (.ref 114), some (.int (nI 0)), some (.int x)] [] (am_L0 q, G) _
  simp only [am_s200_0, am_s200_1, am_s200_4, am_s200_5, am_s200_7, am_s200_10, am_s200_11, am_s200_12, am_s200_15, am_s200_16, am_s200_17, am_s200_18, am_s200_19, am_s200_22, am_s200_23, am_s200_25, am_s200_28, am_s200_29, am_s200_30, am_s200_31, am_s200_34, am_s200_35, am_s200_36, am_s200_37, am_s200_39, am_s200_42, am_s200_43, am_s200_45, am_s200_48, am_s200_49, am_s200_50, am_s200_51, am_s200_54, am_s200_55, am_s200_58, am_s200_59, am_s200_60, am_s200_61, am_s200_62, am_s200_65, am_s200_66, am_s200_69, show (nI 0 = 0) = True by decide, show (nI 0 = 3) = False by decide, show (nI 0 = 6) = False by decide, not_true_eq_false, not_false_eq_true, am_cal_ok am_cat_0 am_v114 (g1), am_f114_28, kn, eq_self, am_os_some, Option.toList_some, Option.toList_none, List.cons_append, List.nil_append, if_true, if_false, true_and, am_nw1_i, am_nw1_r, am_nw1_n, cond_true]
  all_goals rfl
theorem am_w200_3 {G : am_G} {L : List Int32} (hk6 : k ≤ 6) (hk : am_vq G k n m) (hL : am_rtr G L) (hn : L.length + 2 ≤ 40) (x : Int32) : ∃ G' : am_G, am_frx G G' ∧ am_rtr G' (L ++ (am_vdn 3 x n m).2) ∧ am_CD X (D + 3) 200 [.ref 114, .int (nI 3), .int x] (am_L0 q, G) = some (some (.int (am_vdn 3 x n m).1), (am_L0 q, G')) := by
  obtain ⟨G1, f1, c1, g1⟩ := am_m198 (X := X) (D := D + 1) (q := q) hL (by omega) 40
  obtain ⟨G2, f2, c2, g2⟩ := am_w200_0 (X := X) (D := D) (q := q) hk6 (hk.fr f1) c1 (by rw [List.length_append]; simp; omega) x
  have g2' : am_CD X (D + 2) 200 [.ref 114, .int 0, .int x] (am_L0 q, G1) = some (some (.int (x - m)), (am_L0 q, G2)) := g2
  rw [List.append_assoc] at c2
  refine ⟨G2, f1.tr f2, c2, ?_⟩
  refine am_CD_of (M := am_N200) rfl rfl ?_
  show am_Rn _ _ ((Option.some FieldType.int)) am_J200 0 [some (.ref 114), some (.int (nI 3)), some (.int x)] [] (am_L0 q, G) _
  simp only [am_s200_0, am_s200_1, am_s200_4, am_s200_5, am_s200_7, am_s200_10, am_s200_11, am_s200_12, am_s200_15, am_s200_16, am_s200_17, am_s200_18, am_s200_19, am_s200_22, am_s200_23, am_s200_25, am_s200_28, am_s200_29, am_s200_30, am_s200_31, am_s200_34, am_s200_35, am_s200_36, am_s200_37, am_s200_39, am_s200_42, am_s200_43, am_s200_45, am_s200_48, am_s200_49, am_s200_50, am_s200_51, am_s200_54, am_s200_55, am_s200_58, am_s200_59, am_s200_60, am_s200_61, am_s200_62, am_s200_65, am_s200_66, am_s200_69, show (nI 3 = 0) = False by decide, show (nI 3 = 3) = True by decide, show (nI 3 = 6) = False by decide, not_true_eq_false, not_false_eq_true, am_cal_ok am_cat_0 am_v114 (g1), am_cal_ok am_cat_0 am_v114 (g2'), eq_self, am_os_some, Option.toList_some, Option.toList_none, List.cons_append, List.nil_append, if_true, if_false, true_and, am_nw1_i, am_nw1_r, am_nw1_n, cond_true]
  all_goals rfl
theorem am_w200_6 {G : am_G} {L : List Int32} (hk6 : k ≤ 6) (hk : am_vq G k n m) (hL : am_rtr G L) (hn : L.length + 3 ≤ 40) (x : Int32) : ∃ G' : am_G, am_frx G G' ∧ am_rtr G' (L ++ (am_vdn 6 x n m).2) ∧ am_CD X (D + 4) 200 [.ref 114, .int (nI 6), .int x] (am_L0 q, G) = some (some (.int (am_vdn 6 x n m).1), (am_L0 q, G')) := by
  obtain ⟨G1, f1, c1, g1⟩ := am_m198 (X := X) (D := D + 2) (q := q) hL (by omega) 70
  obtain ⟨G2, f2, c2, g2⟩ := am_w200_3 (X := X) (D := D) (q := q) hk6 (hk.fr f1) c1 (by rw [List.length_append]; simp; omega) x
  have g2' : am_CD X (D + 3) 200 [.ref 114, .int 3, .int x] (am_L0 q, G1) = some (some (.int (-(x - m))), (am_L0 q, G2)) := g2
  have kn := ((hk.fr f1).fr f2).2.1
  rw [List.append_assoc] at c2
  refine ⟨G2, f1.tr f2, c2, ?_⟩
  refine am_CD_of (M := am_N200) rfl rfl ?_
  show am_Rn _ _ ((Option.some FieldType.int)) am_J200 0 [some (.ref 114), some (.int (nI 6)), some (.int x)] [] (am_L0 q, G) _
  simp only [am_s200_0, am_s200_1, am_s200_4, am_s200_5, am_s200_7, am_s200_10, am_s200_11, am_s200_12, am_s200_15, am_s200_16, am_s200_17, am_s200_18, am_s200_19, am_s200_22, am_s200_23, am_s200_25, am_s200_28, am_s200_29, am_s200_30, am_s200_31, am_s200_34, am_s200_35, am_s200_36, am_s200_37, am_s200_39, am_s200_42, am_s200_43, am_s200_45, am_s200_48, am_s200_49, am_s200_50, am_s200_51, am_s200_54, am_s200_55, am_s200_58, am_s200_59, am_s200_60, am_s200_61, am_s200_62, am_s200_65, am_s200_66, am_s200_69, show (nI 6 = 0) = False by decide, show (nI 6 = 3) = False by decide, show (nI 6 = 6) = True by decide, not_true_eq_false, not_false_eq_true, am_cal_ok am_cat_0 am_v114 (g1), am_cal_ok am_cat_0 am_v114 (g2'), am_f114_27, kn, eq_self, am_os_some, Option.toList_some, Option.toList_none, List.cons_append, List.nil_append, if_true, if_false, true_and, am_nw1_i, am_nw1_r, am_nw1_n, cond_true]
  all_goals rfl
theorem am_w200_1 {G : am_G} {L : List Int32} (hk6 : k ≤ 6) (hk : am_vq G k n m) (hL : am_rtr G L) (hn : L.length + 1 ≤ 40) (x : Int32) : ∃ G' : am_G, am_frx G G' ∧ am_rtr G' (L ++ (am_vdn 1 x n m).2) ∧ am_CD X (D + 3) 200 [.ref 114, .int (nI 1), .int x] (am_L0 q, G) = some (some (.int (am_vdn 1 x n m).1), (am_L0 q, G')) := by
  obtain ⟨G1, f1, c1, g1⟩ := am_w200_0 (X := X) (D := D) (q := q) hk6 hk hL hn x
  have ea : am_above 1 = nI 0 := by decide +kernel
  have g142 := am_m142 (X := X) (D := D + 1) (k := 1) (by decide) (w := (am_L0 q, G))
  rw [ea] at g142
  refine ⟨G1, f1, c1, ?_⟩
  refine am_CD_of (M := am_N200) rfl rfl ?_
  show am_Rn _ _ ((Option.some FieldType.int)) am_J200 0 [some (.ref 114), some (.int (nI 1)), some (.int x)] [] (am_L0 q, G) _
  simp only [am_s200_0, am_s200_1, am_s200_4, am_s200_5, am_s200_7, am_s200_10, am_s200_11, am_s200_12, am_s200_15, am_s200_16, am_s200_17, am_s200_18, am_s200_19, am_s200_22, am_s200_23, am_s200_25, am_s200_28, am_s200_29, am_s200_30, am_s200_31, am_s200_34, am_s200_35, am_s200_36, am_s200_37, am_s200_39, am_s200_42, am_s200_43, am_s200_45, am_s200_48, am_s200_49, am_s200_50, am_s200_51, am_s200_54, am_s200_55, am_s200_58, am_s200_59, am_s200_60, am_s200_61, am_s200_62, am_s200_65, am_s200_66, am_s200_69, show (nI 1 = 0) = False by decide, show (nI 1 = 3) = False by decide, show (nI 1 = 6) = False by decide, not_true_eq_false, not_false_eq_true, am_cal_ok (am_cat_1 _) am_rcv_f (g142), am_cal_ok am_cat_0 am_v114 (g1), eq_self, am_os_some, Option.toList_some, Option.toList_none, List.cons_append, List.nil_append, if_true, if_false, true_and, am_nw1_i, am_nw1_r, am_nw1_n, cond_true]
  all_goals rfl
theorem am_w200_2 {G : am_G} {L : List Int32} (hk6 : k ≤ 6) (hk : am_vq G k n m) (hL : am_rtr G L) (hn : L.length + 1 ≤ 40) (x : Int32) : ∃ G' : am_G, am_frx G G' ∧ am_rtr G' (L ++ (am_vdn 2 x n m).2) ∧ am_CD X (D + 3) 200 [.ref 114, .int (nI 2), .int x] (am_L0 q, G) = some (some (.int (am_vdn 2 x n m).1), (am_L0 q, G')) := by
  obtain ⟨G1, f1, c1, g1⟩ := am_w200_0 (X := X) (D := D) (q := q) hk6 hk hL hn x
  have ea : am_above 2 = nI 0 := by decide +kernel
  have g142 := am_m142 (X := X) (D := D + 1) (k := 2) (by decide) (w := (am_L0 q, G))
  rw [ea] at g142
  refine ⟨G1, f1, c1, ?_⟩
  refine am_CD_of (M := am_N200) rfl rfl ?_
  show am_Rn _ _ ((Option.some FieldType.int)) am_J200 0 [some (.ref 114), some (.int (nI 2)), some (.int x)] [] (am_L0 q, G) _
  simp only [am_s200_0, am_s200_1, am_s200_4, am_s200_5, am_s200_7, am_s200_10, am_s200_11, am_s200_12, am_s200_15, am_s200_16, am_s200_17, am_s200_18, am_s200_19, am_s200_22, am_s200_23, am_s200_25, am_s200_28, am_s200_29, am_s200_30, am_s200_31, am_s200_34, am_s200_35, am_s200_36, am_s200_37, am_s200_39, am_s200_42, am_s200_43, am_s200_45, am_s200_48, am_s200_49, am_s200_50, am_s200_51, am_s200_54, am_s200_55, am_s200_58, am_s200_59, am_s200_60, am_s200_61, am_s200_62, am_s200_65, am_s200_66, am_s200_69, show (nI 2 = 0) = False by decide, show (nI 2 = 3) = False by decide, show (nI 2 = 6) = False by decide, not_true_eq_false, not_false_eq_true, am_cal_ok (am_cat_1 _) am_rcv_f (g142), am_cal_ok am_cat_0 am_v114 (g1), eq_self, am_os_some, Option.toList_some, Option.toList_none, List.cons_append, List.nil_append, if_true, if_false, true_and, am_nw1_i, am_nw1_r, am_nw1_n, cond_true]
  all_goals rfl
theorem am_w200_4 {G : am_G} {L : List Int32} (hk6 : k ≤ 6) (hk : am_vq G k n m) (hL : am_rtr G L) (hn : L.length + 1 ≤ 40) (x : Int32) : ∃ G' : am_G, am_frx G G' ∧ am_rtr G' (L ++ (am_vdn 4 x n m).2) ∧ am_CD X (D + 4) 200 [.ref 114, .int (nI 4), .int x] (am_L0 q, G) = some (some (.int (am_vdn 4 x n m).1), (am_L0 q, G')) := by
  obtain ⟨G1, f1, c1, g1⟩ := am_w200_1 (X := X) (D := D) (q := q) hk6 hk hL hn x
  have ea : am_above 4 = nI 1 := by decide +kernel
  have g142 := am_m142 (X := X) (D := D + 2) (k := 4) (by decide) (w := (am_L0 q, G))
  rw [ea] at g142
  refine ⟨G1, f1, c1, ?_⟩
  refine am_CD_of (M := am_N200) rfl rfl ?_
  show am_Rn _ _ ((Option.some FieldType.int)) am_J200 0 [some (.ref 114), some (.int (nI 4)), some (.int x)] [] (am_L0 q, G) _
  simp only [am_s200_0, am_s200_1, am_s200_4, am_s200_5, am_s200_7, am_s200_10, am_s200_11, am_s200_12, am_s200_15, am_s200_16, am_s200_17, am_s200_18, am_s200_19, am_s200_22, am_s200_23, am_s200_25, am_s200_28, am_s200_29, am_s200_30, am_s200_31, am_s200_34, am_s200_35, am_s200_36, am_s200_37, am_s200_39, am_s200_42, am_s200_43, am_s200_45, am_s200_48, am_s200_49, am_s200_50, am_s200_51, am_s200_54, am_s200_55, am_s200_58, am_s200_59, am_s200_60, am_s200_61, am_s200_62, am_s200_65, am_s200_66, am_s200_69, show (nI 4 = 0) = False by decide, show (nI 4 = 3) = False by decide, show (nI 4 = 6) = False by decide, not_true_eq_false, not_false_eq_true, am_cal_ok (am_cat_1 _) am_rcv_f (g142), am_cal_ok am_cat_0 am_v114 (g1), eq_self, am_os_some, Option.toList_some, Option.toList_none, List.cons_append, List.nil_append, if_true, if_false, true_and, am_nw1_i, am_nw1_r, am_nw1_n, cond_true]
  all_goals rfl
theorem am_w200_5 {G : am_G} {L : List Int32} (hk6 : k ≤ 6) (hk : am_vq G k n m) (hL : am_rtr G L) (hn : L.length + 1 ≤ 40) (x : Int32) : ∃ G' : am_G, am_frx G G' ∧ am_rtr G' (L ++ (am_vdn 5 x n m).2) ∧ am_CD X (D + 4) 200 [.ref 114, .int (nI 5), .int x] (am_L0 q, G) = some (some (.int (am_vdn 5 x n m).1), (am_L0 q, G')) := by
  obtain ⟨G1, f1, c1, g1⟩ := am_w200_2 (X := X) (D := D) (q := q) hk6 hk hL hn x
  have ea : am_above 5 = nI 2 := by decide +kernel
  have g142 := am_m142 (X := X) (D := D + 2) (k := 5) (by decide) (w := (am_L0 q, G))
  rw [ea] at g142
  refine ⟨G1, f1, c1, ?_⟩
  refine am_CD_of (M := am_N200) rfl rfl ?_
  show am_Rn _ _ ((Option.some FieldType.int)) am_J200 0 [some (.ref 114), some (.int (nI 5)), some (.int x)] [] (am_L0 q, G) _
  simp only [am_s200_0, am_s200_1, am_s200_4, am_s200_5, am_s200_7, am_s200_10, am_s200_11, am_s200_12, am_s200_15, am_s200_16, am_s200_17, am_s200_18, am_s200_19, am_s200_22, am_s200_23, am_s200_25, am_s200_28, am_s200_29, am_s200_30, am_s200_31, am_s200_34, am_s200_35, am_s200_36, am_s200_37, am_s200_39, am_s200_42, am_s200_43, am_s200_45, am_s200_48, am_s200_49, am_s200_50, am_s200_51, am_s200_54, am_s200_55, am_s200_58, am_s200_59, am_s200_60, am_s200_61, am_s200_62, am_s200_65, am_s200_66, am_s200_69, show (nI 5 = 0) = False by decide, show (nI 5 = 3) = False by decide, show (nI 5 = 6) = False by decide, not_true_eq_false, not_false_eq_true, am_cal_ok (am_cat_1 _) am_rcv_f (g142), am_cal_ok am_cat_0 am_v114 (g1), eq_self, am_os_some, Option.toList_some, Option.toList_none, List.cons_append, List.nil_append, if_true, if_false, true_and, am_nw1_i, am_nw1_r, am_nw1_n, cond_true]
  all_goals rfl
theorem am_m200 {G : am_G} {L : List Int32} {f : Nat} (hf : f ≤ 6) (hk6 : k ≤ 6) (hk : am_vq G k n m) (hL : am_rtr G L) (hn : L.length + 3 ≤ 40) (x : Int32) : ∃ G' : am_G, am_frx G G' ∧ am_rtr G' (L ++ (am_vdn f x n m).2) ∧ am_CD X (D + 4) 200 [.ref 114, .int (nI f), .int x] (am_L0 q, G) = some (some (.int (am_vdn f x n m).1), (am_L0 q, G')) := by
  match f, hf with
  | 0, _ => exact am_w200_0 (X := X) (D := D + 2) (q := q) hk6 hk hL (by omega) x
  | 1, _ => exact am_w200_1 (X := X) (D := D + 1) (q := q) hk6 hk hL (by omega) x
  | 2, _ => exact am_w200_2 (X := X) (D := D + 1) (q := q) hk6 hk hL (by omega) x
  | 3, _ => exact am_w200_3 (X := X) (D := D + 1) (q := q) hk6 hk hL (by omega) x
  | 4, _ => exact am_w200_4 (X := X) (D := D + 0) (q := q) hk6 hk hL (by omega) x
  | 5, _ => exact am_w200_5 (X := X) (D := D + 0) (q := q) hk6 hk hL (by omega) x
  | 6, _ => exact am_w200_6 (X := X) (D := D + 0) (q := q) hk6 hk hL (by omega) x
theorem am_w201_0 {G : am_G} {L : List Int32} (hk6 : k ≤ 6) (hk : am_vq G k n m) (hL : am_rtr G L) (hn : L.length + 3 ≤ 40) (x : Int32) : ∃ G' : am_G, am_frx G G' ∧ am_rtr G' (L ++ (am_vf k 0 x n m).2) ∧ am_CD X (D + 5) 201 [.ref 114, .int (nI 0), .int x] (am_L0 q, G) = some (some (.int (am_vf k 0 x n m).1), (am_L0 q, G')) := by
  have ev : am_vf k 0 x n m = am_vo k x n := rfl
  rw [ev]
  obtain ⟨G1, f1, c1, g1⟩ := am_m198 (X := X) (D := D + 3) (q := q) hL (by omega) 11
  have kk := (hk.fr f1).1
  obtain ⟨G2, f2, c2, g2⟩ := am_m199 (X := X) (D := D) (q := q) hk6 hk6 (hk.fr f1) c1 (by rw [List.length_append]; simp; omega) x
  rw [List.append_assoc] at c2
  refine ⟨G2, f1.tr f2, c2, ?_⟩
  refine am_CD_of (M := am_N201) rfl rfl ?_
  show am_Rn _ _ ((Option.some FieldType.int)) am_J201 0 [some (.ref 114), some (.int (nI 0)), some (.int x), none] [] (am_L0 q, G) _
  simp only [am_s201_0, am_s201_1, am_s201_4, am_s201_5, am_s201_7, am_s201_10, am_s201_11, am_s201_12, am_s201_15, am_s201_16, am_s201_19, am_s201_20, am_s201_21, am_s201_22, am_s201_23, am_s201_24, am_s201_27, am_s201_28, am_s201_30, am_s201_33, am_s201_34, am_s201_35, am_s201_36, am_s201_39, am_s201_40, am_s201_41, am_s201_42, am_s201_43, am_s201_46, am_s201_47, am_s201_50, am_s201_51, am_s201_52, am_s201_53, am_s201_54, am_s201_57, am_s201_58, am_s201_60, am_s201_63, am_s201_64, am_s201_65, am_s201_66, am_s201_67, am_s201_68, am_s201_71, am_s201_72, am_s201_73, am_s201_74, am_s201_77, am_s201_78, am_s201_81, show (nI 0 = 0) = True by decide, show (nI 0 = 2) = False by decide, show (nI 0 = 5) = False by decide, not_true_eq_false, not_false_eq_true, am_cal_ok am_cat_0 am_v114 (g1), am_f114_26, kk, am_cal_ok am_cat_0 am_v114 (g2), eq_self, am_os_some, Option.toList_some, Option.toList_none, List.cons_append, List.nil_append, if_true, if_false, true_and, am_nw1_i, am_nw1_r, am_nw1_n, cond_true]
  all_goals rfl
theorem am_w201_2 {G : am_G} {L : List Int32} (hk6 : k ≤ 6) (hk : am_vq G k n m) (hL : am_rtr G L) (hn : L.length + 7 ≤ 40) (x : Int32) : ∃ G' : am_G, am_frx G G' ∧ am_rtr G' (L ++ (am_vf k 2 x n m).2) ∧ am_CD X (D + 6) 201 [.ref 114, .int (nI 2), .int x] (am_L0 q, G) = some (some (.int (am_vf k 2 x n m).1), (am_L0 q, G')) := by
  have ev : am_vf k 2 x n m = am_vp k x n m := rfl
  have ev0 : am_vf k 0 x n m = am_vo k x n := rfl
  rw [ev]
  have lo := am_vo_len k x n
  obtain ⟨G1, f1, c1, g1⟩ := am_m198 (X := X) (D := D + 4) (q := q) hL (by omega) 30
  obtain ⟨G2, f2, c2, g2⟩ := am_w201_0 (X := X) (D := D) (q := q) hk6 (hk.fr f1) c1 (by rw [List.length_append]; simp; omega) x
  rw [ev0] at c2 g2
  have g2' : am_CD X (D + 5) 201 [.ref 114, .int 0, .int x] (am_L0 q, G1) = some (some (.int (am_vo k x n).1), (am_L0 q, G2)) := g2
  have kk := ((hk.fr f1).fr f2).1
  obtain ⟨G3, f3, c3, g3⟩ := am_m200 (X := X) (D := D + 1) (q := q) hk6 hk6 ((hk.fr f1).fr f2) c2 (by simp only [List.length_append, List.length_singleton]; omega) 1
  rw [List.append_assoc, List.append_assoc] at c3
  refine ⟨G3, (f1.tr f2).tr f3, c3, ?_⟩
  refine am_CD_of (M := am_N201) rfl rfl ?_
  show am_Rn _ _ ((Option.some FieldType.int)) am_J201 0 [some (.ref 114), some (.int (nI 2)), some (.int x), none] [] (am_L0 q, G) _
  simp only [am_s201_0, am_s201_1, am_s201_4, am_s201_5, am_s201_7, am_s201_10, am_s201_11, am_s201_12, am_s201_15, am_s201_16, am_s201_19, am_s201_20, am_s201_21, am_s201_22, am_s201_23, am_s201_24, am_s201_27, am_s201_28, am_s201_30, am_s201_33, am_s201_34, am_s201_35, am_s201_36, am_s201_39, am_s201_40, am_s201_41, am_s201_42, am_s201_43, am_s201_46, am_s201_47, am_s201_50, am_s201_51, am_s201_52, am_s201_53, am_s201_54, am_s201_57, am_s201_58, am_s201_60, am_s201_63, am_s201_64, am_s201_65, am_s201_66, am_s201_67, am_s201_68, am_s201_71, am_s201_72, am_s201_73, am_s201_74, am_s201_77, am_s201_78, am_s201_81, show (nI 2 = 0) = False by decide, show (nI 2 = 2) = True by decide, show (nI 2 = 5) = False by decide, not_true_eq_false, not_false_eq_true, am_cal_ok am_cat_0 am_v114 (g1), am_cal_ok am_cat_0 am_v114 (g2'), am_f114_26, kk, am_cal_ok (am_cat_1 _) am_v114 (g3), eq_self, am_os_some, Option.toList_some, Option.toList_none, List.cons_append, List.nil_append, if_true, if_false, true_and, am_nw1_i, am_nw1_r, am_nw1_n, cond_true]
  all_goals rfl
theorem am_w201_5 {G : am_G} {L : List Int32} (hk6 : k ≤ 6) (hk : am_vq G k n m) (hL : am_rtr G L) (hn : L.length + 8 ≤ 40) (x : Int32) : ∃ G' : am_G, am_frx G G' ∧ am_rtr G' (L ++ (am_vf k 5 x n m).2) ∧ am_CD X (D + 7) 201 [.ref 114, .int (nI 5), .int x] (am_L0 q, G) = some (some (.int (am_vf k 5 x n m).1), (am_L0 q, G')) := by
  have ev : am_vf k 5 x n m = ((am_vp k (x + 1) n m).1, 60 :: (am_vp k (x + 1) n m).2) := rfl
  have ev2 : am_vf k 2 (x + 1) n m = am_vp k (x + 1) n m := rfl
  rw [ev]
  obtain ⟨G1, f1, c1, g1⟩ := am_m198 (X := X) (D := D + 5) (q := q) hL (by omega) 60
  obtain ⟨G2, f2, c2, g2⟩ := am_w201_2 (X := X) (D := D) (q := q) hk6 (hk.fr f1) c1 (by rw [List.length_append]; simp; omega) (x + 1)
  rw [ev2] at c2 g2
  have g2' : am_CD X (D + 6) 201 [.ref 114, .int 2, .int (x + 1)] (am_L0 q, G1) = some (some (.int (am_vp k (x + 1) n m).1), (am_L0 q, G2)) := g2
  rw [List.append_assoc] at c2
  refine ⟨G2, f1.tr f2, c2, ?_⟩
  refine am_CD_of (M := am_N201) rfl rfl ?_
  show am_Rn _ _ ((Option.some FieldType.int)) am_J201 0 [some (.ref 114), some (.int (nI 5)), some (.int x), none] [] (am_L0 q, G) _
  simp only [am_s201_0, am_s201_1, am_s201_4, am_s201_5, am_s201_7, am_s201_10, am_s201_11, am_s201_12, am_s201_15, am_s201_16, am_s201_19, am_s201_20, am_s201_21, am_s201_22, am_s201_23, am_s201_24, am_s201_27, am_s201_28, am_s201_30, am_s201_33, am_s201_34, am_s201_35, am_s201_36, am_s201_39, am_s201_40, am_s201_41, am_s201_42, am_s201_43, am_s201_46, am_s201_47, am_s201_50, am_s201_51, am_s201_52, am_s201_53, am_s201_54, am_s201_57, am_s201_58, am_s201_60, am_s201_63, am_s201_64, am_s201_65, am_s201_66, am_s201_67, am_s201_68, am_s201_71, am_s201_72, am_s201_73, am_s201_74, am_s201_77, am_s201_78, am_s201_81, show (nI 5 = 0) = False by decide, show (nI 5 = 2) = False by decide, show (nI 5 = 5) = True by decide, not_true_eq_false, not_false_eq_true, am_cal_ok am_cat_0 am_v114 (g1), am_cal_ok am_cat_0 am_v114 (g2'), eq_self, am_os_some, Option.toList_some, Option.toList_none, List.cons_append, List.nil_append, if_true, if_false, true_and, am_nw1_i, am_nw1_r, am_nw1_n, cond_true]
  all_goals rfl
theorem am_w201_1 {G : am_G} {L : List Int32} (hk6 : k ≤ 6) (hk : am_vq G k n m) (hL : am_rtr G L) (hn : L.length + 3 ≤ 40) (x : Int32) : ∃ G' : am_G, am_frx G G' ∧ am_rtr G' (L ++ (am_vf k 1 x n m).2) ∧ am_CD X (D + 6) 201 [.ref 114, .int (nI 1), .int x] (am_L0 q, G) = some (some (.int (am_vf k 1 x n m).1), (am_L0 q, G')) := by
  obtain ⟨G1, f1, c1, g1⟩ := am_w201_0 (X := X) (D := D) (q := q) hk6 hk hL hn x
  have ea : am_above 1 = nI 0 := by decide +kernel
  have g142 := am_m142 (X := X) (D := D + 4) (k := 1) (by decide) (w := (am_L0 q, G))
  rw [ea] at g142
  refine ⟨G1, f1, c1, ?_⟩
  refine am_CD_of (M := am_N201) rfl rfl ?_
  show am_Rn _ _ ((Option.some FieldType.int)) am_J201 0 [some (.ref 114), some (.int (nI 1)), some (.int x), none] [] (am_L0 q, G) _
  simp only [am_s201_0, am_s201_1, am_s201_4, am_s201_5, am_s201_7, am_s201_10, am_s201_11, am_s201_12, am_s201_15, am_s201_16, am_s201_19, am_s201_20, am_s201_21, am_s201_22, am_s201_23, am_s201_24, am_s201_27, am_s201_28, am_s201_30, am_s201_33, am_s201_34, am_s201_35, am_s201_36, am_s201_39, am_s201_40, am_s201_41, am_s201_42, am_s201_43, am_s201_46, am_s201_47, am_s201_50, am_s201_51, am_s201_52, am_s201_53, am_s201_54, am_s201_57, am_s201_58, am_s201_60, am_s201_63, am_s201_64, am_s201_65, am_s201_66, am_s201_67, am_s201_68, am_s201_71, am_s201_72, am_s201_73, am_s201_74, am_s201_77, am_s201_78, am_s201_81, show (nI 1 = 0) = False by decide, show (nI 1 = 2) = False by decide, show (nI 1 = 5) = False by decide, not_true_eq_false, not_false_eq_true, am_cal_ok (am_cat_1 _) am_rcv_f (g142), am_cal_ok am_cat_0 am_v114 (g1), eq_self, am_os_some, Option.toList_some, Option.toList_none, List.cons_append, List.nil_append, if_true, if_false, true_and, am_nw1_i, am_nw1_r, am_nw1_n, cond_true]
  all_goals rfl
theorem am_w201_3 {G : am_G} {L : List Int32} (hk6 : k ≤ 6) (hk : am_vq G k n m) (hL : am_rtr G L) (hn : L.length + 3 ≤ 40) (x : Int32) : ∃ G' : am_G, am_frx G G' ∧ am_rtr G' (L ++ (am_vf k 3 x n m).2) ∧ am_CD X (D + 6) 201 [.ref 114, .int (nI 3), .int x] (am_L0 q, G) = some (some (.int (am_vf k 3 x n m).1), (am_L0 q, G')) := by
  obtain ⟨G1, f1, c1, g1⟩ := am_w201_0 (X := X) (D := D) (q := q) hk6 hk hL hn x
  have ea : am_above 3 = nI 0 := by decide +kernel
  have g142 := am_m142 (X := X) (D := D + 4) (k := 3) (by decide) (w := (am_L0 q, G))
  rw [ea] at g142
  refine ⟨G1, f1, c1, ?_⟩
  refine am_CD_of (M := am_N201) rfl rfl ?_
  show am_Rn _ _ ((Option.some FieldType.int)) am_J201 0 [some (.ref 114), some (.int (nI 3)), some (.int x), none] [] (am_L0 q, G) _
  simp only [am_s201_0, am_s201_1, am_s201_4, am_s201_5, am_s201_7, am_s201_10, am_s201_11, am_s201_12, am_s201_15, am_s201_16, am_s201_19, am_s201_20, am_s201_21, am_s201_22, am_s201_23, am_s201_24, am_s201_27, am_s201_28, am_s201_30, am_s201_33, am_s201_34, am_s201_35, am_s201_36, am_s201_39, am_s201_40, am_s201_41, am_s201_42, am_s201_43, am_s201_46, am_s201_47, am_s201_50, am_s201_51, am_s201_52, am_s201_53, am_s201_54, am_s201_57, am_s201_58, am_s201_60, am_s201_63, am_s201_64, am_s201_65, am_s201_66, am_s201_67, am_s201_68, am_s201_71, am_s201_72, am_s201_73, am_s201_74, am_s201_77, am_s201_78, am_s201_81, show (nI 3 = 0) = False by decide, show (nI 3 = 2) = False by decide, show (nI 3 = 5) = False by decide, not_true_eq_false, not_false_eq_true, am_cal_ok (am_cat_1 _) am_rcv_f (g142), am_cal_ok am_cat_0 am_v114 (g1), eq_self, am_os_some, Option.toList_some, Option.toList_none, List.cons_append, List.nil_append, if_true, if_false, true_and, am_nw1_i, am_nw1_r, am_nw1_n, cond_true]
  all_goals rfl
theorem am_w201_4 {G : am_G} {L : List Int32} (hk6 : k ≤ 6) (hk : am_vq G k n m) (hL : am_rtr G L) (hn : L.length + 3 ≤ 40) (x : Int32) : ∃ G' : am_G, am_frx G G' ∧ am_rtr G' (L ++ (am_vf k 4 x n m).2) ∧ am_CD X (D + 7) 201 [.ref 114, .int (nI 4), .int x] (am_L0 q, G) = some (some (.int (am_vf k 4 x n m).1), (am_L0 q, G')) := by
  obtain ⟨G1, f1, c1, g1⟩ := am_w201_1 (X := X) (D := D) (q := q) hk6 hk hL hn x
  have ea : am_above 4 = nI 1 := by decide +kernel
  have g142 := am_m142 (X := X) (D := D + 5) (k := 4) (by decide) (w := (am_L0 q, G))
  rw [ea] at g142
  refine ⟨G1, f1, c1, ?_⟩
  refine am_CD_of (M := am_N201) rfl rfl ?_
  show am_Rn _ _ ((Option.some FieldType.int)) am_J201 0 [some (.ref 114), some (.int (nI 4)), some (.int x), none] [] (am_L0 q, G) _
  simp only [am_s201_0, am_s201_1, am_s201_4, am_s201_5, am_s201_7, am_s201_10, am_s201_11, am_s201_12, am_s201_15, am_s201_16, am_s201_19, am_s201_20, am_s201_21, am_s201_22, am_s201_23, am_s201_24, am_s201_27, am_s201_28, am_s201_30, am_s201_33, am_s201_34, am_s201_35, am_s201_36, am_s201_39, am_s201_40, am_s201_41, am_s201_42, am_s201_43, am_s201_46, am_s201_47, am_s201_50, am_s201_51, am_s201_52, am_s201_53, am_s201_54, am_s201_57, am_s201_58, am_s201_60, am_s201_63, am_s201_64, am_s201_65, am_s201_66, am_s201_67, am_s201_68, am_s201_71, am_s201_72, am_s201_73, am_s201_74, am_s201_77, am_s201_78, am_s201_81, show (nI 4 = 0) = False by decide, show (nI 4 = 2) = False by decide, show (nI 4 = 5) = False by decide, not_true_eq_false, not_false_eq_true, am_cal_ok (am_cat_1 _) am_rcv_f (g142), am_cal_ok am_cat_0 am_v114 (g1), eq_self, am_os_some, Option.toList_some, Option.toList_none, List.cons_append, List.nil_append, if_true, if_false, true_and, am_nw1_i, am_nw1_r, am_nw1_n, cond_true]
  all_goals rfl
theorem am_w201_6 {G : am_G} {L : List Int32} (hk6 : k ≤ 6) (hk : am_vq G k n m) (hL : am_rtr G L) (hn : L.length + 3 ≤ 40) (x : Int32) : ∃ G' : am_G, am_frx G G' ∧ am_rtr G' (L ++ (am_vf k 6 x n m).2) ∧ am_CD X (D + 7) 201 [.ref 114, .int (nI 6), .int x] (am_L0 q, G) = some (some (.int (am_vf k 6 x n m).1), (am_L0 q, G')) := by
  obtain ⟨G1, f1, c1, g1⟩ := am_w201_3 (X := X) (D := D) (q := q) hk6 hk hL hn x
  have ea : am_above 6 = nI 3 := by decide +kernel
  have g142 := am_m142 (X := X) (D := D + 5) (k := 6) (by decide) (w := (am_L0 q, G))
  rw [ea] at g142
  refine ⟨G1, f1, c1, ?_⟩
  refine am_CD_of (M := am_N201) rfl rfl ?_
  show am_Rn _ _ ((Option.some FieldType.int)) am_J201 0 [some (.ref 114), some (.int (nI 6)), some (.int x), none] [] (am_L0 q, G) _
  simp only [am_s201_0, am_s201_1, am_s201_4, am_s201_5, am_s201_7, am_s201_10, am_s201_11, am_s201_12, am_s201_15, am_s201_16, am_s201_19, am_s201_20, am_s201_21, am_s201_22, am_s201_23, am_s201_24, am_s201_27, am_s201_28, am_s201_30, am_s201_33, am_s201_34, am_s201_35, am_s201_36, am_s201_39, am_s201_40, am_s201_41, am_s201_42, am_s201_43, am_s201_46, am_s201_47, am_s201_50, am_s201_51, am_s201_52, am_s201_53, am_s201_54, am_s201_57, am_s201_58, am_s201_60, am_s201_63, am_s201_64, am_s201_65, am_s201_66, am_s201_67, am_s201_68, am_s201_71, am_s201_72, am_s201_73, am_s201_74, am_s201_77, am_s201_78, am_s201_81, show (nI 6 = 0) = False by decide, show (nI 6 = 2) = False by decide, show (nI 6 = 5) = False by decide, not_true_eq_false, not_false_eq_true, am_cal_ok (am_cat_1 _) am_rcv_f (g142), am_cal_ok am_cat_0 am_v114 (g1), eq_self, am_os_some, Option.toList_some, Option.toList_none, List.cons_append, List.nil_append, if_true, if_false, true_and, am_nw1_i, am_nw1_r, am_nw1_n, cond_true]
  all_goals rfl
theorem am_m201 {G : am_G} {L : List Int32} {f : Nat} (hf : f ≤ 6) (hk6 : k ≤ 6) (hk : am_vq G k n m) (hL : am_rtr G L) (hn : L.length + 8 ≤ 40) (x : Int32) : ∃ G' : am_G, am_frx G G' ∧ am_rtr G' (L ++ (am_vf k f x n m).2) ∧ am_CD X (D + 7) 201 [.ref 114, .int (nI f), .int x] (am_L0 q, G) = some (some (.int (am_vf k f x n m).1), (am_L0 q, G')) := by
  match f, hf with
  | 0, _ => exact am_w201_0 (X := X) (D := D + 2) (q := q) hk6 hk hL (by omega) x
  | 1, _ => exact am_w201_1 (X := X) (D := D + 1) (q := q) hk6 hk hL (by omega) x
  | 2, _ => exact am_w201_2 (X := X) (D := D + 1) (q := q) hk6 hk hL (by omega) x
  | 3, _ => exact am_w201_3 (X := X) (D := D + 1) (q := q) hk6 hk hL (by omega) x
  | 4, _ => exact am_w201_4 (X := X) (D := D + 0) (q := q) hk6 hk hL (by omega) x
  | 5, _ => exact am_w201_5 (X := X) (D := D + 0) (q := q) hk6 hk hL (by omega) x
  | 6, _ => exact am_w201_6 (X := X) (D := D + 0) (q := q) hk6 hk hL (by omega) x
theorem am_w202_0 {G : am_G} {L : List Int32} (hk6 : k ≤ 6) (hk : am_vq G k n m) (hL : am_rtr G L) (hn : L.length + 12 ≤ 40) (x : Int32) : ∃ G' : am_G, am_frx G G' ∧ am_rtr G' (L ++ (am_vt k 0 x n m).2) ∧ am_CD X (D + 8) 202 [.ref 114, .int (nI 0), .int x] (am_L0 q, G) = some (some (.int (am_vt k 0 x n m).1), (am_L0 q, G')) := by
  have ev : am_vt k 0 x n m = am_vb k x n m := rfl
  rw [ev]
  have lf := am_vf_len k k x n m
  obtain ⟨G1, f1, c1, g1⟩ := am_m198 (X := X) (D := D + 6) (q := q) hL (by omega) 13
  have kk1 := (hk.fr f1).1
  obtain ⟨G2, f2, c2, g2⟩ := am_m201 (X := X) (D := D) (q := q) hk6 hk6 (hk.fr f1) c1 (by rw [List.length_append]; simp; omega) x
  have kk := ((hk.fr f1).fr f2).1
  obtain ⟨G3, f3, c3, g3⟩ := am_m200 (X := X) (D := D + 3) (q := q) hk6 hk6 ((hk.fr f1).fr f2) c2 (by simp only [List.length_append, List.length_singleton]; omega) x
  rw [List.append_assoc, List.append_assoc] at c3
  refine ⟨G3, (f1.tr f2).tr f3, c3, ?_⟩
  refine am_CD_of (M := am_N202) rfl rfl ?_
  show am_Rn _ _ ((Option.some FieldType.int)) am_J202 0 [some (.ref 114), some (.int (nI 0)), some (.int x), none] [] (am_L0 q, G) _
  simp only [am_s202_0, am_s202_1, am_s202_4, am_s202_5, am_s202_7, am_s202_10, am_s202_11, am_s202_12, am_s202_15, am_s202_16, am_s202_19, am_s202_20, am_s202_21, am_s202_22, am_s202_23, am_s202_26, am_s202_27, am_s202_30, am_s202_31, am_s202_32, am_s202_33, am_s202_34, am_s202_37, am_s202_38, am_s202_40, am_s202_43, am_s202_44, am_s202_45, am_s202_46, am_s202_49, am_s202_50, am_s202_51, am_s202_52, am_s202_53, am_s202_56, am_s202_57, am_s202_60, am_s202_61, am_s202_62, am_s202_63, am_s202_65, am_s202_68, am_s202_69, am_s202_71, am_s202_74, am_s202_75, am_s202_76, am_s202_79, am_s202_80, am_s202_83, am_s202_84, am_s202_85, am_s202_86, am_s202_87, am_s202_88, am_s202_91, am_s202_92, am_s202_93, am_s202_94, am_s202_95, am_s202_98, am_s202_99, am_s202_102, show (nI 0 = 0) = True by decide, show (nI 0 = 4) = False by decide, show (nI 0 = 6) = False by decide, not_true_eq_false, not_false_eq_true, am_cal_ok am_cat_0 am_v114 (g1), am_f114_26, kk1, am_cal_ok am_cat_0 am_v114 (g2), kk, am_cal_ok (am_cat_1 _) am_v114 (g3), eq_self, am_os_some, Option.toList_some, Option.toList_none, List.cons_append, List.nil_append, if_true, if_false, true_and, am_nw1_i, am_nw1_r, am_nw1_n, cond_true]
  all_goals rfl
theorem am_w202_1 {G : am_G} {L : List Int32} (hk6 : k ≤ 6) (hk : am_vq G k n m) (hL : am_rtr G L) (hn : L.length + 12 ≤ 40) (x : Int32) : ∃ G' : am_G, am_frx G G' ∧ am_rtr G' (L ++ (am_vt k 1 x n m).2) ∧ am_CD X (D + 9) 202 [.ref 114, .int (nI 1), .int x] (am_L0 q, G) = some (some (.int (am_vt k 1 x n m).1), (am_L0 q, G')) := by
  obtain ⟨G1, f1, c1, g1⟩ := am_w202_0 (X := X) (D := D) (q := q) hk6 hk hL hn x
  have ea : am_above 1 = nI 0 := by decide +kernel
  have g142 := am_m142 (X := X) (D := D + 7) (k := 1) (by decide) (w := (am_L0 q, G))
  rw [ea] at g142
  refine ⟨G1, f1, c1, ?_⟩
  refine am_CD_of (M := am_N202) rfl rfl ?_
  show am_Rn _ _ ((Option.some FieldType.int)) am_J202 0 [some (.ref 114), some (.int (nI 1)), some (.int x), none] [] (am_L0 q, G) _
  simp only [am_s202_0, am_s202_1, am_s202_4, am_s202_5, am_s202_7, am_s202_10, am_s202_11, am_s202_12, am_s202_15, am_s202_16, am_s202_19, am_s202_20, am_s202_21, am_s202_22, am_s202_23, am_s202_26, am_s202_27, am_s202_30, am_s202_31, am_s202_32, am_s202_33, am_s202_34, am_s202_37, am_s202_38, am_s202_40, am_s202_43, am_s202_44, am_s202_45, am_s202_46, am_s202_49, am_s202_50, am_s202_51, am_s202_52, am_s202_53, am_s202_56, am_s202_57, am_s202_60, am_s202_61, am_s202_62, am_s202_63, am_s202_65, am_s202_68, am_s202_69, am_s202_71, am_s202_74, am_s202_75, am_s202_76, am_s202_79, am_s202_80, am_s202_83, am_s202_84, am_s202_85, am_s202_86, am_s202_87, am_s202_88, am_s202_91, am_s202_92, am_s202_93, am_s202_94, am_s202_95, am_s202_98, am_s202_99, am_s202_102, show (nI 1 = 0) = False by decide, show (nI 1 = 4) = False by decide, show (nI 1 = 6) = False by decide, not_true_eq_false, not_false_eq_true, am_cal_ok (am_cat_1 _) am_rcv_f (g142), am_cal_ok am_cat_0 am_v114 (g1), eq_self, am_os_some, Option.toList_some, Option.toList_none, List.cons_append, List.nil_append, if_true, if_false, true_and, am_nw1_i, am_nw1_r, am_nw1_n, cond_true]
  all_goals rfl
theorem am_w202_2 {G : am_G} {L : List Int32} (hk6 : k ≤ 6) (hk : am_vq G k n m) (hL : am_rtr G L) (hn : L.length + 12 ≤ 40) (x : Int32) : ∃ G' : am_G, am_frx G G' ∧ am_rtr G' (L ++ (am_vt k 2 x n m).2) ∧ am_CD X (D + 9) 202 [.ref 114, .int (nI 2), .int x] (am_L0 q, G) = some (some (.int (am_vt k 2 x n m).1), (am_L0 q, G')) := by
  obtain ⟨G1, f1, c1, g1⟩ := am_w202_0 (X := X) (D := D) (q := q) hk6 hk hL hn x
  have ea : am_above 2 = nI 0 := by decide +kernel
  have g142 := am_m142 (X := X) (D := D + 7) (k := 2) (by decide) (w := (am_L0 q, G))
  rw [ea] at g142
  refine ⟨G1, f1, c1, ?_⟩
  refine am_CD_of (M := am_N202) rfl rfl ?_
  show am_Rn _ _ ((Option.some FieldType.int)) am_J202 0 [some (.ref 114), some (.int (nI 2)), some (.int x), none] [] (am_L0 q, G) _
  simp only [am_s202_0, am_s202_1, am_s202_4, am_s202_5, am_s202_7, am_s202_10, am_s202_11, am_s202_12, am_s202_15, am_s202_16, am_s202_19, am_s202_20, am_s202_21, am_s202_22, am_s202_23, am_s202_26, am_s202_27, am_s202_30, am_s202_31, am_s202_32, am_s202_33, am_s202_34, am_s202_37, am_s202_38, am_s202_40, am_s202_43, am_s202_44, am_s202_45, am_s202_46, am_s202_49, am_s202_50, am_s202_51, am_s202_52, am_s202_53, am_s202_56, am_s202_57, am_s202_60, am_s202_61, am_s202_62, am_s202_63, am_s202_65, am_s202_68, am_s202_69, am_s202_71, am_s202_74, am_s202_75, am_s202_76, am_s202_79, am_s202_80, am_s202_83, am_s202_84, am_s202_85, am_s202_86, am_s202_87, am_s202_88, am_s202_91, am_s202_92, am_s202_93, am_s202_94, am_s202_95, am_s202_98, am_s202_99, am_s202_102, show (nI 2 = 0) = False by decide, show (nI 2 = 4) = False by decide, show (nI 2 = 6) = False by decide, not_true_eq_false, not_false_eq_true, am_cal_ok (am_cat_1 _) am_rcv_f (g142), am_cal_ok am_cat_0 am_v114 (g1), eq_self, am_os_some, Option.toList_some, Option.toList_none, List.cons_append, List.nil_append, if_true, if_false, true_and, am_nw1_i, am_nw1_r, am_nw1_n, cond_true]
  all_goals rfl
theorem am_w202_3 {G : am_G} {L : List Int32} (hk6 : k ≤ 6) (hk : am_vq G k n m) (hL : am_rtr G L) (hn : L.length + 12 ≤ 40) (x : Int32) : ∃ G' : am_G, am_frx G G' ∧ am_rtr G' (L ++ (am_vt k 3 x n m).2) ∧ am_CD X (D + 9) 202 [.ref 114, .int (nI 3), .int x] (am_L0 q, G) = some (some (.int (am_vt k 3 x n m).1), (am_L0 q, G')) := by
  obtain ⟨G1, f1, c1, g1⟩ := am_w202_0 (X := X) (D := D) (q := q) hk6 hk hL hn x
  have ea : am_above 3 = nI 0 := by decide +kernel
  have g142 := am_m142 (X := X) (D := D + 7) (k := 3) (by decide) (w := (am_L0 q, G))
  rw [ea] at g142
  refine ⟨G1, f1, c1, ?_⟩
  refine am_CD_of (M := am_N202) rfl rfl ?_
  show am_Rn _ _ ((Option.some FieldType.int)) am_J202 0 [some (.ref 114), some (.int (nI 3)), some (.int x), none] [] (am_L0 q, G) _
  simp only [am_s202_0, am_s202_1, am_s202_4, am_s202_5, am_s202_7, am_s202_10, am_s202_11, am_s202_12, am_s202_15, am_s202_16, am_s202_19, am_s202_20, am_s202_21, am_s202_22, am_s202_23, am_s202_26, am_s202_27, am_s202_30, am_s202_31, am_s202_32, am_s202_33, am_s202_34, am_s202_37, am_s202_38, am_s202_40, am_s202_43, am_s202_44, am_s202_45, am_s202_46, am_s202_49, am_s202_50, am_s202_51, am_s202_52, am_s202_53, am_s202_56, am_s202_57, am_s202_60, am_s202_61, am_s202_62, am_s202_63, am_s202_65, am_s202_68, am_s202_69, am_s202_71, am_s202_74, am_s202_75, am_s202_76, am_s202_79, am_s202_80, am_s202_83, am_s202_84, am_s202_85, am_s202_86, am_s202_87, am_s202_88, am_s202_91, am_s202_92, am_s202_93, am_s202_94, am_s202_95, am_s202_98, am_s202_99, am_s202_102, show (nI 3 = 0) = False by decide, show (nI 3 = 4) = False by decide, show (nI 3 = 6) = False by decide, not_true_eq_false, not_false_eq_true, am_cal_ok (am_cat_1 _) am_rcv_f (g142), am_cal_ok am_cat_0 am_v114 (g1), eq_self, am_os_some, Option.toList_some, Option.toList_none, List.cons_append, List.nil_append, if_true, if_false, true_and, am_nw1_i, am_nw1_r, am_nw1_n, cond_true]
  all_goals rfl
theorem am_w202_4 {G : am_G} {L : List Int32} (hk6 : k ≤ 6) (hk : am_vq G k n m) (hL : am_rtr G L) (hn : L.length + 15 ≤ 40) (x : Int32) : ∃ G' : am_G, am_frx G G' ∧ am_rtr G' (L ++ (am_vt k 4 x n m).2) ∧ am_CD X (D + 10) 202 [.ref 114, .int (nI 4), .int x] (am_L0 q, G) = some (some (.int (am_vt k 4 x n m).1), (am_L0 q, G')) := by
  have ev : am_vt k 4 x n m = ((am_vb k x n m).1 - (am_vl k 2 n).1, 50 :: ((am_vb k x n m).2 ++ (am_vl k 2 n).2)) := rfl
  have ev1 : am_vt k 1 x n m = am_vb k x n m := rfl
  rw [ev]
  have lb := am_vb_len k x n m
  obtain ⟨G1, f1, c1, g1⟩ := am_m198 (X := X) (D := D + 8) (q := q) hL (by omega) 50
  obtain ⟨G2, f2, c2, g2⟩ := am_w202_1 (X := X) (D := D) (q := q) hk6 (hk.fr f1) c1 (by rw [List.length_append]; simp; omega) x
  rw [ev1] at c2 g2
  have g2' : am_CD X (D + 9) 202 [.ref 114, .int 1, .int x] (am_L0 q, G1) = some (some (.int (am_vb k x n m).1), (am_L0 q, G2)) := g2
  have kk := ((hk.fr f1).fr f2).1
  obtain ⟨G3, f3, c3, g3⟩ := am_m199 (X := X) (D := D + 5) (q := q) hk6 hk6 ((hk.fr f1).fr f2) c2 (by simp only [List.length_append, List.length_singleton]; omega) 2
  rw [List.append_assoc, List.append_assoc] at c3
  refine ⟨G3, (f1.tr f2).tr f3, c3, ?_⟩
  refine am_CD_of (M := am_N202) rfl rfl ?_
  show am_Rn _ _ ((Option.some FieldType.int)) am_J202 0 [some (.ref 114), some (.int (nI 4)), some (.int x), none] [] (am_L0 q, G) _
  simp only [am_s202_0, am_s202_1, am_s202_4, am_s202_5, am_s202_7, am_s202_10, am_s202_11, am_s202_12, am_s202_15, am_s202_16, am_s202_19, am_s202_20, am_s202_21, am_s202_22, am_s202_23, am_s202_26, am_s202_27, am_s202_30, am_s202_31, am_s202_32, am_s202_33, am_s202_34, am_s202_37, am_s202_38, am_s202_40, am_s202_43, am_s202_44, am_s202_45, am_s202_46, am_s202_49, am_s202_50, am_s202_51, am_s202_52, am_s202_53, am_s202_56, am_s202_57, am_s202_60, am_s202_61, am_s202_62, am_s202_63, am_s202_65, am_s202_68, am_s202_69, am_s202_71, am_s202_74, am_s202_75, am_s202_76, am_s202_79, am_s202_80, am_s202_83, am_s202_84, am_s202_85, am_s202_86, am_s202_87, am_s202_88, am_s202_91, am_s202_92, am_s202_93, am_s202_94, am_s202_95, am_s202_98, am_s202_99, am_s202_102, show (nI 4 = 0) = False by decide, show (nI 4 = 4) = True by decide, show (nI 4 = 6) = False by decide, not_true_eq_false, not_false_eq_true, am_cal_ok am_cat_0 am_v114 (g1), am_cal_ok am_cat_0 am_v114 (g2'), am_f114_26, kk, am_cal_ok (am_cat_1 _) am_v114 (g3), eq_self, am_os_some, Option.toList_some, Option.toList_none, List.cons_append, List.nil_append, if_true, if_false, true_and, am_nw1_i, am_nw1_r, am_nw1_n, cond_true]
  all_goals rfl
theorem am_w202_5 {G : am_G} {L : List Int32} (hk6 : k ≤ 6) (hk : am_vq G k n m) (hL : am_rtr G L) (hn : L.length + 12 ≤ 40) (x : Int32) : ∃ G' : am_G, am_frx G G' ∧ am_rtr G' (L ++ (am_vt k 5 x n m).2) ∧ am_CD X (D + 10) 202 [.ref 114, .int (nI 5), .int x] (am_L0 q, G) = some (some (.int (am_vt k 5 x n m).1), (am_L0 q, G')) := by
  obtain ⟨G1, f1, c1, g1⟩ := am_w202_2 (X := X) (D := D) (q := q) hk6 hk hL hn x
  have ea : am_above 5 = nI 2 := by decide +kernel
  have g142 := am_m142 (X := X) (D := D + 8) (k := 5) (by decide) (w := (am_L0 q, G))
  rw [ea] at g142
  refine ⟨G1, f1, c1, ?_⟩
  refine am_CD_of (M := am_N202) rfl rfl ?_
  show am_Rn _ _ ((Option.some FieldType.int)) am_J202 0 [some (.ref 114), some (.int (nI 5)), some (.int x), none] [] (am_L0 q, G) _
  simp only [am_s202_0, am_s202_1, am_s202_4, am_s202_5, am_s202_7, am_s202_10, am_s202_11, am_s202_12, am_s202_15, am_s202_16, am_s202_19, am_s202_20, am_s202_21, am_s202_22, am_s202_23, am_s202_26, am_s202_27, am_s202_30, am_s202_31, am_s202_32, am_s202_33, am_s202_34, am_s202_37, am_s202_38, am_s202_40, am_s202_43, am_s202_44, am_s202_45, am_s202_46, am_s202_49, am_s202_50, am_s202_51, am_s202_52, am_s202_53, am_s202_56, am_s202_57, am_s202_60, am_s202_61, am_s202_62, am_s202_63, am_s202_65, am_s202_68, am_s202_69, am_s202_71, am_s202_74, am_s202_75, am_s202_76, am_s202_79, am_s202_80, am_s202_83, am_s202_84, am_s202_85, am_s202_86, am_s202_87, am_s202_88, am_s202_91, am_s202_92, am_s202_93, am_s202_94, am_s202_95, am_s202_98, am_s202_99, am_s202_102, show (nI 5 = 0) = False by decide, show (nI 5 = 4) = False by decide, show (nI 5 = 6) = False by decide, not_true_eq_false, not_false_eq_true, am_cal_ok (am_cat_1 _) am_rcv_f (g142), am_cal_ok am_cat_0 am_v114 (g1), eq_self, am_os_some, Option.toList_some, Option.toList_none, List.cons_append, List.nil_append, if_true, if_false, true_and, am_nw1_i, am_nw1_r, am_nw1_n, cond_true]
  all_goals rfl
theorem am_w202_6 {G : am_G} {L : List Int32} (hk6 : k ≤ 6) (hk : am_vq G k n m) (hL : am_rtr G L) (hn : L.length + 21 ≤ 40) (x : Int32) : ∃ G' : am_G, am_frx G G' ∧ am_rtr G' (L ++ (am_vt k 6 x n m).2) ∧ am_CD X (D + 10) 202 [.ref 114, .int (nI 6), .int x] (am_L0 q, G) = some (some (.int (am_vt k 6 x n m).1), (am_L0 q, G')) := by
  have ev : am_vt k 6 x n m = ((am_vf k k x n m).1 - (am_vb k x n m).1, 71 :: ((am_vf k k x n m).2 ++ (am_vb k x n m).2)) := rfl
  have ev3 : am_vt k 3 x n m = am_vb k x n m := rfl
  rw [ev]
  have lf := am_vf_len k k x n m
  obtain ⟨G1, f1, c1, g1⟩ := am_m198 (X := X) (D := D + 8) (q := q) hL (by omega) 71
  have kk1 := (hk.fr f1).1
  obtain ⟨G2, f2, c2, g2⟩ := am_m201 (X := X) (D := D + 2) (q := q) hk6 hk6 (hk.fr f1) c1 (by rw [List.length_append]; simp; omega) x
  obtain ⟨G3, f3, c3, g3⟩ := am_w202_3 (X := X) (D := D) (q := q) hk6 ((hk.fr f1).fr f2) c2 (by simp only [List.length_append, List.length_singleton]; omega) x
  rw [ev3] at c3 g3
  have g3' : am_CD X (D + 9) 202 [.ref 114, .int 3, .int x] (am_L0 q, G2) = some (some (.int (am_vb k x n m).1), (am_L0 q, G3)) := g3
  rw [List.append_assoc, List.append_assoc] at c3
  refine ⟨G3, (f1.tr f2).tr f3, c3, ?_⟩
  refine am_CD_of (M := am_N202) rfl rfl ?_
  show am_Rn _ _ ((Option.some FieldType.int)) am_J202 0 [some (.ref 114), some (.int (nI 6)), some (.int x), none] [] (am_L0 q, G) _
  simp only [am_s202_0, am_s202_1, am_s202_4, am_s202_5, am_s202_7, am_s202_10, am_s202_11, am_s202_12, am_s202_15, am_s202_16, am_s202_19, am_s202_20, am_s202_21, am_s202_22, am_s202_23, am_s202_26, am_s202_27, am_s202_30, am_s202_31, am_s202_32, am_s202_33, am_s202_34, am_s202_37, am_s202_38, am_s202_40, am_s202_43, am_s202_44, am_s202_45, am_s202_46, am_s202_49, am_s202_50, am_s202_51, am_s202_52, am_s202_53, am_s202_56, am_s202_57, am_s202_60, am_s202_61, am_s202_62, am_s202_63, am_s202_65, am_s202_68, am_s202_69, am_s202_71, am_s202_74, am_s202_75, am_s202_76, am_s202_79, am_s202_80, am_s202_83, am_s202_84, am_s202_85, am_s202_86, am_s202_87, am_s202_88, am_s202_91, am_s202_92, am_s202_93, am_s202_94, am_s202_95, am_s202_98, am_s202_99, am_s202_102, show (nI 6 = 0) = False by decide, show (nI 6 = 4) = False by decide, show (nI 6 = 6) = True by decide, not_true_eq_false, not_false_eq_true, am_cal_ok am_cat_0 am_v114 (g1), am_f114_26, kk1, am_cal_ok am_cat_0 am_v114 (g2), am_cal_ok (am_cat_1 _) am_v114 (g3'), eq_self, am_os_some, Option.toList_some, Option.toList_none, List.cons_append, List.nil_append, if_true, if_false, true_and, am_nw1_i, am_nw1_r, am_nw1_n, cond_true]
  all_goals rfl
theorem am_m202 {G : am_G} {L : List Int32} {f : Nat} (hf : f ≤ 6) (hk6 : k ≤ 6) (hk : am_vq G k n m) (hL : am_rtr G L) (hn : L.length + 21 ≤ 40) (x : Int32) : ∃ G' : am_G, am_frx G G' ∧ am_rtr G' (L ++ (am_vt k f x n m).2) ∧ am_CD X (D + 10) 202 [.ref 114, .int (nI f), .int x] (am_L0 q, G) = some (some (.int (am_vt k f x n m).1), (am_L0 q, G')) := by
  match f, hf with
  | 0, _ => exact am_w202_0 (X := X) (D := D + 2) (q := q) hk6 hk hL (by omega) x
  | 1, _ => exact am_w202_1 (X := X) (D := D + 1) (q := q) hk6 hk hL (by omega) x
  | 2, _ => exact am_w202_2 (X := X) (D := D + 1) (q := q) hk6 hk hL (by omega) x
  | 3, _ => exact am_w202_3 (X := X) (D := D + 1) (q := q) hk6 hk hL (by omega) x
  | 4, _ => exact am_w202_4 (X := X) (D := D + 0) (q := q) hk6 hk hL (by omega) x
  | 5, _ => exact am_w202_5 (X := X) (D := D + 0) (q := q) hk6 hk hL (by omega) x
  | 6, _ => exact am_w202_6 (X := X) (D := D + 0) (q := q) hk6 hk hL (by omega) x
theorem am_r203 {a c x : Int32} {s : am_St} (hs : am_oks s) : am_rO 203 [.int a, .int c, .int x] s (am_O105 a c x s) := by
  unfold am_O105
  have h8 := hs.1.1.1
  cases h1 : am_ip (s.1.1 13 0) a with
  | false =>
    refine am_rO_err (k := 1) (r := -1000000001) (by decide) am_ec1.symm fun X q G hc => am_CD_of (M := am_N203) rfl rfl ?_
    have hn : G 115 2 = nI (s.1.1 13 0) := hc.1.1.2.1
    show am_Rn _ _ ((Option.some FieldType.int)) am_J203 0 [some (.ref 114), some (.int a), some (.int c), some (.int x)] [] (am_L0 q, G) _
    simp only [am_s203_0, am_s203_1, am_s203_2, am_s203_5, am_s203_8, am_s203_9, am_s203_10, am_s203_11, am_s203_14, am_s203_17, am_s203_18, am_s203_20, am_s203_23, h1, am_cal_ok am_cat_0 am_v114 (am_y132 (D := 97) h8 hn _), am_cal_ok am_cat_0 am_v114 (am_d1 (D := 98)), am_cal_ok am_cat_0 am_v114 (am_d2 (D := 98)), am_cal_ok am_cat_0 am_v114 (am_d3 (D := 98)), am_cal_ok am_cat_0 am_v114 (am_d4 (D := 98)), am_cal_ok am_cat_0 am_v114 (am_d5 (D := 98)), am_cal_ok am_cat_0 am_rcv_f (am_y125 _ _), am_cal_ok am_cat_0 am_rcv_f (am_m183 (D := 97) _), am_bI0, am_f114_0, am_er_f, am_sy_f, Bool.false_and, Bool.and_false, reduceCtorEq, not_false_eq_true, not_true_eq_false, eq_self, am_os_some, Option.toList_some, Option.toList_none, List.cons_append, List.nil_append, if_true, if_false, true_and, am_nw1_i, am_nw1_r, am_nw1_n, cond_true]
  | true =>
    cases h2 : am_wi c 3 with
    | false =>
      rw [if_pos (by decide)]
      refine am_rO_err (k := 1) (r := -1000000001) (by decide) am_ec1.symm fun X q G hc => am_CD_of (M := am_N203) rfl rfl ?_
      have hn : G 115 2 = nI (s.1.1 13 0) := hc.1.1.2.1
      show am_Rn _ _ ((Option.some FieldType.int)) am_J203 0 [some (.ref 114), some (.int a), some (.int c), some (.int x)] [] (am_L0 q, G) _
      simp only [am_s203_0, am_s203_1, am_s203_2, am_s203_5, am_s203_8, am_s203_9, am_s203_10, am_s203_11, am_s203_14, am_s203_17, am_s203_18, am_s203_20, am_s203_23, h1, h2, am_cal_ok am_cat_0 am_v114 (am_y132 (D := 97) h8 hn _), am_cal_ok am_cat_0 am_v114 (am_d1 (D := 98)), am_cal_ok am_cat_0 am_v114 (am_d2 (D := 98)), am_cal_ok am_cat_0 am_v114 (am_d3 (D := 98)), am_cal_ok am_cat_0 am_v114 (am_d4 (D := 98)), am_cal_ok am_cat_0 am_v114 (am_d5 (D := 98)), am_cal_ok am_cat_0 am_rcv_f (am_y125 _ _), am_cal_ok am_cat_0 am_rcv_f (am_m183 (D := 97) _), am_bI0, am_f114_0, am_er_f, am_sy_f, Bool.false_and, Bool.and_false, reduceCtorEq, not_false_eq_true, not_true_eq_false, eq_self, am_os_some, Option.toList_some, Option.toList_none, List.cons_append, List.nil_append, if_true, if_false, true_and, am_nw1_i, am_nw1_r, am_nw1_n, cond_true]
    | true =>
      rw [if_neg (by decide)]
      obtain ⟨a1, a2⟩ := am_ip_nI h8 h1
      obtain ⟨w1, w2⟩ := am_wi_nI (n := 3) (by decide) h2
      generalize a.toNatClampNeg = p at a1 a2
      generalize c.toNatClampNeg = c at w1 w2
      subst a2 w2
      have p8 : p < 8 := by omega
      have hk6 := (hs.1.1.2.1 p p8).1
      intro N xs q G hc
      have hn : G 115 2 = nI (s.1.1 13 0) := hc.1.1.2.1
      have k0 := hc.1.1.2.2.1 p 0 p8 (by decide)
      have k1 := hc.1.1.2.2.1 p 1 p8 (by decide)
      have F1 : ∀ i j, (i = 114 → j < 25) → am_up (am_up (am_up (am_up G 114 25 0) 114 26 (nI (s.1.1 0 p))) 114 27 (nI p)) 114 28 (nI (s.1.1 1 p)) i j = G i j := fun i j h => by
        simp only [am_up_get]
        by_cases e : i = 114
        · have := h e
          rw [if_pos e, if_neg (by omega), if_pos e, if_neg (by omega), if_pos e, if_neg (by omega), if_pos e, if_neg (by omega)]
        · rw [if_neg e, if_neg e, if_neg e, if_neg e]
      have r0 : am_up G 114 25 0 115 = G 115 := funext fun j => by rw [am_up_get, if_neg (by decide)]
      have r1 : am_up (am_up (am_up G 114 25 0) 114 26 (nI (s.1.1 0 p))) 114 27 (nI p) 115 = G 115 := funext fun j => by rw [am_up_get, if_neg (by decide), am_up_get, if_neg (by decide), am_up_get, if_neg (by decide)]
      have v1 : am_vq (am_up (am_up (am_up (am_up G 114 25 0) 114 26 (nI (s.1.1 0 p))) 114 27 (nI p)) 114 28 (nI (s.1.1 1 p))) (s.1.1 0 p) (nI p) (nI (s.1.1 1 p)) := ⟨by simp only [am_up_get, if_true, Nat.reduceEqDiff, if_false], by simp only [am_up_get, if_true, Nat.reduceEqDiff, if_false], by simp only [am_up_get, if_true]⟩
      have t1 : am_rtr (am_up (am_up (am_up (am_up G 114 25 0) 114 26 (nI (s.1.1 0 p))) 114 27 (nI p)) 114 28 (nI (s.1.1 1 p))) [] := ⟨by simp only [am_up_get, if_true, Nat.reduceEqDiff, if_false]; rfl, fun i hi => absurd hi (Nat.not_lt_zero i)⟩
      have m0 := am_i130_0 (X := am_X0 N xs) (D := 98) (q := q) (G := am_up G 114 25 0) p8
      rw [r0, k0] at m0
      have m1 := am_i130_1 (X := am_X0 N xs) (D := 98) (q := q) (G := am_up (am_up (am_up G 114 25 0) 114 26 (nI (s.1.1 0 p))) 114 27 (nI p)) p8
      rw [r1, k1] at m1
      generalize hG1 : am_up (am_up (am_up (am_up G 114 25 0) 114 26 (nI (s.1.1 0 p))) 114 27 (nI p)) 114 28 (nI (s.1.1 1 p)) = G1 at F1 v1 t1
      have fin : ∀ (G2 : am_G) (L : List Int32), am_frx G1 G2 → am_rtr G2 ([] ++ L) → am_rfl G2 (am_sT L s) ∧ ∀ i j, i < 114 → G2 i j = G i j := fun G2 L f t => by
        have e : ∀ i, 114 < i → i ≠ 125 → G2 i = G i := fun i x y => funext fun j => by rw [f i j (by omega) y, F1 i j (by omega)]
        have e4 : ∀ j, j < 25 → G2 114 j = G 114 j := fun j x => by rw [f 114 j (by omega) (by decide), F1 114 j (fun _ => x)]
        obtain ⟨x1, x2, x3, x4, x5, x6, x7, x8⟩ := hc
        rw [List.nil_append] at t
        refine ⟨⟨by rw [e 115 (by decide) (by decide)]; exact x1, fun hc => by rw [e 116 (by decide) (by decide)]; exact x2 hc, by rw [e4 4 (by decide)]; exact x3, by rw [e4 5 (by decide)]; exact x4, fun k hk => by rw [e 119 (by decide) (by decide)]; exact x5 k hk, by rw [e4 15 (by decide)]; exact x6, t, fun j hj => ?_⟩, fun i j hi => by rw [f i j (by omega) (by omega), F1 i j (by omega)]⟩
        obtain ⟨a, b, c⟩ := x8 j hj
        unfold am_rsh
        rw [e 120 (by decide) (by decide), e 121 (by decide) (by decide), e 122 (by decide) (by decide)]
        exact ⟨a, b, c⟩
      have pre : ∀ (t : Nat) (o : Option Value × am_M), am_tsw 55 55 0 2 #[25, 35, 45] (nI c) = some t → am_Rn (am_X0 N xs) 99 (some .int) am_J203 t [some (.ref 114), some (.int (nI p)), some (.int (nI c)), some (.int x)] [] (am_L0 q, G1) o → am_CD (am_X0 N xs) 100 203 [.ref 114, .int (nI p), .int (nI c), .int x] (am_L0 q, G) = some o := fun t o ht h => by
        refine am_CD_of (M := am_N203) rfl rfl ?_
        show am_Rn _ _ ((Option.some FieldType.int)) am_J203 0 [some (.ref 114), some (.int (nI p)), some (.int (nI c)), some (.int x)] [] (am_L0 q, G) _
        simp only [am_s203_0, am_s203_1, am_s203_2, am_s203_5, am_s203_8, am_s203_9, am_s203_10, am_s203_11, am_s203_14, am_s203_17, am_s203_18, am_s203_20, am_s203_23, am_s203_24, am_s203_25, am_s203_26, am_s203_29, am_s203_30, am_s203_31, am_s203_32, am_s203_33, am_s203_36, am_s203_39, am_s203_40, am_s203_41, am_s203_44, am_s203_45, am_s203_46, am_s203_47, am_s203_48, am_s203_51, am_s203_54, am_s203_55, am_cal_ok am_cat_0 am_v114 (am_y132 (D := 97) h8 hn _), h1, h2, am_p114_25, am_cal_ok (am_cat_1 _) am_v114 (m0), am_p114_26, am_p114_27, am_cal_ok (am_cat_1 _) am_v114 (m1), am_p114_28, hG1, ht, am_cal_ok am_cat_0 am_v114 (am_d1 (D := 98)), am_cal_ok am_cat_0 am_v114 (am_d2 (D := 98)), am_cal_ok am_cat_0 am_v114 (am_d3 (D := 98)), am_cal_ok am_cat_0 am_v114 (am_d4 (D := 98)), am_cal_ok am_cat_0 am_v114 (am_d5 (D := 98)), am_cal_ok am_cat_0 am_rcv_f (am_y125 _ _), am_cal_ok am_cat_0 am_rcv_f (am_m183 (D := 97) _), am_bI0, am_f114_0, am_er_f, am_sy_f, Bool.false_and, Bool.and_false, reduceCtorEq, not_false_eq_true, not_true_eq_false, eq_self, am_os_some, Option.toList_some, Option.toList_none, List.cons_append, List.nil_append, if_true, if_false, true_and, am_nw1_i, am_nw1_r, am_nw1_n, cond_true]
        exact h
      match c, w1, pre with
      | 0, _, pre =>
        obtain ⟨G2, f2, c2, g2⟩ := am_m199 (X := am_X0 N xs) (D := 95) (q := q) hk6 hk6 v1 t1 (by decide) x
        obtain ⟨y1, y2⟩ := fin G2 _ f2 c2
        refine ⟨G2, y2, y1, pre 80 _ (by decide +kernel) ?_⟩
        simp only [am_s203_80, am_s203_81, am_s203_82, am_s203_85, am_s203_86, am_s203_89, am_f114_26, v1.1, am_cal_ok am_cat_0 am_v114 (g2), eq_self, am_os_some, Option.toList_some, Option.toList_none, List.cons_append, List.nil_append, if_true, if_false, true_and, am_nw1_i, am_nw1_r, am_nw1_n, cond_true]
        rfl
      | 1, _, pre =>
        obtain ⟨G2, f2, c2, g2⟩ := am_m201 (X := am_X0 N xs) (D := 92) (q := q) hk6 hk6 v1 t1 (by decide) x
        obtain ⟨y1, y2⟩ := fin G2 _ f2 c2
        refine ⟨G2, y2, y1, pre 90 _ (by decide +kernel) ?_⟩
        simp only [am_s203_90, am_s203_91, am_s203_92, am_s203_95, am_s203_96, am_s203_99, am_f114_26, v1.1, am_cal_ok am_cat_0 am_v114 (g2), eq_self, am_os_some, Option.toList_some, Option.toList_none, List.cons_append, List.nil_append, if_true, if_false, true_and, am_nw1_i, am_nw1_r, am_nw1_n, cond_true]
        rfl
      | 2, _, pre =>
        obtain ⟨G2, f2, c2, g2⟩ := am_m200 (X := am_X0 N xs) (D := 95) (q := q) hk6 hk6 v1 t1 (by decide) x
        obtain ⟨y1, y2⟩ := fin G2 _ f2 c2
        refine ⟨G2, y2, y1, pre 100 _ (by decide +kernel) ?_⟩
        simp only [am_s203_100, am_s203_101, am_s203_102, am_s203_105, am_s203_106, am_s203_109, am_f114_26, v1.1, am_cal_ok am_cat_0 am_v114 (g2), eq_self, am_os_some, Option.toList_some, Option.toList_none, List.cons_append, List.nil_append, if_true, if_false, true_and, am_nw1_i, am_nw1_r, am_nw1_n, cond_true]
        rfl
      | 3, _, pre =>
        obtain ⟨G2, f2, c2, g2⟩ := am_m202 (X := am_X0 N xs) (D := 89) (q := q) hk6 hk6 v1 t1 (by decide) x
        obtain ⟨y1, y2⟩ := fin G2 _ f2 c2
        refine ⟨G2, y2, y1, pre 110 _ (by decide +kernel) ?_⟩
        simp only [am_s203_110, am_s203_111, am_s203_112, am_s203_115, am_s203_116, am_s203_119, am_f114_26, v1.1, am_cal_ok am_cat_0 am_v114 (g2), eq_self, am_os_some, Option.toList_some, Option.toList_none, List.cons_append, List.nil_append, if_true, if_false, true_and, am_nw1_i, am_nw1_r, am_nw1_n, cond_true]
        rfl
end AMRR9
