/-! THE REFERENCE: begs -/
def am_frs (G G' : am_G) : Prop := (∀ i j, (i = 114 → j < 7 ∨ 14 < j) → i ≠ 115 → G' i j = G i j) ∧ am_rk (G 115) (G' 115)
theorem am_rk.rf (R : am_Ro) : am_rk R R := fun _ _ _ => rfl
theorem am_frs.tr {G G1 G2 : am_G} (h1 : am_frs G G1) (h2 : am_frs G1 G2) : am_frs G G2 := ⟨fun i j a b => (h2.1 i j a b).trans (h1.1 i j a b), h1.2.tr h2.2⟩
theorem am_frw.s {G G' : am_G} (h : am_frw G G') : am_frs G G' := ⟨fun i j a _ => h i j a, by rw [h.row]; exact am_rk.rf _⟩
theorem am_frs_up (G : am_G) {k : Nat} (v : Int32) (h : k = 0 ∨ k = 2 ∨ 7 ≤ k ∧ k < 111) : am_frs G (am_up G 115 k v) := ⟨fun i j _ b => by rw [am_up_get, if_neg b], by rw [am_up_row]; exact am_rk_up h⟩
theorem am_rc.S {G G' : am_G} {S S1 : am_S} {T U : am_T} {wh : Int32} (h : am_rc G S T U wh) (hf : am_frs G G') (h1 : am_rp (G' 115) S1) : am_rc G' S1 T U wh := ⟨h1, am_rx_fr h.2.1 (by decide) hf.2, am_rx_fr h.2.2.1 (by decide) hf.2, by rw [hf.1 114 15 (by omega) (by decide)]; exact h.2.2.2⟩
theorem am_hldn {x m : Nat} (hx : x < 2 ^ 31) (hm : m < 2 ^ 31) : am_hld (nI x) 0 (nI m) = nI (min m x) := by
  unfold am_hld
  rw [if_neg (nI_pos hx)]
  by_cases h : x ≤ m
  · rw [if_neg (fun e => e (nI_le h hm)), Nat.min_eq_right h]
  · rw [if_pos (nI_ge (by omega) hx), Nat.min_eq_left (by omega)]
section AMR8
variable {X : am_X} {D q : Nat} {S : am_S} {T U : am_T} {wh : Int32}
theorem am_l165 (hw : am_wf S) {hd p : Nat} (hh : ∀ k, k < 8 → (nI k = wh ↔ k = hd)) (hp : p < 8) : ∀ (d k : Nat) (G : am_G), k + d = S 13 0 → am_rc G S T U wh → ∃ G' : am_G, am_frw G G' ∧ ∀ o, am_Rn X (D + 47) none am_J165 4 [some (.ref 114), some (.int (nI p)), some (.int (am_oi (am_lb U hd S p k))), some (.int (nI k))] [] (am_L0 q, G) o = am_Rn X (D + 47) none am_J165 50 [some (.ref 114), some (.int (nI p)), some (.int (am_oi (am_lb U hd S p (S 13 0)))), some (.int (nI (S 13 0)))] [] (am_L0 q, G') o := by
  have h8 := hw.1
  intro d
  induction d with
  | zero =>
    intro k G hk h
    obtain rfl : k = S 13 0 := by omega
    have k2 : G 115 2 = nI (S 13 0) := h.1.2.1
    have h1 : ¬ nI (S 13 0) < nI (S 13 0) := Int32.lt_irrefl
    refine ⟨G, am_frw.rf G, fun o => ?_⟩
    simp only [am_s165_4, am_s165_5, am_s165_6, am_s165_9, am_s165_10, am_s165_11, am_f114_0, am_r115_2, k2, h1, eq_self, am_os_some, Option.toList_some, Option.toList_none, List.cons_append, List.nil_append, if_true, if_false, true_and, am_nw1_i, am_nw1_r, am_nw1_n, cond_true]
  | succ d ih =>
    intro k G hk h
    have k8 : k < 8 := by omega
    have k2 : G 115 2 = nI (S 13 0) := h.1.2.1
    have h1 : nI k < nI (S 13 0) := nI_lt (by omega) (by omega)
    have hi : nI k + 1 = nI (k + 1) := nI_add k 1
    obtain ⟨G1, f1, g1⟩ := am_m164 (X := X) (D := D) (q := q) h hw hh hp k8
    have hc1 := h.fr f1
    obtain ⟨G', f2, g2⟩ := ih (k + 1) G1 (by omega) hc1
    refine ⟨G', f1.tr f2, fun o => ?_⟩
    have hq : am_ldq U hd S p k = true ↔ k ≠ p ∧ k ≠ hd ∧ 0 < S 3 k ∧ am_ln0 U S p k = true := by
      unfold am_ldq
      simp only [Bool.and_eq_true, decide_eq_true_eq]
    cases hl : am_ldq U hd S p k with
    | false =>
      rw [hl] at g1
      have e : am_lb U hd S p (k + 1) = am_lb U hd S p k := by
        rw [am_lb, if_neg]
        rintro ⟨a, b, c, d, -⟩
        rw [hq.mpr ⟨a, b, c, d⟩] at hl
        cases hl
      rw [e] at g2
      simp only [am_s165_4, am_s165_5, am_s165_6, am_s165_9, am_s165_10, am_s165_11, am_s165_14, am_s165_15, am_s165_16, am_s165_17, am_s165_20, am_s165_23, am_s165_24, am_s165_27, am_s165_28, am_s165_29, am_s165_30, am_s165_33, am_s165_34, am_s165_35, am_s165_36, am_s165_39, am_s165_42, am_s165_43, am_s165_44, am_f114_0, am_r115_2, k2, h1, am_cal_ok am_cat_0 am_v114 (g1), am_bI0, eq_self, am_os_some, Option.toList_some, Option.toList_none, List.cons_append, List.nil_append, if_true, if_false, true_and, am_nw1_i, am_nw1_r, am_nw1_n, cond_true]
      rw [am_s165_47, hi]
      exact g2 o
    | true =>
      rw [hl] at g1
      obtain ⟨a1, a2, a3, a4⟩ := hq.mp hl
      have kw : G1 115 (7 + 5 * k + 3) = nI (S 3 k) := hc1.1.2.2.1 k 3 k8 (by decide)
      have wk := (hw.2.1 k k8).2.2.2.1
      cases hb : am_lb U hd S p k with
      | none =>
        have e : am_lb U hd S p (k + 1) = some k := by
          rw [am_lb, if_pos]
          exact ⟨a1, a2, a3, a4, fun j hj => by rw [hb] at hj; cases hj⟩
        rw [e] at g2
        have em : am_oi none = -1 := rfl
        have ek : am_oi (some k) = nI k := rfl
        have h5 : ((-1 : Int32) < 0) = True := by decide
        rw [ek] at g2
        simp only [am_s165_4, am_s165_5, am_s165_6, am_s165_9, am_s165_10, am_s165_11, am_s165_14, am_s165_15, am_s165_16, am_s165_17, am_s165_20, am_s165_23, am_s165_24, am_s165_27, am_s165_28, am_s165_29, am_s165_30, am_s165_33, am_s165_34, am_s165_35, am_s165_36, am_s165_39, am_s165_42, am_s165_43, am_s165_44, am_f114_0, am_r115_2, k2, h1, am_cal_ok am_cat_0 am_v114 (g1), am_bI0, em, h5, reduceCtorEq, not_true_eq_false, eq_self, am_os_some, Option.toList_some, Option.toList_none, List.cons_append, List.nil_append, if_true, if_false, true_and, am_nw1_i, am_nw1_r, am_nw1_n, cond_true]
        rw [am_s165_47, hi]
        exact g2 o
      | some j =>
        obtain ⟨j1, j2, j3, j4⟩ := am_lb_lt hb
        have j8 : j < 8 := by omega
        have jw : G1 115 (7 + 5 * j + 3) = nI (S 3 j) := hc1.1.2.2.1 j 3 j8 (by decide)
        have wj := (hw.2.1 j j8).2.2.2.1
        have em : am_oi (some j) = nI j := rfl
        have h5 : ¬ nI j < 0 := nI_pos (by omega)
        by_cases c : S 3 j < S 3 k
        · have e : am_lb U hd S p (k + 1) = some k := by
            rw [am_lb, if_pos]
            exact ⟨a1, a2, a3, a4, fun j' hj => by rw [hb] at hj; cases hj; exact c⟩
          have ek : am_oi (some k) = nI k := rfl
          have h6 : ¬ nI (S 3 k) ≤ nI (S 3 j) := nI_ge c (by omega)
          rw [e, ek] at g2
          simp only [am_s165_4, am_s165_5, am_s165_6, am_s165_9, am_s165_10, am_s165_11, am_s165_14, am_s165_15, am_s165_16, am_s165_17, am_s165_20, am_s165_23, am_s165_24, am_s165_27, am_s165_28, am_s165_29, am_s165_30, am_s165_33, am_s165_34, am_s165_35, am_s165_36, am_s165_39, am_s165_42, am_s165_43, am_s165_44, am_f114_0, am_r115_2, k2, h1, am_cal_ok am_cat_0 am_v114 (g1), am_bI0, em, h5, am_cal_ok am_cat_0 am_v114 (am_i130_3 (D := D + 46) k8), am_cal_ok (am_cat_1 _) am_v114 (am_i130_3 (D := D + 46) j8), kw, jw, h6, reduceCtorEq, not_true_eq_false, not_false_eq_true, eq_self, am_os_some, Option.toList_some, Option.toList_none, List.cons_append, List.nil_append, if_true, if_false, true_and, am_nw1_i, am_nw1_r, am_nw1_n, cond_true]
          rw [am_s165_47, hi]
          exact g2 o
        · have e : am_lb U hd S p (k + 1) = some j := by
            rw [am_lb, if_neg, hb]
            rintro ⟨-, -, -, -, h⟩
            exact c (h j hb)
          have h6 : nI (S 3 k) ≤ nI (S 3 j) := nI_le (by omega) (by omega)
          rw [e, em] at g2
          simp only [am_s165_4, am_s165_5, am_s165_6, am_s165_9, am_s165_10, am_s165_11, am_s165_14, am_s165_15, am_s165_16, am_s165_17, am_s165_20, am_s165_23, am_s165_24, am_s165_27, am_s165_28, am_s165_29, am_s165_30, am_s165_33, am_s165_34, am_s165_35, am_s165_36, am_s165_39, am_s165_42, am_s165_43, am_s165_44, am_f114_0, am_r115_2, k2, h1, am_cal_ok am_cat_0 am_v114 (g1), am_bI0, em, h5, am_cal_ok am_cat_0 am_v114 (am_i130_3 (D := D + 46) k8), am_cal_ok (am_cat_1 _) am_v114 (am_i130_3 (D := D + 46) j8), kw, jw, h6, reduceCtorEq, not_true_eq_false, eq_self, am_os_some, Option.toList_some, Option.toList_none, List.cons_append, List.nil_append, if_true, if_false, true_and, am_nw1_i, am_nw1_r, am_nw1_n, cond_true]
          rw [am_s165_47, hi]
          exact g2 o
theorem am_m165 {G : am_G} (h : am_rc G S T U wh) (hw : am_wf S) {hd p : Nat} (hh : ∀ k, k < 8 → (nI k = wh ↔ k = hd)) (hp : p < 8) : ∃ G' : am_G, am_frs G G' ∧ am_rc G' (am_bg U hd S p) T U wh ∧ am_CD X (D + 48) 165 [.ref 114, .int (nI p)] (am_L0 q, G) = some (none, (am_L0 q, G')) := by
  obtain ⟨G1, f1, g1⟩ := am_l165 (X := X) (D := D) (q := q) (T := T) hw hh hp (S 13 0) 0 G (by omega) h
  have hc := h.fr f1
  have e0 : am_oi (am_lb U hd S p 0) = -1 := rfl
  rw [e0, nI_0] at g1
  unfold am_bg
  cases hb : am_lb U hd S p (S 13 0) with
  | none =>
    refine ⟨G1, f1.s, hc, am_CD_of (M := am_N165) rfl rfl ?_⟩
    show am_Rn _ _ none am_J165 0 [some (.ref 114), some (.int (nI p)), none, none] [] (am_L0 q, G) _
    have h5 : (am_oi none < 0) = True := by decide
    simp only [am_s165_0, am_s165_1, am_s165_2, am_s165_3, eq_self, am_os_some, Option.toList_some, Option.toList_none, List.cons_append, List.nil_append, if_true, if_false, true_and, am_nw1_i, am_nw1_r, am_nw1_n, cond_true]
    rw [g1, hb]
    simp only [am_s165_50, am_s165_51, am_s165_117, h5, eq_self, am_os_some, Option.toList_some, Option.toList_none, List.cons_append, List.nil_append, if_true, if_false, true_and, am_nw1_i, am_nw1_r, am_nw1_n, cond_true]
  | some j =>
    dsimp only
    obtain ⟨j1, j2, j3, j4⟩ := am_lb_lt hb
    have h8 := hw.1
    have j8 : j < 8 := by omega
    have wj := (hw.2.1 j j8).2.2.2.1
    have wp := (hw.2.1 p hp).2.2.2.1
    have wd := hw.2.2.1 p j hp j8
    have kj : G1 115 (7 + 5 * j + 3) = nI (S 3 j) := hc.1.2.2.1 j 3 j8 (by decide)
    have kp : G1 115 (7 + 5 * p + 3) = nI (S 3 p) := hc.1.2.2.1 p 3 hp (by decide)
    have kd := hc.1.2.2.2 p j hp j8
    have s1 : nI (S 3 j) - 1 = nI (S 3 j - 1) := am_sub (b := 1) j4
    have s2 : nI (S 3 p) + 1 = nI (S 3 p + 1) := nI_add _ 1
    have s3 : nI (S (5 + p) j) + 1 = nI (S (5 + p) j + 1) := nI_add _ 1
    have l1 : am_hld (nI (S 3 p + 1)) 0 999 = nI (min 999 (S 3 p + 1)) := am_hldn (m := 999) (by omega) (by decide)
    have l2 : am_hld (nI (S (5 + p) j + 1)) 0 99 = nI (min 99 (S (5 + p) j + 1)) := am_hldn (m := 99) (by omega) (by decide)
    have em : am_oi (some j) = nI j := rfl
    have h5 : ¬ nI j < 0 := nI_pos (by omega)
    generalize hG2 : am_up G1 115 (7 + 5 * j + 3) (nI (S 3 j - 1)) = G2
    have kp2 : G2 115 (7 + 5 * p + 3) = nI (S 3 p) := by rw [← hG2, am_up_get, if_pos rfl, if_neg (by omega)]; exact kp
    generalize hG3 : am_up G2 115 (7 + 5 * p + 3) (nI (min 999 (S 3 p + 1))) = G3
    have kd3 : G3 115 (47 + 8 * p + j) = nI (S (5 + p) j) := by rw [← hG3, am_up_get, if_pos rfl, if_neg (by omega), ← hG2, am_up_get, if_pos rfl, if_neg (by omega)]; exact kd
    have p2 : am_rp (G2 115) (am_su S 3 j (S 3 j - 1)) := by rw [← hG2, am_up_row]; exact am_rp_up hc.1 (by decide) j8
    have p3 : am_rp (G3 115) (am_su (am_su S 3 j (S 3 j - 1)) 3 p (min 999 (S 3 p + 1))) := by rw [← hG3, am_up_row]; exact am_rp_up p2 (by decide) hp
    have fs : am_frs G1 (am_up G3 115 (47 + 8 * p + j) (nI (min 99 (S (5 + p) j + 1)))) := by
      refine am_frs.tr (am_frs.tr (G1 := G2) ?_ (G2 := G3) ?_) (am_frs_up _ _ (by omega))
      · rw [← hG2]; exact am_frs_up _ _ (by omega)
      · rw [← hG3]; exact am_frs_up _ _ (by omega)
    refine ⟨am_up G3 115 (47 + 8 * p + j) (nI (min 99 (S (5 + p) j + 1))), f1.s.tr fs, hc.S fs (by rw [am_up_row]; exact am_rp_upd p3 hp j8), am_CD_of (M := am_N165) rfl rfl ?_⟩
    show am_Rn _ _ none am_J165 0 [some (.ref 114), some (.int (nI p)), none, none] [] (am_L0 q, G) _
    simp only [am_s165_0, am_s165_1, am_s165_2, am_s165_3, eq_self, am_os_some, Option.toList_some, Option.toList_none, List.cons_append, List.nil_append, if_true, if_false, true_and, am_nw1_i, am_nw1_r, am_nw1_n, cond_true]
    rw [g1, hb, em]
    simp only [am_s165_50, am_s165_51, am_s165_54, am_s165_55, am_s165_56, am_s165_57, am_s165_58, am_s165_59, am_s165_60, am_s165_63, am_s165_64, am_s165_65, am_s165_68, am_s165_69, am_s165_70, am_s165_71, am_s165_72, am_s165_73, am_s165_74, am_s165_77, am_s165_78, am_s165_79, am_s165_80, am_s165_83, am_s165_86, am_s165_89, am_s165_90, am_s165_93, am_s165_95, am_s165_97, am_s165_98, am_s165_99, am_s165_100, am_s165_101, am_s165_102, am_s165_103, am_s165_104, am_s165_105, am_s165_108, am_s165_109, am_s165_110, am_s165_111, am_s165_113, am_s165_116, am_s165_117, h5, am_cal_ok (am_cat_3 _ _ _) am_v114 (am_i130_3 (D := D + 46) j8), kj, s1, am_cal_ok am_cat_0 am_v114 (am_i131_3 (D := D + 46) j8), hG2, am_cal_ok (am_cat_3 _ _ _) am_v114 (am_i130_3 (D := D + 46) hp), kp2, s2, am_cal_ok (am_cat_3 _ _ _) am_rcv_f (am_m127 (D := D + 46) _ _ _), l1, am_cal_ok am_cat_0 am_v114 (am_i131_3 (D := D + 46) hp), hG3, am_f114_0, am_mul8, am_ad47, nI_add, am_cal_ok (am_cat_2 _ _) am_v114 (am_m133 (D := D + 46) hp j8), kd3, s3, am_cal_ok (am_cat_2 _ _) am_rcv_f (am_m127 (D := D + 46) _ _ _), l2, am_w115 (show 47 + 8 * p + j < 281 by omega), eq_self, am_os_some, Option.toList_some, Option.toList_none, List.cons_append, List.nil_append, if_true, if_false, true_and, am_nw1_i, am_nw1_r, am_nw1_n, cond_true]
end AMR8
