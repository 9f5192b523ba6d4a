/-! THE REFERENCE: turn, odds -/
def am_gi (T : am_T) (t w k : Nat) : Nat := if am_gt T t k w = true then 1 else 0
/-- on how many of k DAYS, from DAY D on -/
def am_wk2 (T : am_T) (t w D : Nat) : Nat → Nat
  | 0 => 0
  | k + 1 => am_wk2 T t w D k + am_gi T t w ((D + k) % 7)
theorem am_wk2_le {T : am_T} {t w D : Nat} : ∀ k, am_wk2 T t w D k ≤ k
  | 0 => Nat.le_refl _
  | k + 1 => by
    have := am_wk2_le (T := T) (t := t) (w := w) (D := D) k
    unfold am_wk2 am_gi
    split <;> omega
theorem am_wk2_7 (T : am_T) (t w D : Nat) : am_wk2 T t w D 7 = am_wkd T t w 7 := by
  have e : am_wkd T t w 7 = 0 + am_gi T t w 0 + am_gi T t w 1 + am_gi T t w 2 + am_gi T t w 3 + am_gi T t w 4 + am_gi T t w 5 + am_gi T t w 6 := rfl
  have h : am_wk2 T t w D 7 = 0 + am_gi T t w ((D + 0) % 7) + am_gi T t w ((D + 1) % 7) + am_gi T t w ((D + 2) % 7) + am_gi T t w ((D + 3) % 7) + am_gi T t w ((D + 4) % 7) + am_gi T t w ((D + 5) % 7) + am_gi T t w ((D + 6) % 7) := rfl
  rw [e, h]
  have hd : ∀ k, (D + k) % 7 = (D % 7 + k) % 7 := fun k => by omega
  rw [hd 0, hd 1, hd 2, hd 3, hd 4, hd 5, hd 6]
  have hr : D % 7 < 7 := Nat.mod_lt _ (by decide)
  generalize D % 7 = r at hr
  match r, hr with
  | 0, _ => simp only [Nat.reduceAdd, Nat.reduceMod]
  | 1, _ => simp only [Nat.reduceAdd, Nat.reduceMod]; omega
  | 2, _ => simp only [Nat.reduceAdd, Nat.reduceMod]; omega
  | 3, _ => simp only [Nat.reduceAdd, Nat.reduceMod]; omega
  | 4, _ => simp only [Nat.reduceAdd, Nat.reduceMod]; omega
  | 5, _ => simp only [Nat.reduceAdd, Nat.reduceMod]; omega
  | 6, _ => simp only [Nat.reduceAdd, Nat.reduceMod]; omega
def am_bs2 (T : am_T) (w : Nat) : Nat → Nat × Int32
  | 0 => (0, -1)
  | k + 1 => ((am_bst T w k).1, nI (am_bst T w k).2)
theorem am_bs2_s (T : am_T) (w : Nat) : ∀ k, am_bs2 T w (k + 1) = if nI (am_wkd T k w 7) ≤ (am_bs2 T w k).2 then am_bs2 T w k else (k, nI (am_wkd T k w 7))
  | 0 => by
    have h := am_wkd_le (T := T) (t := 0) (w := w) 7
    have e : ¬ nI (am_wkd T 0 w 7) ≤ (am_bs2 T w 0).2 := fun e => nI_pos (n := am_wkd T 0 w 7) (by omega) (Int32.lt_of_le_of_lt e (show (-1 : Int32) < 0 by decide))
    rw [if_neg e]
    rfl
  | k + 1 => by
    have h := am_wkd_le (T := T) (t := k + 1) (w := w) 7
    have h2 := (am_bst_le (T := T) (w := w) k).2.1
    show ((am_bst T w (k + 1)).1, nI (am_bst T w (k + 1)).2) = if nI (am_wkd T (k + 1) w 7) ≤ nI (am_bst T w k).2 then ((am_bst T w k).1, nI (am_bst T w k).2) else (k + 1, nI (am_wkd T (k + 1) w 7))
    rw [am_bst]
    by_cases c : (am_bst T w k).2 < am_wkd T (k + 1) w 7
    · rw [if_pos c, if_neg (nI_ge c (by omega))]
    · rw [if_neg c, if_pos (nI_le (by omega) (by omega))]
section AMRO6
variable {X : am_X} {D q : Nat} {S : am_S} {T U : am_T} {wh : Int32}
theorem am_m188 {G : am_G} (h : am_rc G S T U wh) (hD : S 13 1 ≤ 9999) {p t : Nat} (hp : p < 8) : ∃ G' : am_G, am_frw G G' ∧ am_CD X (D + 48) 188 [.ref 114, .int (nI p), .int (nI t)] (am_L0 q, G) = some (some (.int (nI (am_wkd T t (S 3 p) 7))), (am_L0 q, G')) := by
  have hl : ∀ (d k : Nat) (G : am_G), k + d = 7 → am_rc G S T U wh → ∃ G' : am_G, am_frw G G' ∧ am_Rn X (D + 47) (some .int) am_J188 5 [some (.ref 114), some (.int (nI p)), some (.int (nI t)), some (.int (nI (am_wk2 T t (S 3 p) (S 13 1) k))), some (.int (nI k))] [] (am_L0 q, G) (some (.int (nI (am_wk2 T t (S 3 p) (S 13 1) 7))), (am_L0 q, G')) := by
    intro d
    induction d with
    | zero =>
      intro k G hk h
      obtain rfl : k = 7 := by omega
      have h1 : ¬ nI 7 < 7 := by decide +kernel
      refine ⟨G, am_frw.rf G, ?_⟩
      simp only [am_s188_5, am_s188_7, am_s188_9, am_s188_44, am_s188_45, h1, eq_self, am_os_some, Option.toList_some, Option.toList_none, List.cons_append, List.nil_append, if_true, if_false, true_and, am_nw1_i, am_nw1_r, am_nw1_n, cond_true]
    | succ d ih =>
      intro k G hk h
      have h1 : nI k < 7 := nI_lt (b := 7) (by omega) (by decide)
      have hi : nI k + 1 = nI (k + 1) := nI_add k 1
      have k0 : G 115 0 = nI (S 13 1) := h.1.1
      have s1 : nI (S 13 1) + nI k = nI (S 13 1 + k) := nI_add _ _
      obtain ⟨G1, f1, g1⟩ := am_m162 (X := X) (D := D) (q := q) (t := t) h hp (d := S 13 1 + k) (by omega)
      obtain ⟨G', f2, g2⟩ := ih (k + 1) G1 (by omega) (h.fr f1)
      refine ⟨G', f1.tr f2, ?_⟩
      have e : am_wk2 T t (S 3 p) (S 13 1) (k + 1) = am_wk2 T t (S 3 p) (S 13 1) k + am_gi T t (S 3 p) ((S 13 1 + k) % 7) := rfl
      have ea : nI (am_wk2 T t (S 3 p) (S 13 1) k) + nI (am_gi T t (S 3 p) ((S 13 1 + k) % 7)) = nI (am_wk2 T t (S 3 p) (S 13 1) k + am_gi T t (S 3 p) ((S 13 1 + k) % 7)) := nI_add _ _
      rw [e] at g2
      unfold am_gi at g2 ea
      cases hg : am_gt T t ((S 13 1 + k) % 7) (S 3 p) with
      | true =>
        rw [hg] at g1 g2 ea
        rw [if_pos rfl] at g2 ea
        have ea' : nI (am_wk2 T t (S 3 p) (S 13 1) k) + 1 = nI (am_wk2 T t (S 3 p) (S 13 1) k + 1) := ea
        simp only [am_s188_5, am_s188_7, am_s188_9, am_s188_12, am_s188_13, am_s188_14, am_s188_15, am_s188_16, am_s188_17, am_s188_20, am_s188_21, am_s188_22, am_s188_24, am_s188_25, am_s188_28, am_s188_31, am_s188_32, am_s188_35, am_s188_36, am_s188_37, am_s188_38, h1, am_f114_0, am_r115_0, k0, s1, am_cal_ok (am_cat_1 _) am_v114 (g1), am_bI0, reduceCtorEq, not_true_eq_false, not_false_eq_true, ea', eq_self, am_os_some, Option.toList_some, Option.toList_none, List.cons_append, List.nil_append, if_true, if_false, true_and, am_nw1_i, am_nw1_r, am_nw1_n, cond_true]
        rw [am_s188_41, hi]
        exact g2
      | false =>
        rw [hg] at g1 g2 ea
        rw [if_neg (show ¬ (false = true) by decide)] at g2 ea
        have ea' : nI (am_wk2 T t (S 3 p) (S 13 1) k) + 0 = nI (am_wk2 T t (S 3 p) (S 13 1) k + 0) := ea
        simp only [am_s188_5, am_s188_7, am_s188_9, am_s188_12, am_s188_13, am_s188_14, am_s188_15, am_s188_16, am_s188_17, am_s188_20, am_s188_21, am_s188_22, am_s188_24, am_s188_25, am_s188_28, am_s188_31, am_s188_32, am_s188_35, am_s188_36, am_s188_37, am_s188_38, h1, am_f114_0, am_r115_0, k0, s1, am_cal_ok (am_cat_1 _) am_v114 (g1), am_bI0, reduceCtorEq, not_true_eq_false, not_false_eq_true, ea', eq_self, am_os_some, Option.toList_some, Option.toList_none, List.cons_append, List.nil_append, if_true, if_false, true_and, am_nw1_i, am_nw1_r, am_nw1_n, cond_true]
        rw [am_s188_41, hi]
        exact g2
  obtain ⟨G', f, g⟩ := hl 7 0 G rfl h
  rw [am_wk2_7] at g
  refine ⟨G', f, am_CD_of (M := am_N188) rfl rfl ?_⟩
  show am_Rn _ _ ((Option.some FieldType.int)) am_J188 0 [some (.ref 114), some (.int (nI p)), some (.int (nI t)), none, none] [] (am_L0 q, G) _
  simp only [am_s188_0, am_s188_1, am_s188_2, am_s188_3, eq_self, am_os_some, Option.toList_some, Option.toList_none, List.cons_append, List.nil_append, if_true, if_false, true_and, am_nw1_i, am_nw1_r, am_nw1_n, cond_true]
  exact g
theorem am_l189 (hD : S 13 1 ≤ 9999) {p : Nat} {w : Int32} (hp : p < 8) : ∀ (d k : Nat) (G : am_G) (y : Option Value), k + d = 16 → am_rc G S T U wh → ∃ (G' : am_G) (y' : Option Value), am_frw G G' ∧ ∀ o, am_Rn X 99 (some .int) am_J189 32 [some (.ref 114), some (.int (nI p)), some (.int w), some (.int (nI (am_bs2 T (S 3 p) k).1)), some (.int (am_bs2 T (S 3 p) k).2), some (.int (nI k)), y] [] (am_L0 q, G) o = am_Rn X 99 (some .int) am_J189 84 [some (.ref 114), some (.int (nI p)), some (.int w), some (.int (nI (am_bst T (S 3 p) 15).1)), some (.int (nI (am_bst T (S 3 p) 15).2)), some (.int (nI 16)), y'] [] (am_L0 q, G') o := by
  intro d
  induction d with
  | zero =>
    intro k G y hk h
    obtain rfl : k = 16 := by omega
    have h1 : ¬ nI 16 ≤ 15 := by decide +kernel
    refine ⟨G, y, am_frw.rf G, fun o => ?_⟩
    simp only [am_s189_32, am_s189_34, am_s189_36, h1, eq_self, am_os_some, Option.toList_some, Option.toList_none, List.cons_append, List.nil_append, if_true, if_false, true_and, am_nw1_i, am_nw1_r, am_nw1_n, cond_true]
    rfl
  | succ d ih =>
    intro k G y hk h
    have h1 : nI k ≤ 15 := nI_le (b := 15) (by omega) (by decide)
    have hi : nI k + 1 = nI (k + 1) := nI_add k 1
    obtain ⟨G1, f1, g1⟩ := am_m188 (X := X) (D := 51) (q := q) (t := k) h hD hp
    obtain ⟨G', y', f2, g2⟩ := ih (k + 1) G1 (some (.int (nI (am_wkd T k (S 3 p) 7)))) (by omega) (h.fr f1)
    refine ⟨G', y', f1.tr f2, fun o => ?_⟩
    have g2 := g2 o
    rw [am_bs2_s] at g2
    by_cases c : nI (am_wkd T k (S 3 p) 7) ≤ (am_bs2 T (S 3 p) k).2
    · rw [if_pos c] at g2
      simp only [am_s189_32, am_s189_34, am_s189_36, am_s189_39, am_s189_40, am_s189_41, am_s189_43, am_s189_46, am_s189_48, am_s189_50, am_s189_52, am_s189_55, am_s189_57, am_s189_60, am_s189_61, am_s189_62, am_s189_64, am_s189_66, am_s189_69, am_s189_71, am_s189_74, am_s189_76, am_s189_78, h1, am_cal_ok am_cat_0 am_v114 (g1), c, not_true_eq_false, not_false_eq_true, eq_self, am_os_some, Option.toList_some, Option.toList_none, List.cons_append, List.nil_append, if_true, if_false, true_and, am_nw1_i, am_nw1_r, am_nw1_n, cond_true]
      rw [am_s189_81, hi]
      exact g2
    · rw [if_neg c] at g2
      simp only [am_s189_32, am_s189_34, am_s189_36, am_s189_39, am_s189_40, am_s189_41, am_s189_43, am_s189_46, am_s189_48, am_s189_50, am_s189_52, am_s189_55, am_s189_57, am_s189_60, am_s189_61, am_s189_62, am_s189_64, am_s189_66, am_s189_69, am_s189_71, am_s189_74, am_s189_76, am_s189_78, h1, am_cal_ok am_cat_0 am_v114 (g1), c, not_true_eq_false, not_false_eq_true, eq_self, am_os_some, Option.toList_some, Option.toList_none, List.cons_append, List.nil_append, if_true, if_false, true_and, am_nw1_i, am_nw1_r, am_nw1_n, cond_true]
      rw [am_s189_81, hi]
      exact g2
theorem am_r189 {a w : Int32} {s : am_St} (hs : am_oks s) : am_rO 189 [.int a, .int w] s (am_O97 a w s) := by
  unfold am_O97
  have h8 := hs.1.1.1
  have hD := hs.1.2.1
  cases h1 : am_ip (s.1.1 13 0) a with
  | false =>
    refine am_rO_err (k := 1) (r := -1000000001) (by decide) am_ec1.symm fun X q G hc => am_CD_of (M := am_N189) rfl rfl ?_
    have hn : G 115 2 = nI (s.1.1 13 0) := hc.1.1.2.1
    show am_Rn _ _ ((Option.some FieldType.int)) am_J189 0 [some (.ref 114), some (.int a), some (.int w), none, none, none, none] [] (am_L0 q, G) _
    simp only [am_s189_0, am_s189_1, am_s189_2, am_s189_5, am_s189_8, am_s189_9, am_s189_10, am_s189_11, am_s189_14, am_s189_17, am_s189_18, am_s189_20, am_s189_23, h1, am_cal_ok am_cat_0 am_v114 (am_y132 (D := 97) h8 hn _), am_cal_ok am_cat_0 am_v114 (am_d1 (D := 98)), am_cal_ok am_cat_0 am_v114 (am_d2 (D := 98)), am_cal_ok am_cat_0 am_v114 (am_d3 (D := 98)), am_cal_ok am_cat_0 am_v114 (am_d4 (D := 98)), am_cal_ok am_cat_0 am_v114 (am_d5 (D := 98)), am_cal_ok am_cat_0 am_rcv_f (am_y125 _ _), am_cal_ok am_cat_0 am_rcv_f (am_m183 (D := 97) _), am_bI0, am_f114_0, am_er_f, am_sy_f, Bool.false_and, Bool.and_false, reduceCtorEq, not_false_eq_true, not_true_eq_false, eq_self, am_os_some, Option.toList_some, Option.toList_none, List.cons_append, List.nil_append, if_true, if_false, true_and, am_nw1_i, am_nw1_r, am_nw1_n, cond_true]
  | true =>
    cases h2 : am_wi w 1 with
    | false =>
      rw [if_pos (by decide)]
      refine am_rO_err (k := 1) (r := -1000000001) (by decide) am_ec1.symm fun X q G hc => am_CD_of (M := am_N189) rfl rfl ?_
      have hn : G 115 2 = nI (s.1.1 13 0) := hc.1.1.2.1
      show am_Rn _ _ ((Option.some FieldType.int)) am_J189 0 [some (.ref 114), some (.int a), some (.int w), none, none, none, none] [] (am_L0 q, G) _
      simp only [am_s189_0, am_s189_1, am_s189_2, am_s189_5, am_s189_8, am_s189_9, am_s189_10, am_s189_11, am_s189_14, am_s189_17, am_s189_18, am_s189_20, am_s189_23, h1, h2, am_cal_ok am_cat_0 am_v114 (am_y132 (D := 97) h8 hn _), am_cal_ok am_cat_0 am_v114 (am_d1 (D := 98)), am_cal_ok am_cat_0 am_v114 (am_d2 (D := 98)), am_cal_ok am_cat_0 am_v114 (am_d3 (D := 98)), am_cal_ok am_cat_0 am_v114 (am_d4 (D := 98)), am_cal_ok am_cat_0 am_v114 (am_d5 (D := 98)), am_cal_ok am_cat_0 am_rcv_f (am_y125 _ _), am_cal_ok am_cat_0 am_rcv_f (am_m183 (D := 97) _), am_bI0, am_f114_0, am_er_f, am_sy_f, Bool.false_and, Bool.and_false, reduceCtorEq, not_false_eq_true, not_true_eq_false, eq_self, am_os_some, Option.toList_some, Option.toList_none, List.cons_append, List.nil_append, if_true, if_false, true_and, am_nw1_i, am_nw1_r, am_nw1_n, cond_true]
    | true =>
      rw [if_neg (by decide)]
      obtain ⟨a1, a2⟩ := am_ip_nI h8 h1
      obtain ⟨w1, w2⟩ := am_wi_nI (n := 1) (by decide) h2
      generalize a.toNatClampNeg = p at a1 a2
      generalize w.toNatClampNeg = w at w1 w2
      subst a2 w2
      have p8 : p < 8 := by omega
      refine am_rO_same fun N xs q G hc => ?_
      have hn : G 115 2 = nI (s.1.1 13 0) := hc.1.1.2.1
      obtain ⟨G', y', f, g⟩ := am_l189 (X := am_X0 N xs) (q := q) (w := nI w) hD p8 16 0 G none rfl (am_rfl_rc hc)
      have e1 : (am_bs2 s.1.2.1 (s.1.1 3 p) 0).1 = 0 := rfl
      have e2 : (am_bs2 s.1.2.1 (s.1.1 3 p) 0).2 = -1 := rfl
      rw [e1, e2, nI_0] at g
      have eb := (am_bst_le (T := s.1.2.1) (w := s.1.1 3 p) 15).2.2
      refine ⟨G', fun i j hi => f i j (by omega), fun i j _ _ _ _ _ e => f i j (fun e1 => by have := e e1; omega), am_CD_of (M := am_N189) rfl rfl ?_⟩
      show am_Rn _ _ ((Option.some FieldType.int)) am_J189 0 [some (.ref 114), some (.int (nI p)), some (.int (nI w)), none, none, none, none] [] (am_L0 q, G) _
      simp only [am_s189_0, am_s189_1, am_s189_2, am_s189_5, am_s189_8, am_s189_9, am_s189_10, am_s189_11, am_s189_14, am_s189_17, am_s189_18, am_s189_20, am_s189_23, am_s189_24, am_s189_25, am_s189_26, am_s189_27, am_s189_29, am_s189_30, am_cal_ok am_cat_0 am_v114 (am_y132 (D := 97) h8 hn _), h1, h2, am_cal_ok am_cat_0 am_v114 (am_d1 (D := 98)), am_cal_ok am_cat_0 am_v114 (am_d2 (D := 98)), am_cal_ok am_cat_0 am_v114 (am_d3 (D := 98)), am_cal_ok am_cat_0 am_v114 (am_d4 (D := 98)), am_cal_ok am_cat_0 am_v114 (am_d5 (D := 98)), am_cal_ok am_cat_0 am_rcv_f (am_y125 _ _), am_cal_ok am_cat_0 am_rcv_f (am_m183 (D := 97) _), am_bI0, am_f114_0, am_er_f, am_sy_f, Bool.false_and, Bool.and_false, reduceCtorEq, not_false_eq_true, not_true_eq_false, eq_self, am_os_some, Option.toList_some, Option.toList_none, List.cons_append, List.nil_append, if_true, if_false, true_and, am_nw1_i, am_nw1_r, am_nw1_n, cond_true]
      refine (g _).mpr ?_
      by_cases c : w = 0
      · subst c
        have e0 : (nI 0 = 0) = True := by decide
        simp only [am_s189_84, am_s189_85, am_s189_88, am_s189_89, am_s189_92, am_s189_94, e0, not_true_eq_false, am_cal_ok am_cat_0 am_v114 (am_d1 (D := 98)), am_cal_ok am_cat_0 am_v114 (am_d2 (D := 98)), am_cal_ok am_cat_0 am_v114 (am_d3 (D := 98)), am_cal_ok am_cat_0 am_v114 (am_d4 (D := 98)), am_cal_ok am_cat_0 am_v114 (am_d5 (D := 98)), am_cal_ok am_cat_0 am_rcv_f (am_y125 _ _), am_cal_ok am_cat_0 am_rcv_f (am_m183 (D := 97) _), am_bI0, am_f114_0, am_er_f, am_sy_f, Bool.false_and, Bool.and_false, reduceCtorEq, not_false_eq_true, not_true_eq_false, eq_self, am_os_some, Option.toList_some, Option.toList_none, List.cons_append, List.nil_append, if_true, if_false, true_and, am_nw1_i, am_nw1_r, am_nw1_n, cond_true]
      · have e0 : ¬ nI w = 0 := nI_ne0 (by omega) (by omega)
        simp only [am_s189_84, am_s189_85, am_s189_88, am_s189_89, am_s189_92, am_s189_94, e0, c, ← eb, not_false_eq_true, am_cal_ok am_cat_0 am_v114 (am_d1 (D := 98)), am_cal_ok am_cat_0 am_v114 (am_d2 (D := 98)), am_cal_ok am_cat_0 am_v114 (am_d3 (D := 98)), am_cal_ok am_cat_0 am_v114 (am_d4 (D := 98)), am_cal_ok am_cat_0 am_v114 (am_d5 (D := 98)), am_cal_ok am_cat_0 am_rcv_f (am_y125 _ _), am_cal_ok am_cat_0 am_rcv_f (am_m183 (D := 97) _), am_bI0, am_f114_0, am_er_f, am_sy_f, Bool.false_and, Bool.and_false, reduceCtorEq, not_false_eq_true, not_true_eq_false, eq_self, am_os_some, Option.toList_some, Option.toList_none, List.cons_append, List.nil_append, if_true, if_false, true_and, am_nw1_i, am_nw1_r, am_nw1_n, cond_true]
/-- the greatest common divisor -/
theorem am_m194 {a b : Nat} {w0 : am_M} (ha : a < 2 ^ 31) (hb : b < 2 ^ 31) : am_CD X (D + 1) 194 [.int (nI a), .int (nI b)] w0 = some (some (.int (nI (Nat.gcd b a))), w0) := by
  have hl : ∀ (f x y : Nat) (z : Option Value), y < f → x < 2 ^ 31 → y < 2 ^ 31 → am_nw1 (some (.int (nI y))) = true → am_Rn X D (some .int) am_J194 4 [some (.int (nI a)), some (.int (nI b)), some (.int (nI x)), some (.int (nI y)), z] [] w0 (some (.int (nI (Nat.gcd y x))), w0) := by
    intro f
    induction f with
    | zero => intro x y z h; omega
    | succ f ih =>
      intro x y z hf hx hy _
      rcases Nat.eq_zero_or_pos y with e | e
      · subst e
        have e0 : (nI 0 = 0) = True := by decide
        rw [Nat.gcd_zero_left]
        simp only [am_s194_4, am_s194_5, am_s194_21, am_s194_22, e0, not_true_eq_false, eq_self, am_os_some, Option.toList_some, Option.toList_none, List.cons_append, List.nil_append, if_true, if_false, true_and, am_nw1_i, am_nw1_r, am_nw1_n, cond_true]
      · have e0 : ¬ nI y = 0 := nI_ne0 e hy
        have er : nI x - nI x / nI y * nI y = nI (x % y) := pk_rem hx e hy
        have hlt := Nat.mod_lt x e
        have ih1 := ih y (x % y) (some (.int (nI (x % y)))) (by omega) hy (by omega) rfl
        have eg : Nat.gcd y x = Nat.gcd (x % y) y := Nat.gcd_rec y x
        rw [eg]
        simp only [am_s194_4, am_s194_5, am_s194_8, am_s194_9, am_s194_10, am_s194_11, am_s194_13, am_s194_14, am_s194_15, am_s194_17, e0, er, not_false_eq_true, eq_self, am_os_some, Option.toList_some, Option.toList_none, List.cons_append, List.nil_append, if_true, if_false, true_and, am_nw1_i, am_nw1_r, am_nw1_n, cond_true]
        rw [am_s194_18]
        exact ih1
  refine am_CD_of (M := am_N194) rfl rfl ?_
  show am_Rn _ _ ((Option.some FieldType.int)) am_J194 0 [some (.int (nI a)), some (.int (nI b)), none, none, none] [] w0 _
  simp only [am_s194_0, am_s194_1, am_s194_2, am_s194_3, eq_self, am_os_some, Option.toList_some, Option.toList_none, List.cons_append, List.nil_append, if_true, if_false, true_and, am_nw1_i, am_nw1_r, am_nw1_n, cond_true]
  exact hl (b + 1) a b none (by omega) ha hb rfl
theorem am_odd : ∀ so : Fin 8, (¬ nI (Nat.gcd 7 so.1) = 0) ∧ nI so.1 / nI (Nat.gcd 7 so.1) = (if so.1 = 7 then 1 else nI so.1) ∧ (7 : Int32) / nI (Nat.gcd 7 so.1) = (if so.1 = 7 ∨ so.1 = 0 then 1 else 7) := by decide +kernel
theorem am_r195 {a w : Int32} {s : am_St} (hs : am_oks s) : am_rO 195 [.int a, .int w] s (am_O102 a w s) := by
  unfold am_O102
  have h8 := hs.1.1.1
  have hD := hs.1.2.1
  cases h1 : am_ip (s.1.1 13 0) a with
  | false =>
    refine am_rO_err (k := 1) (r := -1000000001) (by decide) am_ec1.symm fun X q G hc => am_CD_of (M := am_N195) rfl rfl ?_
    have hn : G 115 2 = nI (s.1.1 13 0) := hc.1.1.2.1
    show am_Rn _ _ ((Option.some FieldType.int)) am_J195 0 [some (.ref 114), some (.int a), some (.int w), none, none] [] (am_L0 q, G) _
    simp only [am_s195_0, am_s195_1, am_s195_2, am_s195_5, am_s195_8, am_s195_9, am_s195_10, am_s195_11, am_s195_14, am_s195_17, am_s195_18, am_s195_20, am_s195_23, h1, am_cal_ok am_cat_0 am_v114 (am_y132 (D := 97) h8 hn _), am_cal_ok am_cat_0 am_v114 (am_d1 (D := 98)), am_cal_ok am_cat_0 am_v114 (am_d2 (D := 98)), am_cal_ok am_cat_0 am_v114 (am_d3 (D := 98)), am_cal_ok am_cat_0 am_v114 (am_d4 (D := 98)), am_cal_ok am_cat_0 am_v114 (am_d5 (D := 98)), am_cal_ok am_cat_0 am_rcv_f (am_y125 _ _), am_cal_ok am_cat_0 am_rcv_f (am_m183 (D := 97) _), am_bI0, am_f114_0, am_er_f, am_sy_f, Bool.false_and, Bool.and_false, reduceCtorEq, not_false_eq_true, not_true_eq_false, eq_self, am_os_some, Option.toList_some, Option.toList_none, List.cons_append, List.nil_append, if_true, if_false, true_and, am_nw1_i, am_nw1_r, am_nw1_n, cond_true]
  | true =>
    cases h2 : am_wi w 1 with
    | false =>
      rw [if_pos (by decide)]
      refine am_rO_err (k := 1) (r := -1000000001) (by decide) am_ec1.symm fun X q G hc => am_CD_of (M := am_N195) rfl rfl ?_
      have hn : G 115 2 = nI (s.1.1 13 0) := hc.1.1.2.1
      show am_Rn _ _ ((Option.some FieldType.int)) am_J195 0 [some (.ref 114), some (.int a), some (.int w), none, none] [] (am_L0 q, G) _
      simp only [am_s195_0, am_s195_1, am_s195_2, am_s195_5, am_s195_8, am_s195_9, am_s195_10, am_s195_11, am_s195_14, am_s195_17, am_s195_18, am_s195_20, am_s195_23, h1, h2, am_cal_ok am_cat_0 am_v114 (am_y132 (D := 97) h8 hn _), am_cal_ok am_cat_0 am_v114 (am_d1 (D := 98)), am_cal_ok am_cat_0 am_v114 (am_d2 (D := 98)), am_cal_ok am_cat_0 am_v114 (am_d3 (D := 98)), am_cal_ok am_cat_0 am_v114 (am_d4 (D := 98)), am_cal_ok am_cat_0 am_v114 (am_d5 (D := 98)), am_cal_ok am_cat_0 am_rcv_f (am_y125 _ _), am_cal_ok am_cat_0 am_rcv_f (am_m183 (D := 97) _), am_bI0, am_f114_0, am_er_f, am_sy_f, Bool.false_and, Bool.and_false, reduceCtorEq, not_false_eq_true, not_true_eq_false, eq_self, am_os_some, Option.toList_some, Option.toList_none, List.cons_append, List.nil_append, if_true, if_false, true_and, am_nw1_i, am_nw1_r, am_nw1_n, cond_true]
    | true =>
      rw [if_neg (by decide)]
      obtain ⟨a1, a2⟩ := am_ip_nI h8 h1
      obtain ⟨w1, w2⟩ := am_wi_nI (n := 1) (by decide) h2
      generalize a.toNatClampNeg = p at a1 a2
      generalize w.toNatClampNeg = w at w1 w2
      subst a2 w2
      have p8 : p < 8 := by omega
      refine am_rO_same fun N xs q G hc => ?_
      have hn : G 115 2 = nI (s.1.1 13 0) := hc.1.1.2.1
      have k2 := hc.1.1.2.2.1 p 2 p8 (by decide)
      obtain ⟨G', f, g⟩ := am_m188 (X := am_X0 N xs) (D := 51) (q := q) (t := s.1.1 2 p) (am_rfl_rc hc) hD p8
      have hle := am_wkd_le (T := s.1.2.1) (t := s.1.1 2 p) (w := s.1.1 3 p) 7
      generalize am_wkd s.1.2.1 (s.1.1 2 p) (s.1.1 3 p) 7 = so at g hle
      obtain ⟨o1, o2, o3⟩ := am_odd ⟨so, by omega⟩
      dsimp only at o1 o2 o3
      have g194 : am_CD (am_X0 N xs) 99 194 [.int (nI so), .int 7] (am_L0 q, G') = _ := am_m194 (X := am_X0 N xs) (D := 98) (a := so) (b := 7) (by omega) (by decide)
      refine ⟨G', fun i j hi => f i j (by omega), fun i j _ _ _ _ _ e => f i j (fun e1 => by have := e e1; omega), am_CD_of (M := am_N195) rfl rfl ?_⟩
      show am_Rn _ _ ((Option.some FieldType.int)) am_J195 0 [some (.ref 114), some (.int (nI p)), some (.int (nI w)), none, none] [] (am_L0 q, G) _
      by_cases c : w = 0
      · subst c
        have e0 : (nI 0 = 0) = True := by decide
        simp only [am_s195_0, am_s195_1, am_s195_2, am_s195_5, am_s195_8, am_s195_9, am_s195_10, am_s195_11, am_s195_14, am_s195_17, am_s195_18, am_s195_20, am_s195_23, am_s195_24, am_s195_25, am_s195_26, am_s195_27, am_s195_28, am_s195_29, am_s195_32, am_s195_35, am_s195_36, am_s195_37, am_s195_39, am_s195_42, am_s195_44, am_s195_45, am_s195_48, am_s195_49, am_s195_51, am_s195_52, am_s195_55, am_s195_57, am_s195_59, am_s195_60, am_cal_ok am_cat_0 am_v114 (am_y132 (D := 97) h8 hn _), h1, h2, am_cal_ok (am_cat_2 _ _) am_v114 (am_i130_2 (D := 98) p8), k2, am_cal_ok am_cat_0 am_v114 (g), am_cal_ok am_cat_0 am_rcv_f (g194), e0, o1, o2, not_true_eq_false, not_false_eq_true, am_cal_ok am_cat_0 am_v114 (am_d1 (D := 98)), am_cal_ok am_cat_0 am_v114 (am_d2 (D := 98)), am_cal_ok am_cat_0 am_v114 (am_d3 (D := 98)), am_cal_ok am_cat_0 am_v114 (am_d4 (D := 98)), am_cal_ok am_cat_0 am_v114 (am_d5 (D := 98)), am_cal_ok am_cat_0 am_rcv_f (am_y125 _ _), am_cal_ok am_cat_0 am_rcv_f (am_m183 (D := 97) _), am_bI0, am_f114_0, am_er_f, am_sy_f, Bool.false_and, Bool.and_false, reduceCtorEq, not_false_eq_true, not_true_eq_false, eq_self, am_os_some, Option.toList_some, Option.toList_none, List.cons_append, List.nil_append, if_true, if_false, true_and, am_nw1_i, am_nw1_r, am_nw1_n, cond_true]
      · have e0 : ¬ nI w = 0 := nI_ne0 (by omega) (by omega)
        simp only [am_s195_0, am_s195_1, am_s195_2, am_s195_5, am_s195_8, am_s195_9, am_s195_10, am_s195_11, am_s195_14, am_s195_17, am_s195_18, am_s195_20, am_s195_23, am_s195_24, am_s195_25, am_s195_26, am_s195_27, am_s195_28, am_s195_29, am_s195_32, am_s195_35, am_s195_36, am_s195_37, am_s195_39, am_s195_42, am_s195_44, am_s195_45, am_s195_48, am_s195_49, am_s195_51, am_s195_52, am_s195_55, am_s195_57, am_s195_59, am_s195_60, am_cal_ok am_cat_0 am_v114 (am_y132 (D := 97) h8 hn _), h1, h2, am_cal_ok (am_cat_2 _ _) am_v114 (am_i130_2 (D := 98) p8), k2, am_cal_ok am_cat_0 am_v114 (g), am_cal_ok am_cat_0 am_rcv_f (g194), e0, c, o1, o3, not_true_eq_false, not_false_eq_true, am_cal_ok am_cat_0 am_v114 (am_d1 (D := 98)), am_cal_ok am_cat_0 am_v114 (am_d2 (D := 98)), am_cal_ok am_cat_0 am_v114 (am_d3 (D := 98)), am_cal_ok am_cat_0 am_v114 (am_d4 (D := 98)), am_cal_ok am_cat_0 am_v114 (am_d5 (D := 98)), am_cal_ok am_cat_0 am_rcv_f (am_y125 _ _), am_cal_ok am_cat_0 am_rcv_f (am_m183 (D := 97) _), am_bI0, am_f114_0, am_er_f, am_sy_f, Bool.false_and, Bool.and_false, reduceCtorEq, not_false_eq_true, not_true_eq_false, eq_self, am_os_some, Option.toList_some, Option.toList_none, List.cons_append, List.nil_append, if_true, if_false, true_and, am_nw1_i, am_nw1_r, am_nw1_n, cond_true]
end AMRO6
