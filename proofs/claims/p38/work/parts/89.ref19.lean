/-! THE REFERENCE: loose -/
def am_rkz (R R' : am_Ro) : Prop := ∀ k, 3 ≤ k → (k < 7 ∨ 111 ≤ k) → R' k = R k
def am_frz (G G' : am_G) : Prop := (∀ i j, (i = 114 → j < 7 ∨ 14 < j) → i ≠ 115 → G' i j = G i j) ∧ am_rkz (G 115) (G' 115)
theorem am_frz.rf (G : am_G) : am_frz G G := ⟨fun _ _ _ _ => rfl, fun _ _ _ => rfl⟩
theorem am_frz.tr {G G1 G2 : am_G} (h1 : am_frz G G1) (h2 : am_frz G1 G2) : am_frz G G2 := ⟨fun i j a b => (h2.1 i j a b).trans (h1.1 i j a b), fun k a b => (h2.2 k a b).trans (h1.2 k a b)⟩
theorem am_frs.z {G G' : am_G} (h : am_frs G G') : am_frz G G' := ⟨h.1, fun k a b => h.2 k (Or.inr a) b⟩
theorem am_frz_up (G : am_G) {k : Nat} (v : Int32) (h : k < 3 ∨ 7 ≤ k ∧ k < 111) : am_frz G (am_up G 115 k v) := ⟨fun i j _ b => by rw [am_up_get, if_neg b], fun j a b => by rw [am_up_get, if_pos rfl, if_neg (by omega)]⟩
theorem am_rx_frz {R R' : am_Ro} {u : Nat} {T : am_T} (h : am_rx R u T) (hu : u < 2) (hf : am_rkz R R') : am_rx R' u T := by
  rcases h with ⟨h1, h2⟩ | ⟨B, n, h1, h2, h3, h4⟩
  · exact Or.inl ⟨h1, by rw [hf _ (by omega) (by omega)]; exact h2⟩
  · exact Or.inr ⟨B, n, h1, by rw [hf _ (by omega) (by omega)]; exact h2, fun j hj => by rw [hf _ (by omega) (by omega)]; exact h3 j hj, h4⟩
theorem am_rc.Z {G G' : am_G} {S S1 : am_S} {T U : am_T} {wh : Int32} (h : am_rc G S T U wh) (hf : am_frz G G') (h1 : am_rp (G' 115) S1) : am_rc G' S1 T U wh := ⟨h1, am_rx_frz h.2.1 (by decide) hf.2, am_rx_frz h.2.2.1 (by decide) hf.2, by rw [hf.1 114 15 (by omega) (by decide)]; exact h.2.2.2⟩
theorem am_rp_z {R : am_Ro} {S : am_S} {v : Int32} (h : am_rp R S) : am_rp (am_ru R 1 v) S := ⟨by rw [am_ru_get, if_neg (by decide)]; exact h.1, by rw [am_ru_get, if_neg (by decide)]; exact h.2.1, fun p f hp hf => by rw [am_ru_get, if_neg (by omega)]; exact h.2.2.1 p f hp hf, fun a b ha hb => by rw [am_ru_get, if_neg (by omega)]; exact h.2.2.2 a b ha hb⟩
theorem am_rw8_Z {R R' : am_Ro} {W : am_We} {S : am_S} {z : Int32} (h : am_rw8 R W) (hf : am_rkz R R') (h1 : am_rp R' S) (hz : R' 1 = z) : am_rw8 R' (S, W.2.1, W.2.2.1, W.2.2.2.1, W.2.2.2.2.1, z) := by
  obtain ⟨-, a2, a3, ⟨a4, a5⟩, ⟨a6, a7⟩, -⟩ := h
  exact ⟨h1, am_rx_frz a2 (by decide) hf, am_rx_frz a3 (by decide) hf, ⟨by rw [hf 3 (by omega) (by omega)]; exact a4, fun j hj => by rw [hf _ (by omega) (by omega)]; exact a5 j hj⟩, ⟨by rw [hf 4 (by omega) (by omega)]; exact a6, fun j hj => by rw [hf _ (by omega) (by omega)]; exact a7 j hj⟩, hz⟩
section AMRJ9
variable {X : am_X} {q : Nat} {S : am_S} {T U : am_T} {wh z : Int32}
theorem am_l171a (hw : am_wf S) {n k0 : Int32} : ∀ (d k : Nat) (G : am_G) (y : Option Value), k + d = S 13 0 → am_rc G (am_dwt S z k).1 T U wh → G 115 1 = (am_dwt S z k).2 → ∃ (G' : am_G) (y' : Option Value), am_frz G G' ∧ am_rc G' (am_dwt S z (S 13 0)).1 T U wh ∧ G' 115 1 = (am_dwt S z (S 13 0)).2 ∧ ∀ o, am_Rn X 99 (some .int) am_J171 47 [some (.ref 114), some (.int n), some (.int k0), some (.int (nI k)), y] [] (am_L0 q, G) o = am_Rn X 99 (some .int) am_J171 108 [some (.ref 114), some (.int n), some (.int k0), some (.int (nI (S 13 0))), y'] [] (am_L0 q, G') o := by
  have h8 := hw.1
  intro d
  induction d with
  | zero =>
    intro k G y hk h hz
    obtain rfl : k = S 13 0 := by omega
    have e13 := (am_wf_dwt (z := z) hw (S 13 0) h8).2
    have k2 : G 115 2 = nI (S 13 0) := by have := h.1.2.1; rw [e13] at this; exact this
    have h1 : ¬ nI (S 13 0) < nI (S 13 0) := Int32.lt_irrefl
    refine ⟨G, y, am_frz.rf G, h, hz, fun o => ?_⟩
    simp only [am_s171_47, am_s171_48, am_s171_49, am_s171_52, am_s171_53, am_s171_54, am_f114_0, am_r115_2, k2, h1, eq_self, am_os_some, Option.toList_some, Option.toList_none, List.cons_append, List.nil_append, if_true, if_false, true_and, am_nw1_i, am_nw1_r, am_nw1_n, cond_true]
  | succ d ih =>
    intro k G y hk h hz
    have k8 : k < 8 := by omega
    obtain ⟨w1, e13⟩ := am_wf_dwt (z := z) hw k (by omega)
    have k2 : G 115 2 = nI (S 13 0) := by have := h.1.2.1; rw [e13] at this; exact this
    have h1 : nI k < nI (S 13 0) := nI_lt (by omega) (by omega)
    have hi : nI k + 1 = nI (k + 1) := nI_add k 1
    obtain ⟨z1, z2⟩ := am_zd_ze (am_dwt S z k).2
    have g170 := am_m170 (X := X) (D := 98) (q := q) (G := G)
    rw [hz, z1] at g170
    have ht := (w1.2.1 k k8).2.2.1
    have r8 : nI (am_ze (am_dwt S z k).2) - nI (am_ze (am_dwt S z k).2) / 8 * 8 = nI (am_ze (am_dwt S z k).2 % 8) := pk_rem (d := 8) (by omega) (by decide) (by decide)
    have d8 : nI (am_ze (am_dwt S z k).2) / 8 = nI (am_ze (am_dwt S z k).2 / 8) := pk_div (d := 8) (by omega) (by decide) (by decide)
    have r4 : nI (am_ze (am_dwt S z k).2 / 8) - nI (am_ze (am_dwt S z k).2 / 8) / 4 * 4 = nI (am_ze (am_dwt S z k).2 / 8 % 4) := pk_rem (d := 4) (by omega) (by decide) (by decide)
    have bx := (am_tv1 ⟨am_ze (am_dwt S z k).2 / 8 % 4, by omega⟩ ⟨(am_dwt S z k).1 2 k, by omega⟩).1
    dsimp only at bx
    rw [d8] at r8
    have e80 : ((8 : Int32) = 0) = False := by decide
    have e40 : ((4 : Int32) = 0) = False := by decide
    have ev : am_dwt S z (k + 1) = (am_su (am_dwt S z k).1 2 k (am_tv (am_ze (am_dwt S z k).2) ((am_dwt S z k).1 2 k)), am_zn (am_dwt S z k).2) := rfl
    generalize hG1 : am_up G 115 1 (am_zn (am_dwt S z k).2) = G1 at g170
    have fz1 : am_frz G G1 := by rw [← hG1]; exact am_frz_up _ _ (by omega)
    have cG1 : am_rc G1 (am_dwt S z k).1 T U wh := h.Z fz1 (by rw [← hG1, am_up_row]; exact am_rp_z h.1)
    have zG1 : G1 115 1 = am_zn (am_dwt S z k).2 := by rw [← hG1, am_up_get, if_pos rfl, if_pos rfl]
    have c31 : G1 115 (7 + 5 * k + 2) = nI ((am_dwt S z k).1 2 k) := cG1.1.2.2.1 k 2 k8 (by decide)
    generalize hv : am_tv (am_ze (am_dwt S z k).2) ((am_dwt S z k).1 2 k) = v at ev
    have fz2 : am_frz G1 (am_up G1 115 (7 + 5 * k + 2) (nI v)) := am_frz_up _ _ (by omega)
    obtain ⟨G', y', f2, c2, q2, g2⟩ := ih (k + 1) (am_up G1 115 (7 + 5 * k + 2) (nI v)) (some (.int (nI (am_ze (am_dwt S z k).2)))) (by omega) (by rw [ev]; exact cG1.Z fz2 (by rw [am_up_row]; exact am_rp_up cG1.1 (by decide) k8)) (by rw [ev, am_up_get, if_pos rfl, if_neg (by omega)]; exact zG1)
    refine ⟨G', y', (fz1.tr fz2).tr f2, c2, q2, fun o => ?_⟩
    unfold am_tv at hv
    by_cases c : am_ze (am_dwt S z k).2 % 8 = 0
    · have e0 : nI (am_ze (am_dwt S z k).2 % 8) = 0 := by rw [c]; rfl
      rw [if_pos c] at hv
      rw [hv] at bx
      simp only [am_s171_47, am_s171_48, am_s171_49, am_s171_52, am_s171_53, am_s171_54, am_s171_57, am_s171_58, am_s171_61, am_s171_63, am_s171_64, am_s171_65, am_s171_66, am_s171_68, am_s171_70, am_s171_71, am_s171_74, am_s171_75, am_s171_76, am_s171_77, am_s171_80, am_s171_81, am_s171_83, am_s171_85, am_s171_86, am_s171_87, am_s171_88, am_s171_89, am_s171_90, am_s171_93, am_s171_94, am_s171_95, am_s171_96, am_s171_99, am_s171_102, am_f114_0, am_r115_2, k2, h1, am_cal_ok am_cat_0 am_v114 (g170), d8, r8, e0, r4, e80, e40, not_false_eq_true, not_true_eq_false, am_cal_ok (am_cat_3 _ _ _) am_v114 (am_i130_2 (D := 98) k8), c31, bx, am_cal_ok am_cat_0 am_v114 (am_i131_2 (D := 98) k8), eq_self, am_os_some, Option.toList_some, Option.toList_none, List.cons_append, List.nil_append, if_true, if_false, true_and, am_nw1_i, am_nw1_r, am_nw1_n, cond_true]
      rw [am_s171_105, hi]
      exact g2 o
    · have e0 : ¬ nI (am_ze (am_dwt S z k).2 % 8) = 0 := nI_ne0 (by omega) (by omega)
      rw [if_neg c] at hv
      simp only [am_s171_47, am_s171_48, am_s171_49, am_s171_52, am_s171_53, am_s171_54, am_s171_57, am_s171_58, am_s171_61, am_s171_63, am_s171_64, am_s171_65, am_s171_66, am_s171_68, am_s171_70, am_s171_71, am_s171_74, am_s171_75, am_s171_76, am_s171_77, am_s171_80, am_s171_81, am_s171_83, am_s171_85, am_s171_86, am_s171_87, am_s171_88, am_s171_89, am_s171_90, am_s171_93, am_s171_94, am_s171_95, am_s171_96, am_s171_99, am_s171_102, am_f114_0, am_r115_2, k2, h1, am_cal_ok am_cat_0 am_v114 (g170), d8, r8, e0, e80, not_false_eq_true, not_true_eq_false, am_cal_ok (am_cat_3 _ _ _) am_v114 (am_i130_2 (D := 98) k8), c31, hv, am_cal_ok am_cat_0 am_v114 (am_i131_2 (D := 98) k8), eq_self, am_os_some, Option.toList_some, Option.toList_none, List.cons_append, List.nil_append, if_true, if_false, true_and, am_nw1_i, am_nw1_r, am_nw1_n, cond_true]
      rw [am_s171_105, hi]
      exact g2 o
theorem am_l171 (hw : am_wf S) {n : Nat} (hn : n ≤ 40) (hD : S 13 1 + n ≤ 9999) : ∀ (d k : Nat) (G : am_G) (x y : Option Value), k + d = n → am_rc G (am_lo T U S z k).1 T U (-1) → G 115 1 = (am_lo T U S z k).2 → ∃ G' : am_G, am_frz G G' ∧ am_rc G' (am_lo T U S z n).1 T U (-1) ∧ G' 115 1 = (am_lo T U S z n).2 ∧ am_Rn X 99 (some .int) am_J171 40 [some (.ref 114), some (.int (nI n)), some (.int (nI k)), x, y] [] (am_L0 q, G) (some (.int (nI (am_sum (am_lo T U S z n).1 3 (S 13 0)))), (am_L0 q, G')) := by
  have h8 := hw.1
  intro d
  induction d with
  | zero =>
    intro k G x y hk h hz
    obtain rfl : k = n := by omega
    have w := am_wf_lo (T := T) (U := U) (z := z) hw k
    have g168 := am_m168 (X := X) (D := 97) (q := q) (f := 3) h.1 (by rw [w.2.1]; exact h8) (by decide)
    rw [w.2.1] at g168
    have g168' : am_CD X 99 168 [.ref 114, .int 3] (am_L0 q, G) = _ := g168
    have h1 : ¬ nI k < nI k := Int32.lt_irrefl
    refine ⟨G, am_frz.rf G, h, hz, ?_⟩
    simp only [am_s171_40, am_s171_41, am_s171_42, am_s171_118, am_s171_119, am_s171_120, am_s171_123, h1, am_cal_ok am_cat_0 am_v114 (g168'), eq_self, am_os_some, Option.toList_some, Option.toList_none, List.cons_append, List.nil_append, if_true, if_false, true_and, am_nw1_i, am_nw1_r, am_nw1_n, cond_true]
  | succ d ih =>
    intro k G x y hk h hz
    have h1 : nI k < nI n := nI_lt (by omega) (by omega)
    have hi : nI k + 1 = nI (k + 1) := nI_add k 1
    have w := am_wf_lo (T := T) (U := U) (z := z) hw k
    obtain ⟨G1, y1, f1, c1, q1, g1⟩ := am_l171a (X := X) (q := q) (n := nI n) (k0 := nI k) (z := (am_lo T U S z k).2) w.1 ((am_lo T U S z k).1 13 0) 0 G y (by omega) h hz
    have w2 := am_wf_dwt (z := (am_lo T U S z k).2) w.1 (S 13 0) h8
    rw [w.2.1] at g1 c1 q1
    obtain ⟨G2, f2, c2, g2⟩ := am_m166 (X := X) (D := 49) (q := q) (G := G1) c1 w2.1 (by rw [w2.2, w.2.2]; omega) am_hm1
    obtain ⟨G3, f3, c3, q3, g3⟩ := ih (k + 1) G2 (some (.int (nI (S 13 0)))) y1 (by omega) c2 ((f2.2 1 (Or.inl rfl) (by omega)).trans q1)
    refine ⟨G3, (f1.tr f2.z).tr f3, c3, q3, ?_⟩
    simp only [am_s171_40, am_s171_41, am_s171_42, am_s171_45, am_s171_46, h1, eq_self, am_os_some, Option.toList_some, Option.toList_none, List.cons_append, List.nil_append, if_true, if_false, true_and, am_nw1_i, am_nw1_r, am_nw1_n, cond_true]
    rw [nI_0] at g1
    rw [g1]
    simp only [am_s171_108, am_s171_109, am_s171_112, am_cal_ok am_cat_0 am_v114 (g2), eq_self, am_os_some, Option.toList_some, Option.toList_none, List.cons_append, List.nil_append, if_true, if_false, true_and, am_nw1_i, am_nw1_r, am_nw1_n, cond_true]
    rw [am_s171_115, hi]
    exact g3
theorem am_r171 {n : Int32} {s : am_St} (hs : am_oks s) : am_rO 171 [.int n] s (am_O92 n s) := by
  unfold am_O92
  have h8 := hs.1.1.1
  have hD := hs.1.2.1
  by_cases h : n < 1 ∨ ¬ n ≤ 40
  · rw [if_pos h]
    have h1 : (decide (¬ n < 1) && decide (n ≤ 40)) = false := by rcases h with h | h <;> simp [h]
    refine am_rO_err (k := 1) (r := -1000000001) (by decide) am_ec1.symm fun X q G hc => am_CD_of (M := am_N171) rfl rfl ?_
    have hn : G 115 2 = nI (s.1.1 13 0) := hc.1.1.2.1
    show am_Rn _ _ ((Option.some FieldType.int)) am_J171 0 [some (.ref 114), some (.int n), none, none, none] [] (am_L0 q, G) _
    simp only [am_s171_0, am_s171_1, am_s171_2, am_s171_4, am_s171_7, am_s171_10, am_s171_11, am_s171_13, am_s171_16, am_s171_17, am_s171_18, am_s171_21, am_s171_22, am_s171_23, am_s171_24, am_s171_25, am_s171_28, am_s171_31, am_s171_32, am_s171_34, am_s171_37, am_cal_ok am_cat_0 am_rcv_f (am_m125 (D := 98) _ _ _), h1, am_cal_ok am_cat_0 am_v114 (am_d1 (D := 98)), am_cal_ok am_cat_0 am_v114 (am_d2 (D := 98)), am_cal_ok am_cat_0 am_v114 (am_d3 (D := 98)), am_cal_ok am_cat_0 am_v114 (am_d4 (D := 98)), am_cal_ok am_cat_0 am_v114 (am_d5 (D := 98)), am_cal_ok am_cat_0 am_rcv_f (am_y125 _ _), am_cal_ok am_cat_0 am_rcv_f (am_m183 (D := 97) _), am_bI0, am_f114_0, am_er_f, am_sy_f, Bool.false_and, Bool.and_false, reduceCtorEq, not_false_eq_true, not_true_eq_false, eq_self, am_os_some, Option.toList_some, Option.toList_none, List.cons_append, List.nil_append, if_true, if_false, true_and, am_nw1_i, am_nw1_r, am_nw1_n, cond_true]
  · rw [if_neg h]
    have h' : ¬ n < 1 ∧ n ≤ 40 := ⟨fun e => h (Or.inl e), Decidable.not_not.mp fun e => h (Or.inr e)⟩
    have h1 : (decide (¬ n < 1) && decide (n ≤ 40)) = true := by simp [h'.1, h'.2]
    have h0 : ¬ n < 0 := fun h => h'.1 (Int32.lt_trans h (by decide))
    obtain ⟨m, hm, rfl⟩ := nI_of2 (n := 40) (by decide) h0 h'.2
    rw [nI_clamp (show m < 2 ^ 31 by omega)]
    have s1 : nI (s.1.1 13 1) + nI m = nI (s.1.1 13 1 + m) := nI_add _ _
    by_cases h3 : 9999 < s.1.1 13 1 + m
    · rw [if_pos h3]
      have h4 : ¬ nI (s.1.1 13 1 + m) ≤ 9999 := nI_ge (a := 9999) h3 (by omega)
      refine am_rO_err (k := 3) (r := -1000000003) (by decide) am_ec3.symm fun X q G hc => am_CD_of (M := am_N171) rfl rfl ?_
      have hn : G 115 2 = nI (s.1.1 13 0) := hc.1.1.2.1
      have k0 : G 115 0 = nI (s.1.1 13 1) := hc.1.1.1
      show am_Rn _ _ ((Option.some FieldType.int)) am_J171 0 [some (.ref 114), some (.int (nI m)), none, none, none] [] (am_L0 q, G) _
      simp only [am_s171_0, am_s171_1, am_s171_2, am_s171_4, am_s171_7, am_s171_10, am_s171_11, am_s171_13, am_s171_16, am_s171_17, am_s171_18, am_s171_21, am_s171_22, am_s171_23, am_s171_24, am_s171_25, am_s171_28, am_s171_31, am_s171_32, am_s171_34, am_s171_37, am_cal_ok am_cat_0 am_rcv_f (am_m125 (D := 98) _ _ _), h1, am_r115_0, k0, s1, h4, am_cal_ok am_cat_0 am_v114 (am_d1 (D := 98)), am_cal_ok am_cat_0 am_v114 (am_d2 (D := 98)), am_cal_ok am_cat_0 am_v114 (am_d3 (D := 98)), am_cal_ok am_cat_0 am_v114 (am_d4 (D := 98)), am_cal_ok am_cat_0 am_v114 (am_d5 (D := 98)), am_cal_ok am_cat_0 am_rcv_f (am_y125 _ _), am_cal_ok am_cat_0 am_rcv_f (am_m183 (D := 97) _), am_bI0, am_f114_0, am_er_f, am_sy_f, Bool.false_and, Bool.and_false, reduceCtorEq, not_false_eq_true, not_true_eq_false, eq_self, am_os_some, Option.toList_some, Option.toList_none, List.cons_append, List.nil_append, if_true, if_false, true_and, am_nw1_i, am_nw1_r, am_nw1_n, cond_true]
    · rw [if_neg h3]
      have h4 : nI (s.1.1 13 1 + m) ≤ 9999 := nI_le (b := 9999) (by omega) (by decide)
      intro N xs q G hc
      have k0 : G 115 0 = nI (s.1.1 13 1) := hc.1.1.1
      obtain ⟨G', f, c, z, g⟩ := am_l171 (X := am_X0 N xs) (q := q) (T := s.1.2.1) (U := s.1.2.2.1) (z := s.1.2.2.2.2.2) hs.1.1 hm (by omega) m 0 G none none (by omega) (am_rfl_rc hc) hc.1.2.2.2.2.2
      refine ⟨G', fun i j hi => f.1 i j (by omega) (by omega), ?_, am_CD_of (M := am_N171) rfl rfl ?_⟩
      · exact am_rfl_W (s := s) hc (fun i j _ b _ _ _ _ e => f.1 i j (fun e1 => by have := e e1; omega) b) (am_rw8_Z (W := s.1) hc.1 f.2 c.1 z)
      · show am_Rn _ _ ((Option.some FieldType.int)) am_J171 0 [some (.ref 114), some (.int (nI m)), none, none, none] [] (am_L0 q, G) _
        simp only [am_s171_0, am_s171_1, am_s171_2, am_s171_4, am_s171_7, am_s171_10, am_s171_11, am_s171_13, am_s171_16, am_s171_17, am_s171_18, am_s171_21, am_s171_22, am_s171_23, am_s171_24, am_s171_25, am_s171_28, am_s171_31, am_s171_32, am_s171_34, am_s171_37, am_s171_38, am_s171_39, am_cal_ok am_cat_0 am_rcv_f (am_m125 (D := 98) _ _ _), h1, am_r115_0, k0, s1, h4, am_cal_ok am_cat_0 am_v114 (am_d1 (D := 98)), am_cal_ok am_cat_0 am_v114 (am_d2 (D := 98)), am_cal_ok am_cat_0 am_v114 (am_d3 (D := 98)), am_cal_ok am_cat_0 am_v114 (am_d4 (D := 98)), am_cal_ok am_cat_0 am_v114 (am_d5 (D := 98)), am_cal_ok am_cat_0 am_rcv_f (am_y125 _ _), am_cal_ok am_cat_0 am_rcv_f (am_m183 (D := 97) _), am_bI0, am_f114_0, am_er_f, am_sy_f, Bool.false_and, Bool.and_false, reduceCtorEq, not_false_eq_true, not_true_eq_false, eq_self, am_os_some, Option.toList_some, Option.toList_none, List.cons_append, List.nil_append, if_true, if_false, true_and, am_nw1_i, am_nw1_r, am_nw1_n, cond_true]
        exact g
end AMRJ9
