/-! THE REFERENCE: a day -/
theorem am_neg3 : ∀ (t : Fin 100) (x y : Fin 4), x.1 < y.1 → nI t.1 - (nI x.1 - nI y.1) = nI (t.1 + (y.1 - x.1)) ∧ nI x.1 - nI y.1 < 0 := by decide +kernel
section AMR9
variable {X : am_X} {D q : Nat} {S : am_S} {T U : am_T} {wh : Int32}
theorem am_l166a (hw : am_wf S) (hD : S 13 1 < 2 ^ 30) {hd : Nat} (hh : ∀ k, k < 8 → (nI k = wh ↔ k = hd)) : ∀ (d k : Nat) (G : am_G), k + d = S 13 0 → am_rc G (am_goes T U hd S k) T U wh → ∃ G' : am_G, am_frs G G' ∧ am_rc G' (am_goes T U hd S (S 13 0)) T U wh ∧ ∀ o, am_Rn X (D + 49) none am_J166 2 [some (.ref 114), some (.int (nI k)), none] [] (am_L0 q, G) o = am_Rn X (D + 49) none am_J166 59 [some (.ref 114), some (.int (nI (S 13 0))), none] [] (am_L0 q, G') o := by
  have h8 := hw.1
  intro d
  induction d with
  | zero =>
    intro k G hk h
    obtain rfl : k = S 13 0 := by omega
    have e13 := (am_wf_goes (T := T) (U := U) (h := hd) hw (S 13 0) (Nat.le_refl _)).2
    have k2 : G 115 2 = nI (S 13 0) := by have := h.1.2.1; rw [e13] at this; exact this
    have h1 : ¬ nI (S 13 0) < nI (S 13 0) := Int32.lt_irrefl
    refine ⟨G, (am_frw.rf G).s, h, fun o => ?_⟩
    simp only [am_s166_2, am_s166_3, am_s166_4, am_s166_7, am_s166_8, am_s166_9, am_f114_0, am_r115_2, k2, h1, eq_self, am_os_some, Option.toList_some, Option.toList_none, List.cons_append, List.nil_append, if_true, if_false, true_and, am_nw1_i, am_nw1_r, am_nw1_n, cond_true]
  | succ d ih =>
    intro k G hk h
    have k8 : k < 8 := by omega
    obtain ⟨wk, e13⟩ := am_wf_goes (T := T) (U := U) (h := hd) hw k (by omega)
    have k2 : G 115 2 = nI (S 13 0) := by have := h.1.2.1; rw [e13] at this; exact this
    have h1 : nI k < nI (S 13 0) := nI_lt (by omega) (by omega)
    have hi : nI k + 1 = nI (k + 1) := nI_add k 1
    obtain ⟨G1, f1, g1⟩ := am_m163 (X := X) (D := D + 1) (q := q) h (by rw [e13]; omega) k8
    have hc1 := h.fr f1
    have eg : am_goes T U hd S (k + 1) = am_g1 T U hd (am_goes T U hd S k) k := rfl
    generalize hSk : am_goes T U hd S k = Sk at h wk e13 g1 hc1 eg
    cases hv : am_gv T Sk k with
    | true =>
      rw [hv] at g1
      have e : am_goes T U hd S (k + 1) = am_su Sk 3 k (min 999 (Sk 3 k + am_fil (Sk 0 k) (Sk 1 k))) := by rw [eg]; unfold am_g1; rw [if_pos hv]
      have k3 : G1 115 (7 + 5 * k + 3) = nI (Sk 3 k) := hc1.1.2.2.1 k 3 k8 (by decide)
      have g160 := am_m160 (X := X) (D := D + 47) (q := q) hc1.1 wk k8
      have w3 := (wk.2.1 k k8).2.2.2.1
      have wf := am_fi_le (wk.2.1 k k8).1 (wk.2.1 k k8).2.1
      have s1 : nI (Sk 3 k) + nI (am_fil (Sk 0 k) (Sk 1 k)) = nI (Sk 3 k + am_fil (Sk 0 k) (Sk 1 k)) := nI_add _ _
      have l1 : am_hld (nI (Sk 3 k + am_fil (Sk 0 k) (Sk 1 k))) 0 999 = nI (min 999 (Sk 3 k + am_fil (Sk 0 k) (Sk 1 k))) := am_hldn (m := 999) (by omega) (by decide)
      generalize min 999 (Sk 3 k + am_fil (Sk 0 k) (Sk 1 k)) = v at e l1
      have fs : am_frs G (am_up G1 115 (7 + 5 * k + 3) (nI v)) := f1.s.tr (am_frs_up _ _ (by omega))
      obtain ⟨G', f2, c2, g2⟩ := ih (k + 1) (am_up G1 115 (7 + 5 * k + 3) (nI v)) (by omega) (by rw [e]; exact hc1.S (am_frs_up _ _ (by omega)) (by rw [am_up_row]; exact am_rp_up hc1.1 (by decide) k8))
      refine ⟨G', fs.tr f2, c2, fun o => ?_⟩
      simp only [am_s166_2, am_s166_3, am_s166_4, am_s166_7, am_s166_8, am_s166_9, am_s166_12, am_s166_13, am_s166_14, am_s166_17, am_s166_20, am_s166_21, am_s166_22, am_s166_23, am_s166_24, am_s166_25, am_s166_26, am_s166_29, am_s166_30, am_s166_31, am_s166_34, am_s166_35, am_s166_36, am_s166_39, am_s166_42, am_s166_45, am_s166_48, am_s166_49, am_s166_50, am_s166_53, am_f114_0, am_r115_2, k2, h1, am_cal_ok am_cat_0 am_v114 (g1), am_bI0, reduceCtorEq, am_cal_ok (am_cat_3 _ _ _) am_v114 (am_i130_3 (D := D + 48) k8), k3, am_cal_ok (am_cat_4 _ _ _ _) am_v114 (g160), s1, am_cal_ok (am_cat_3 _ _ _) am_rcv_f (am_m127 (D := D + 48) _ _ _), l1, am_cal_ok am_cat_0 am_v114 (am_i131_3 (D := D + 48) k8), eq_self, am_os_some, Option.toList_some, Option.toList_none, List.cons_append, List.nil_append, if_true, if_false, true_and, am_nw1_i, am_nw1_r, am_nw1_n, cond_true]
      rw [am_s166_56, hi]
      exact g2 o
    | false =>
      rw [hv] at g1
      have e : am_goes T U hd S (k + 1) = am_bg U hd Sk k := by rw [eg]; unfold am_g1; rw [if_neg (by rw [hv]; decide)]
      obtain ⟨G2, fb, cb, gb⟩ := am_m165 (X := X) (D := D + 1) (q := q) hc1 wk hh k8
      obtain ⟨G', f2, c2, g2⟩ := ih (k + 1) G2 (by omega) (by rw [e]; exact cb)
      refine ⟨G', (f1.s.tr fb).tr f2, c2, fun o => ?_⟩
      simp only [am_s166_2, am_s166_3, am_s166_4, am_s166_7, am_s166_8, am_s166_9, am_s166_12, am_s166_13, am_s166_14, am_s166_17, am_s166_20, am_s166_21, am_s166_22, am_s166_23, am_s166_24, am_s166_25, am_s166_26, am_s166_29, am_s166_30, am_s166_31, am_s166_34, am_s166_35, am_s166_36, am_s166_39, am_s166_42, am_s166_45, am_s166_48, am_s166_49, am_s166_50, am_s166_53, am_f114_0, am_r115_2, k2, h1, am_cal_ok am_cat_0 am_v114 (g1), am_bI0, am_cal_ok am_cat_0 am_v114 (gb), eq_self, am_os_some, Option.toList_some, Option.toList_none, List.cons_append, List.nil_append, if_true, if_false, true_and, am_nw1_i, am_nw1_r, am_nw1_n, cond_true]
      rw [am_s166_56, hi]
      exact g2 o
end AMR9
