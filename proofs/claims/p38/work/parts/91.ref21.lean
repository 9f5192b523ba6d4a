/-! THE REFERENCE: strikes, strike, struck -/
def am_frg (G G' : am_G) : Prop := ∀ i j, (i = 114 → j < 16 ∨ 18 < j) → G' i j = G i j
theorem am_frg.tr {G G1 G2 : am_G} (h1 : am_frg G G1) (h2 : am_frg G1 G2) : am_frg G G2 := fun i j h => (h2 i j h).trans (h1 i j h)
theorem am_frg.row {G G' : am_G} (h : am_frg G G') : G' 115 = G 115 := funext fun j => h 115 j (by omega)
theorem am_frg_up (G : am_G) {k : Nat} (v : Int32) (h : 16 ≤ k ∧ k ≤ 18) : am_frg G (am_up G 114 k v) := fun i j hh => by
  rw [am_up_get]
  split
  · rename_i e
    rw [if_neg]
    have := hh e
    omega
  · rfl
/-- what strikes leaves alone -/
def am_frq (G G' : am_G) : Prop := (∀ i j, (i = 114 → j < 16 ∨ 18 < j) → i ≠ 115 → G' i j = G i j) ∧ am_rk (G 115) (G' 115)
theorem am_frq.tr {G G1 G2 : am_G} (h1 : am_frq G G1) (h2 : am_frq G1 G2) : am_frq G G2 := ⟨fun i j a b => (h2.1 i j a b).trans (h1.1 i j a b), h1.2.tr h2.2⟩
theorem am_frg.r {G G' : am_G} (h : am_frg G G') : am_frq G G' := ⟨fun i j a _ => h i j a, by rw [h.row]; exact am_rk.rf _⟩
theorem am_frq_up (G : am_G) {k : Nat} (v : Int32) (h : 7 ≤ k ∧ k < 111) : am_frq G (am_up G 115 k v) := ⟨fun i j _ b => by rw [am_up_get, if_neg b], by rw [am_up_row]; exact am_rk_up (by omega)⟩
def am_sp2 (S : am_S) (G : am_G) (b : Bool) : Prop := (b = true → ∃ a c, a < c ∧ c < S 13 0 ∧ G 114 16 = nI a ∧ G 114 17 = nI c ∧ G 114 18 = -1 ∧ 0 < am_ls S (a, c, 8) ∧ ∀ a' c', a' < c' → c' < S 13 0 → a' * S 13 0 + c' < a * S 13 0 + c → am_ls S (a', c', 8) = 0) ∧ (b = false → ∀ a' c', a' < c' → c' < S 13 0 → am_ls S (a', c', 8) = 0)
def am_sp3 (S : am_S) (G : am_G) (x : Bool) : Prop := (x = true → ∃ a b c, a < b ∧ a < c ∧ b ≠ c ∧ b < S 13 0 ∧ c < S 13 0 ∧ G 114 16 = nI a ∧ G 114 17 = nI b ∧ G 114 18 = nI c ∧ 0 < am_ls S (a, b, c) ∧ ∀ a' b' c', a' < b' → a' < c' → b' ≠ c' → b' < S 13 0 → c' < S 13 0 → (a' * S 13 0 + b') * S 13 0 + c' < (a * S 13 0 + b) * S 13 0 + c → am_ls S (a', b', c') = 0) ∧ (x = false → ∀ a' b' c', a' < b' → a' < c' → b' ≠ c' → b' < S 13 0 → c' < S 13 0 → am_ls S (a', b', c') = 0)
theorem am_sqlt {a c n : Nat} (ha : a < n) (hc : c < n) : a * n + c < n * n := by
  have := Nat.mul_le_mul_right n (Nat.succ_le_of_lt ha)
  rw [Nat.succ_mul] at this
  omega
theorem am_code {k a c n : Nat} (hc : c < n) (h : a * n + c = k) : k / n = a ∧ k % n = c := by
  subst h
  rw [Nat.mul_comm a n]
  exact ⟨by rw [Nat.mul_add_div (by omega), Nat.div_eq_of_lt hc, Nat.add_zero], by rw [Nat.mul_add_mod, Nat.mod_eq_of_lt hc]⟩
theorem am_code2 (k n : Nat) : k / n * n + k % n = k := by
  have := Nat.div_add_mod k n
  rw [Nat.mul_comm] at this
  exact this
section AMRK1
variable {X : am_X} {D q : Nat} {S : am_S}
theorem am_m172 {G : am_G} (h : am_rp (G 115) S) (hw : am_wf S) {a b : Nat} (ha : a < 8) (hb : b < 8) : am_CD X (D + 2) 172 [.ref 114, .int (nI a), .int (nI b)] (am_L0 q, G) = some (some (.int (am_bI (decide (a ≠ b) && decide (0 < S (5 + a) b)))), (am_L0 q, G)) := by
  have kd := h.2.2.2 a b ha hb
  have wd := hw.2.2.1 a b ha hb
  have eab : (nI a = nI b) = (a = b) := propext (nI_eq (by omega) (by omega))
  refine am_CD_of (M := am_N172) rfl rfl ?_
  show am_Rn _ _ ((Option.some FieldType.boolean)) am_J172 0 [some (.ref 114), some (.int (nI a)), some (.int (nI b))] [] (am_L0 q, G) _
  by_cases c1 : a = b
  · simp only [am_s172_0, am_s172_1, am_s172_2, am_s172_5, am_s172_6, am_s172_7, am_s172_8, am_s172_11, am_s172_14, am_s172_15, am_s172_18, am_s172_19, eab, c1, not_true_eq_false, true_or, ne_eq, decide_false, Bool.false_and, eq_self, am_os_some, Option.toList_some, Option.toList_none, List.cons_append, List.nil_append, if_true, if_false, true_and, am_nw1_i, am_nw1_r, am_nw1_n, cond_true]
    all_goals rfl
  · by_cases c2 : 0 < S (5 + a) b
    · have p3 : ¬ nI (S (5 + a) b) ≤ 0 := nI_nle c2 (by omega)
      simp only [am_s172_0, am_s172_1, am_s172_2, am_s172_5, am_s172_6, am_s172_7, am_s172_8, am_s172_11, am_s172_14, am_s172_15, am_s172_18, am_s172_19, eab, c1, am_cal_ok am_cat_0 am_v114 (am_m133 (D := D) ha hb), kd, p3, c2, not_false_eq_true, or_true, ne_eq, decide_true, Bool.true_and, eq_self, am_os_some, Option.toList_some, Option.toList_none, List.cons_append, List.nil_append, if_true, if_false, true_and, am_nw1_i, am_nw1_r, am_nw1_n, cond_true]
      all_goals rfl
    · have p3 : nI (S (5 + a) b) ≤ 0 := by rw [show S (5 + a) b = 0 by omega]; decide
      simp only [am_s172_0, am_s172_1, am_s172_2, am_s172_5, am_s172_6, am_s172_7, am_s172_8, am_s172_11, am_s172_14, am_s172_15, am_s172_18, am_s172_19, eab, c1, am_cal_ok am_cat_0 am_v114 (am_m133 (D := D) ha hb), kd, p3, c2, not_true_eq_false, true_or, ne_eq, decide_false, Bool.and_false, eq_self, am_os_some, Option.toList_some, Option.toList_none, List.cons_append, List.nil_append, if_true, if_false, true_and, am_nw1_i, am_nw1_r, am_nw1_n, cond_true]
      all_goals rfl
theorem am_o2 {S : am_S} {a b : Nat} : (decide (a ≠ b) && decide (0 < S (5 + a) b)) = true ↔ a ≠ b ∧ 0 < S (5 + a) b := by
  rw [Bool.and_eq_true, decide_eq_true_eq, decide_eq_true_eq]
theorem am_o2f {S : am_S} {a b : Nat} (h : (decide (a ≠ b) && decide (0 < S (5 + a) b)) = false) (hab : a ≠ b) : S (5 + a) b = 0 := by
  rw [show decide (a ≠ b) = true from decide_eq_true hab, Bool.true_and] at h
  have := of_decide_eq_false h
  omega
theorem am_l173 (hw : am_wf S) : ∀ (d k : Nat) (G : am_G), k + d = S 13 0 * S 13 0 → am_rp (G 115) S → (∀ a' c', a' < c' → c' < S 13 0 → a' * S 13 0 + c' < k → am_ls S (a', c', 8) = 0) → ∃ (G' : am_G) (b : Bool), am_frg G G' ∧ am_sp2 S G' b ∧ am_Rn X (D + 2) (some .boolean) am_J173 2 [some (.ref 114), some (.int (nI k))] [] (am_L0 q, G) (some (.int (am_bI b)), (am_L0 q, G')) := by
  have h8 := hw.1
  intro d
  induction d with
  | zero =>
    intro k G hk h hm
    have hk : k = S 13 0 * S 13 0 := by omega
    have k2 : G 115 2 = nI (S 13 0) := h.2.1
    have h1 : ¬ nI k < nI k := Int32.lt_irrefl
    have hs : nI (S 13 0) * nI (S 13 0) = nI k := by rw [hk]; exact (Int32.ofNat_mul _ _).symm
    refine ⟨G, false, fun _ _ _ => rfl, ⟨(fun e => nomatch e), fun _ a' c' x y => hm a' c' x y (by rw [hk]; exact am_sqlt (by omega) y)⟩, ?_⟩
    simp only [am_s173_2, am_s173_3, am_s173_4, am_s173_7, am_s173_8, am_s173_9, am_s173_10, am_s173_13, am_s173_14, am_s173_15, am_s173_16, am_s173_97, am_s173_98, am_f114_0, am_r115_2, k2, hs, h1, true_or, or_true, eq_self, am_os_some, Option.toList_some, Option.toList_none, List.cons_append, List.nil_append, if_true, if_false, true_and, am_nw1_i, am_nw1_r, am_nw1_n, cond_true]
    all_goals rfl
  | succ d ih =>
    intro k G hk h hm
    have k2 : G 115 2 = nI (S 13 0) := h.2.1
    have hkn : k < S 13 0 * S 13 0 := by omega
    have hn0 : 0 < S 13 0 := by
      rcases Nat.eq_zero_or_pos (S 13 0) with e | e
      · rw [e] at hkn; omega
      · exact e
    have hnn : S 13 0 * S 13 0 ≤ 64 := Nat.mul_le_mul h8 h8
    have hs : nI (S 13 0) * nI (S 13 0) = nI (S 13 0 * S 13 0) := (Int32.ofNat_mul _ _).symm
    have h1 : nI k < nI (S 13 0 * S 13 0) := nI_lt hkn (by omega)
    have hi : nI k + 1 = nI (k + 1) := nI_add k 1
    have a8 : k / S 13 0 < S 13 0 := Nat.div_lt_of_lt_mul hkn
    have c8 : k % S 13 0 < S 13 0 := Nat.mod_lt _ hn0
    have hcode := am_code2 k (S 13 0)
    have e1 : nI k / nI (S 13 0) = nI (k / S 13 0) := pk_div (by omega) hn0 (by omega)
    have e2 : nI k - nI (k / S 13 0) * nI (S 13 0) = nI (k % S 13 0) := by rw [← e1]; exact pk_rem (by omega) hn0 (by omega)
    have e0 : ¬ nI (S 13 0) = 0 := nI_ne0 hn0 (by omega)
    have hun : ∀ a' c', a' < c' → c' < S 13 0 → a' * S 13 0 + c' < k + 1 → am_ls S (k / S 13 0, k % S 13 0, 8) = 0 ∨ ¬ k / S 13 0 < k % S 13 0 → am_ls S (a', c', 8) = 0 := fun a' c' x y z hz => by
      by_cases e : a' * S 13 0 + c' = k
      · obtain ⟨u, v⟩ := am_code y e
        rw [u, v] at hz
        rcases hz with hz | hz
        · exact hz
        · exact absurd x hz
      · exact hm a' c' x y (by omega)
    generalize k / S 13 0 = a at *
    generalize k % S 13 0 = c at *
    generalize hG1 : am_up G 114 16 (nI a) = G1
    have f1 : am_frg G G1 := by rw [← hG1]; exact am_frg_up _ _ (by omega)
    have k21 : G1 115 2 = nI (S 13 0) := by rw [f1.row]; exact k2
    have r1 : G1 114 16 = nI a := by rw [← hG1, am_up_get, if_pos rfl, if_pos rfl]
    generalize hG2 : am_up G1 114 17 (nI c) = G2
    have f2 : am_frg G1 G2 := by rw [← hG2]; exact am_frg_up _ _ (by omega)
    have r2 : G2 114 16 = nI a := by rw [← hG2, am_up_get, if_pos rfl, if_neg (by decide)]; exact r1
    have r3 : G2 114 17 = nI c := by rw [← hG2, am_up_get, if_pos rfl, if_pos rfl]
    generalize hG3 : am_up G2 114 18 (-1) = G3
    have f3 : am_frg G2 G3 := by rw [← hG3]; exact am_frg_up _ _ (by omega)
    have r4 : G3 114 16 = nI a := by rw [← hG3, am_up_get, if_pos rfl, if_neg (by decide)]; exact r2
    have r5 : G3 114 17 = nI c := by rw [← hG3, am_up_get, if_pos rfl, if_neg (by decide)]; exact r3
    have r6 : G3 114 18 = -1 := by rw [← hG3, am_up_get, if_pos rfl, if_pos rfl]
    have fr : am_frg G G3 := (f1.tr f2).tr f3
    have hp3 : am_rp (G3 115) S := by rw [fr.row]; exact h
    by_cases c1 : a < c
    · have j1 : ¬ nI c ≤ nI a := nI_ge c1 (by omega)
      have o1 := am_m172 (X := X) (D := D) (q := q) hp3 hw (a := a) (b := c) (by omega) (by omega)
      have o2 := am_m172 (X := X) (D := D) (q := q) hp3 hw (a := c) (b := a) (by omega) (by omega)
      cases d1 : (decide (a ≠ c) && decide (0 < S (5 + a) c)) with
      | false =>
        rw [d1] at o1
        have z := am_o2f d1 (by omega)
        obtain ⟨G', b, g1, g2, g3⟩ := ih (k + 1) G3 (by omega) hp3 fun a' c' x y w => hun a' c' x y w (Or.inl (by rw [am_ls2]; omega))
        refine ⟨G', b, fr.tr g1, g2, ?_⟩
        simp only [am_s173_2, am_s173_3, am_s173_4, am_s173_7, am_s173_8, am_s173_9, am_s173_10, am_s173_13, am_s173_14, am_s173_15, am_s173_16, am_s173_19, am_s173_20, am_s173_21, am_s173_22, am_s173_25, am_s173_26, am_s173_27, am_s173_28, am_s173_31, am_s173_32, am_s173_33, am_s173_34, am_s173_37, am_s173_38, am_s173_39, am_s173_40, am_s173_43, am_s173_44, am_s173_45, am_s173_48, am_s173_49, am_s173_52, am_s173_53, am_s173_56, am_s173_59, am_s173_60, am_s173_61, am_s173_64, am_s173_65, am_s173_68, am_s173_71, am_s173_74, am_s173_75, am_s173_76, am_s173_79, am_s173_80, am_s173_83, am_s173_86, am_s173_89, am_s173_90, am_s173_91, am_f114_0, am_r115_2, k2, k21, hs, h1, e0, e1, e2, am_p114_16, am_p114_17, am_p114_18, hG1, hG2, hG3, am_f114_16, am_f114_17, r4, r5, j1, am_cal_ok am_cat_0 am_v114 (o1), am_bI0, not_true_eq_false, not_false_eq_true, eq_self, am_os_some, Option.toList_some, Option.toList_none, List.cons_append, List.nil_append, if_true, if_false, true_and, am_nw1_i, am_nw1_r, am_nw1_n, cond_true]
        rw [am_s173_94, hi]
        exact g3
      | true =>
        rw [d1] at o1
        obtain ⟨-, z1⟩ := am_o2.mp d1
        cases d2 : (decide (c ≠ a) && decide (0 < S (5 + c) a)) with
        | false =>
          rw [d2] at o2
          have z := am_o2f d2 (by omega)
          obtain ⟨G', b, g1, g2, g3⟩ := ih (k + 1) G3 (by omega) hp3 fun a' c' x y w => hun a' c' x y w (Or.inl (by rw [am_ls2]; omega))
          refine ⟨G', b, fr.tr g1, g2, ?_⟩
          simp only [am_s173_2, am_s173_3, am_s173_4, am_s173_7, am_s173_8, am_s173_9, am_s173_10, am_s173_13, am_s173_14, am_s173_15, am_s173_16, am_s173_19, am_s173_20, am_s173_21, am_s173_22, am_s173_25, am_s173_26, am_s173_27, am_s173_28, am_s173_31, am_s173_32, am_s173_33, am_s173_34, am_s173_37, am_s173_38, am_s173_39, am_s173_40, am_s173_43, am_s173_44, am_s173_45, am_s173_48, am_s173_49, am_s173_52, am_s173_53, am_s173_56, am_s173_59, am_s173_60, am_s173_61, am_s173_64, am_s173_65, am_s173_68, am_s173_71, am_s173_74, am_s173_75, am_s173_76, am_s173_79, am_s173_80, am_s173_83, am_s173_86, am_s173_89, am_s173_90, am_s173_91, am_f114_0, am_r115_2, k2, k21, hs, h1, e0, e1, e2, am_p114_16, am_p114_17, am_p114_18, hG1, hG2, hG3, am_f114_16, am_f114_17, r4, r5, j1, am_cal_ok am_cat_0 am_v114 (o1), am_cal_ok am_cat_0 am_v114 (o2), am_bI0, reduceCtorEq, not_true_eq_false, not_false_eq_true, eq_self, am_os_some, Option.toList_some, Option.toList_none, List.cons_append, List.nil_append, if_true, if_false, true_and, am_nw1_i, am_nw1_r, am_nw1_n, cond_true]
          rw [am_s173_94, hi]
          exact g3
        | true =>
          rw [d2] at o2
          obtain ⟨-, z2⟩ := am_o2.mp d2
          refine ⟨G3, true, fr, ⟨fun _ => ⟨a, c, c1, c8, r4, r5, r6, by rw [am_ls2]; omega, fun a' c' x y w => hm a' c' x y (by omega)⟩, fun e => nomatch e⟩, ?_⟩
          simp only [am_s173_2, am_s173_3, am_s173_4, am_s173_7, am_s173_8, am_s173_9, am_s173_10, am_s173_13, am_s173_14, am_s173_15, am_s173_16, am_s173_19, am_s173_20, am_s173_21, am_s173_22, am_s173_25, am_s173_26, am_s173_27, am_s173_28, am_s173_31, am_s173_32, am_s173_33, am_s173_34, am_s173_37, am_s173_38, am_s173_39, am_s173_40, am_s173_43, am_s173_44, am_s173_45, am_s173_48, am_s173_49, am_s173_52, am_s173_53, am_s173_56, am_s173_59, am_s173_60, am_s173_61, am_s173_64, am_s173_65, am_s173_68, am_s173_71, am_s173_74, am_s173_75, am_s173_76, am_s173_79, am_s173_80, am_s173_83, am_s173_86, am_s173_89, am_s173_90, am_s173_91, am_f114_0, am_r115_2, k2, k21, hs, h1, e0, e1, e2, am_p114_16, am_p114_17, am_p114_18, hG1, hG2, hG3, am_f114_16, am_f114_17, r4, r5, j1, am_cal_ok am_cat_0 am_v114 (o1), am_cal_ok am_cat_0 am_v114 (o2), am_bI0, reduceCtorEq, not_true_eq_false, not_false_eq_true, true_or, or_true, eq_self, am_os_some, Option.toList_some, Option.toList_none, List.cons_append, List.nil_append, if_true, if_false, true_and, am_nw1_i, am_nw1_r, am_nw1_n, cond_true]
          all_goals rfl
    · have j1 : nI c ≤ nI a := nI_le (by omega) (by omega)
      obtain ⟨G', b, g1, g2, g3⟩ := ih (k + 1) G3 (by omega) hp3 fun a' c' x y w => hun a' c' x y w (Or.inr c1)
      refine ⟨G', b, fr.tr g1, g2, ?_⟩
      simp only [am_s173_2, am_s173_3, am_s173_4, am_s173_7, am_s173_8, am_s173_9, am_s173_10, am_s173_13, am_s173_14, am_s173_15, am_s173_16, am_s173_19, am_s173_20, am_s173_21, am_s173_22, am_s173_25, am_s173_26, am_s173_27, am_s173_28, am_s173_31, am_s173_32, am_s173_33, am_s173_34, am_s173_37, am_s173_38, am_s173_39, am_s173_40, am_s173_43, am_s173_44, am_s173_45, am_s173_48, am_s173_49, am_s173_52, am_s173_53, am_s173_56, am_s173_59, am_s173_60, am_s173_61, am_s173_64, am_s173_65, am_s173_68, am_s173_71, am_s173_74, am_s173_75, am_s173_76, am_s173_79, am_s173_80, am_s173_83, am_s173_86, am_s173_89, am_s173_90, am_s173_91, am_f114_0, am_r115_2, k2, k21, hs, h1, e0, e1, e2, am_p114_16, am_p114_17, am_p114_18, hG1, hG2, hG3, am_f114_16, am_f114_17, r4, r5, j1, not_true_eq_false, not_false_eq_true, eq_self, am_os_some, Option.toList_some, Option.toList_none, List.cons_append, List.nil_append, if_true, if_false, true_and, am_nw1_i, am_nw1_r, am_nw1_n, cond_true]
      rw [am_s173_94, hi]
      exact g3
theorem am_m173 {G : am_G} (h : am_rp (G 115) S) (hw : am_wf S) : ∃ (G' : am_G) (b : Bool), am_frg G G' ∧ am_sp2 S G' b ∧ am_CD X (D + 3) 173 [.ref 114] (am_L0 q, G) = some (some (.int (am_bI b)), (am_L0 q, G')) := by
  obtain ⟨G', b, f, s, g⟩ := am_l173 (X := X) (D := D) (q := q) hw (S 13 0 * S 13 0) 0 G (by omega) h fun _ _ _ _ w => by omega
  refine ⟨G', b, f, s, am_CD_of (M := am_N173) rfl rfl ?_⟩
  show am_Rn _ _ ((Option.some FieldType.boolean)) am_J173 0 [some (.ref 114), none] [] (am_L0 q, G) _
  simp only [am_s173_0, am_s173_1, eq_self, am_os_some, Option.toList_some, Option.toList_none, List.cons_append, List.nil_append, if_true, if_false, true_and, am_nw1_i, am_nw1_r, am_nw1_n, cond_true]
  exact g
theorem am_l174 (hw : am_wf S) : ∀ (d k : Nat) (G : am_G), k + d = S 13 0 * S 13 0 * S 13 0 → am_rp (G 115) S → (∀ a' b' c', a' < b' → a' < c' → b' ≠ c' → b' < S 13 0 → c' < S 13 0 → (a' * S 13 0 + b') * S 13 0 + c' < k → am_ls S (a', b', c') = 0) → ∃ (G' : am_G) (x : Bool), am_frg G G' ∧ am_sp3 S G' x ∧ am_Rn X (D + 2) (some .boolean) am_J174 9 [some (.ref 114), some (.int (nI (S 13 0))), some (.int (nI k))] [] (am_L0 q, G) (some (.int (am_bI x)), (am_L0 q, G')) := by
  have h8 := hw.1
  have hnn : S 13 0 * S 13 0 ≤ 64 := Nat.mul_le_mul h8 h8
  have hnnn : S 13 0 * S 13 0 * S 13 0 ≤ 512 := Nat.mul_le_mul hnn h8
  have hs : nI (S 13 0) * nI (S 13 0) = nI (S 13 0 * S 13 0) := (Int32.ofNat_mul _ _).symm
  have hs2 : nI (S 13 0 * S 13 0) * nI (S 13 0) = nI (S 13 0 * S 13 0 * S 13 0) := (Int32.ofNat_mul _ _).symm
  intro d
  induction d with
  | zero =>
    intro k G hk h hm
    have hk : k = S 13 0 * S 13 0 * S 13 0 := by omega
    have h1 : ¬ nI k < nI (S 13 0 * S 13 0 * S 13 0) := by rw [hk]; exact Int32.lt_irrefl
    refine ⟨G, false, fun _ _ _ => rfl, ⟨(fun e => nomatch e), fun _ a' b' c' x y z u v => hm a' b' c' x y z u v ?_⟩, ?_⟩
    · rw [hk]
      have e := am_sqlt (n := S 13 0) (show a' < S 13 0 by omega) u
      have := Nat.mul_le_mul_right (S 13 0) (Nat.succ_le_of_lt e)
      rw [Nat.succ_mul] at this
      omega
    · simp only [am_s174_9, am_s174_10, am_s174_11, am_s174_12, am_s174_13, am_s174_14, am_s174_15, am_s174_118, am_s174_119, hs, hs2, h1, true_or, or_true, eq_self, am_os_some, Option.toList_some, Option.toList_none, List.cons_append, List.nil_append, if_true, if_false, true_and, am_nw1_i, am_nw1_r, am_nw1_n, cond_true]
      all_goals rfl
  | succ d ih =>
    intro k G hk h hm
    have hkn : k < S 13 0 * S 13 0 * S 13 0 := by omega
    have hn0 : 0 < S 13 0 := by
      rcases Nat.eq_zero_or_pos (S 13 0) with e | e
      · rw [e] at hkn; omega
      · exact e
    have hnp : 0 < S 13 0 * S 13 0 := Nat.mul_pos hn0 hn0
    have h1 : nI k < nI (S 13 0 * S 13 0 * S 13 0) := nI_lt hkn (by omega)
    have hi : nI k + 1 = nI (k + 1) := nI_add k 1
    have hu : k / S 13 0 < S 13 0 * S 13 0 := Nat.div_lt_of_lt_mul (by rw [Nat.mul_comm]; exact hkn)
    have hdd : k / (S 13 0 * S 13 0) = k / S 13 0 / S 13 0 := (Nat.div_div_eq_div_mul k (S 13 0) (S 13 0)).symm
    have a8 : k / S 13 0 / S 13 0 < S 13 0 := Nat.div_lt_of_lt_mul hu
    have b8 : k / S 13 0 % S 13 0 < S 13 0 := Nat.mod_lt _ hn0
    have c8 : k % S 13 0 < S 13 0 := Nat.mod_lt _ hn0
    have hcode := am_code2 k (S 13 0)
    have hcode2 := am_code2 (k / S 13 0) (S 13 0)
    have e1 : nI k / nI (S 13 0 * S 13 0) = nI (k / S 13 0 / S 13 0) := by rw [← hdd]; exact pk_div (by omega) hnp (by omega)
    have e3 : nI k / nI (S 13 0) = nI (k / S 13 0) := pk_div (by omega) hn0 (by omega)
    have e4 : nI (k / S 13 0) / nI (S 13 0) = nI (k / S 13 0 / S 13 0) := pk_div (by omega) hn0 (by omega)
    have e5 : nI (k / S 13 0) - nI (k / S 13 0 / S 13 0) * nI (S 13 0) = nI (k / S 13 0 % S 13 0) := by rw [← e4]; exact pk_rem (by omega) hn0 (by omega)
    have e2 : nI k - nI (k / S 13 0) * nI (S 13 0) = nI (k % S 13 0) := by rw [← e3]; exact pk_rem (by omega) hn0 (by omega)
    have e0 : ¬ nI (S 13 0) = 0 := nI_ne0 hn0 (by omega)
    have e00 : ¬ nI (S 13 0 * S 13 0) = 0 := nI_ne0 hnp (by omega)
    have hun : ∀ a' b' c', a' < b' → a' < c' → b' ≠ c' → b' < S 13 0 → c' < S 13 0 → (a' * S 13 0 + b') * S 13 0 + c' < k + 1 → (k / S 13 0 / S 13 0 < k / S 13 0 % S 13 0 → k / S 13 0 / S 13 0 < k % S 13 0 → k / S 13 0 % S 13 0 ≠ k % S 13 0 → am_ls S (k / S 13 0 / S 13 0, k / S 13 0 % S 13 0, k % S 13 0) = 0) → am_ls S (a', b', c') = 0 := fun a' b' c' x y z u v w hz => by
      by_cases e : (a' * S 13 0 + b') * S 13 0 + c' = k
      · obtain ⟨u1, v1⟩ := am_code v e
        obtain ⟨u2, v2⟩ := am_code u u1.symm
        rw [u2, v2, v1] at hz
        exact hz x y z
      · exact hm a' b' c' x y z u v (by omega)
    have hcc : (k / S 13 0 / S 13 0 * S 13 0 + k / S 13 0 % S 13 0) * S 13 0 + k % S 13 0 = k := by rw [hcode2]; exact hcode
    clear hcode hcode2 hdd
    generalize k / S 13 0 / S 13 0 = a at *
    generalize k / S 13 0 % S 13 0 = b at *
    generalize k % S 13 0 = c at *
    generalize hG1 : am_up G 114 16 (nI a) = G1
    have f1 : am_frg G G1 := by rw [← hG1]; exact am_frg_up _ _ (by omega)
    have r1 : G1 114 16 = nI a := by rw [← hG1, am_up_get, if_pos rfl, if_pos rfl]
    generalize hG2 : am_up G1 114 17 (nI b) = G2
    have f2 : am_frg G1 G2 := by rw [← hG2]; exact am_frg_up _ _ (by omega)
    have r2 : G2 114 16 = nI a := by rw [← hG2, am_up_get, if_pos rfl, if_neg (by decide)]; exact r1
    have r3 : G2 114 17 = nI b := by rw [← hG2, am_up_get, if_pos rfl, if_pos rfl]
    generalize hG3 : am_up G2 114 18 (nI c) = G3
    have f3 : am_frg G2 G3 := by rw [← hG3]; exact am_frg_up _ _ (by omega)
    have r4 : G3 114 16 = nI a := by rw [← hG3, am_up_get, if_pos rfl, if_neg (by decide)]; exact r2
    have r5 : G3 114 17 = nI b := by rw [← hG3, am_up_get, if_pos rfl, if_neg (by decide)]; exact r3
    have r6 : G3 114 18 = nI c := by rw [← hG3, am_up_get, if_pos rfl, if_pos rfl]
    have fr : am_frg G G3 := (f1.tr f2).tr f3
    have hp3 : am_rp (G3 115) S := by rw [fr.row]; exact h
    have skip : ∀ (hz : a < b → a < c → b ≠ c → am_ls S (a, b, c) = 0), (∀ (G' : am_G) (x : Bool), am_Rn X (D + 2) (some .boolean) am_J174 9 [some (.ref 114), some (.int (nI (S 13 0))), some (.int (nI (k + 1)))] [] (am_L0 q, G3) (some (.int (am_bI x)), (am_L0 q, G')) → am_Rn X (D + 2) (some .boolean) am_J174 9 [some (.ref 114), some (.int (nI (S 13 0))), some (.int (nI k))] [] (am_L0 q, G) (some (.int (am_bI x)), (am_L0 q, G'))) → ∃ (G' : am_G) (x : Bool), am_frg G G' ∧ am_sp3 S G' x ∧ am_Rn X (D + 2) (some .boolean) am_J174 9 [some (.ref 114), some (.int (nI (S 13 0))), some (.int (nI k))] [] (am_L0 q, G) (some (.int (am_bI x)), (am_L0 q, G')) := fun hz hr => by
      obtain ⟨G', x, g1, g2, g3⟩ := ih (k + 1) G3 (by omega) hp3 fun a' b' c' x y z u v w => hun a' b' c' x y z u v w hz
      exact ⟨G', x, fr.tr g1, g2, hr G' x g3⟩
    by_cases c1 : a < b
    · have j1 : ¬ nI b ≤ nI a := nI_ge c1 (by omega)
      by_cases c2 : a < c
      · have j2 : ¬ nI c ≤ nI a := nI_ge c2 (by omega)
        have o1 := am_m172 (X := X) (D := D) (q := q) hp3 hw (a := a) (b := b) (by omega) (by omega)
        have o2 := am_m172 (X := X) (D := D) (q := q) hp3 hw (a := b) (b := c) (by omega) (by omega)
        have o3 := am_m172 (X := X) (D := D) (q := q) hp3 hw (a := c) (b := a) (by omega) (by omega)
        cases d1 : (decide (a ≠ b) && decide (0 < S (5 + a) b)) with
        | false =>
          rw [d1] at o1
          have z := am_o2f d1 (by omega)
          refine skip (fun _ _ _ => by rw [am_ls3 _ (by omega)]; omega) fun G' x g3 => ?_
          simp only [am_s174_9, am_s174_10, am_s174_11, am_s174_12, am_s174_13, am_s174_14, am_s174_15, am_s174_18, am_s174_19, am_s174_20, am_s174_21, am_s174_22, am_s174_23, am_s174_24, am_s174_27, am_s174_28, am_s174_29, am_s174_30, am_s174_31, am_s174_32, am_s174_33, am_s174_36, am_s174_37, am_s174_38, am_s174_39, am_s174_40, am_s174_43, am_s174_44, am_s174_47, am_s174_48, am_s174_51, am_s174_54, am_s174_55, am_s174_58, am_s174_59, am_s174_62, am_s174_65, am_s174_66, am_s174_67, am_s174_70, am_s174_71, am_s174_74, am_s174_77, am_s174_80, am_s174_81, am_s174_82, am_s174_85, am_s174_86, am_s174_89, am_s174_92, am_s174_95, am_s174_96, am_s174_97, am_s174_100, am_s174_101, am_s174_104, am_s174_107, am_s174_110, am_s174_111, am_s174_112, hs, hs2, h1, e0, e00, e1, e2, e3, e4, e5, am_p114_16, am_p114_17, am_p114_18, hG1, hG2, hG3, am_f114_16, am_f114_17, am_f114_18, r4, r5, r6, j1, j2, am_cal_ok am_cat_0 am_v114 (o1), am_bI0, not_true_eq_false, not_false_eq_true, eq_self, am_os_some, Option.toList_some, Option.toList_none, List.cons_append, List.nil_append, if_true, if_false, true_and, am_nw1_i, am_nw1_r, am_nw1_n, cond_true]
          rw [am_s174_115, hi]
          exact g3
        | true =>
          rw [d1] at o1
          obtain ⟨-, z1⟩ := am_o2.mp d1
          cases d2 : (decide (b ≠ c) && decide (0 < S (5 + b) c)) with
          | false =>
            rw [d2] at o2
            refine skip (fun _ _ n => by have z := am_o2f d2 n; rw [am_ls3 _ (by omega)]; omega) fun G' x g3 => ?_
            simp only [am_s174_9, am_s174_10, am_s174_11, am_s174_12, am_s174_13, am_s174_14, am_s174_15, am_s174_18, am_s174_19, am_s174_20, am_s174_21, am_s174_22, am_s174_23, am_s174_24, am_s174_27, am_s174_28, am_s174_29, am_s174_30, am_s174_31, am_s174_32, am_s174_33, am_s174_36, am_s174_37, am_s174_38, am_s174_39, am_s174_40, am_s174_43, am_s174_44, am_s174_47, am_s174_48, am_s174_51, am_s174_54, am_s174_55, am_s174_58, am_s174_59, am_s174_62, am_s174_65, am_s174_66, am_s174_67, am_s174_70, am_s174_71, am_s174_74, am_s174_77, am_s174_80, am_s174_81, am_s174_82, am_s174_85, am_s174_86, am_s174_89, am_s174_92, am_s174_95, am_s174_96, am_s174_97, am_s174_100, am_s174_101, am_s174_104, am_s174_107, am_s174_110, am_s174_111, am_s174_112, hs, hs2, h1, e0, e00, e1, e2, e3, e4, e5, am_p114_16, am_p114_17, am_p114_18, hG1, hG2, hG3, am_f114_16, am_f114_17, am_f114_18, r4, r5, r6, j1, j2, am_cal_ok am_cat_0 am_v114 (o1), am_cal_ok am_cat_0 am_v114 (o2), am_bI0, reduceCtorEq, not_true_eq_false, not_false_eq_true, eq_self, am_os_some, Option.toList_some, Option.toList_none, List.cons_append, List.nil_append, if_true, if_false, true_and, am_nw1_i, am_nw1_r, am_nw1_n, cond_true]
            rw [am_s174_115, hi]
            exact g3
          | true =>
            rw [d2] at o2
            obtain ⟨n2, z2⟩ := am_o2.mp d2
            cases d3 : (decide (c ≠ a) && decide (0 < S (5 + c) a)) with
            | false =>
              rw [d3] at o3
              have z := am_o2f d3 (by omega)
              refine skip (fun _ _ _ => by rw [am_ls3 _ (by omega)]; omega) fun G' x g3 => ?_
              simp only [am_s174_9, am_s174_10, am_s174_11, am_s174_12, am_s174_13, am_s174_14, am_s174_15, am_s174_18, am_s174_19, am_s174_20, am_s174_21, am_s174_22, am_s174_23, am_s174_24, am_s174_27, am_s174_28, am_s174_29, am_s174_30, am_s174_31, am_s174_32, am_s174_33, am_s174_36, am_s174_37, am_s174_38, am_s174_39, am_s174_40, am_s174_43, am_s174_44, am_s174_47, am_s174_48, am_s174_51, am_s174_54, am_s174_55, am_s174_58, am_s174_59, am_s174_62, am_s174_65, am_s174_66, am_s174_67, am_s174_70, am_s174_71, am_s174_74, am_s174_77, am_s174_80, am_s174_81, am_s174_82, am_s174_85, am_s174_86, am_s174_89, am_s174_92, am_s174_95, am_s174_96, am_s174_97, am_s174_100, am_s174_101, am_s174_104, am_s174_107, am_s174_110, am_s174_111, am_s174_112, hs, hs2, h1, e0, e00, e1, e2, e3, e4, e5, am_p114_16, am_p114_17, am_p114_18, hG1, hG2, hG3, am_f114_16, am_f114_17, am_f114_18, r4, r5, r6, j1, j2, am_cal_ok am_cat_0 am_v114 (o1), am_cal_ok am_cat_0 am_v114 (o2), am_cal_ok am_cat_0 am_v114 (o3), am_bI0, reduceCtorEq, not_true_eq_false, not_false_eq_true, eq_self, am_os_some, Option.toList_some, Option.toList_none, List.cons_append, List.nil_append, if_true, if_false, true_and, am_nw1_i, am_nw1_r, am_nw1_n, cond_true]
              rw [am_s174_115, hi]
              exact g3
            | true =>
              rw [d3] at o3
              obtain ⟨-, z3⟩ := am_o2.mp d3
              refine ⟨G3, true, fr, ⟨fun _ => ⟨a, b, c, c1, c2, n2, b8, c8, r4, r5, r6, by rw [am_ls3 _ (by omega)]; omega, fun a' b' c' x y z u v w => hm a' b' c' x y z u v (by omega)⟩, fun e => nomatch e⟩, ?_⟩
              simp only [am_s174_9, am_s174_10, am_s174_11, am_s174_12, am_s174_13, am_s174_14, am_s174_15, am_s174_18, am_s174_19, am_s174_20, am_s174_21, am_s174_22, am_s174_23, am_s174_24, am_s174_27, am_s174_28, am_s174_29, am_s174_30, am_s174_31, am_s174_32, am_s174_33, am_s174_36, am_s174_37, am_s174_38, am_s174_39, am_s174_40, am_s174_43, am_s174_44, am_s174_47, am_s174_48, am_s174_51, am_s174_54, am_s174_55, am_s174_58, am_s174_59, am_s174_62, am_s174_65, am_s174_66, am_s174_67, am_s174_70, am_s174_71, am_s174_74, am_s174_77, am_s174_80, am_s174_81, am_s174_82, am_s174_85, am_s174_86, am_s174_89, am_s174_92, am_s174_95, am_s174_96, am_s174_97, am_s174_100, am_s174_101, am_s174_104, am_s174_107, am_s174_110, am_s174_111, am_s174_112, hs, hs2, h1, e0, e00, e1, e2, e3, e4, e5, am_p114_16, am_p114_17, am_p114_18, hG1, hG2, hG3, am_f114_16, am_f114_17, am_f114_18, r4, r5, r6, j1, j2, am_cal_ok am_cat_0 am_v114 (o1), am_cal_ok am_cat_0 am_v114 (o2), am_cal_ok am_cat_0 am_v114 (o3), am_bI0, reduceCtorEq, not_true_eq_false, not_false_eq_true, true_or, or_true, eq_self, am_os_some, Option.toList_some, Option.toList_none, List.cons_append, List.nil_append, if_true, if_false, true_and, am_nw1_i, am_nw1_r, am_nw1_n, cond_true]
              all_goals rfl
      · have j2 : nI c ≤ nI a := nI_le (by omega) (by omega)
        refine skip (fun _ h _ => absurd h c2) fun G' x g3 => ?_
        simp only [am_s174_9, am_s174_10, am_s174_11, am_s174_12, am_s174_13, am_s174_14, am_s174_15, am_s174_18, am_s174_19, am_s174_20, am_s174_21, am_s174_22, am_s174_23, am_s174_24, am_s174_27, am_s174_28, am_s174_29, am_s174_30, am_s174_31, am_s174_32, am_s174_33, am_s174_36, am_s174_37, am_s174_38, am_s174_39, am_s174_40, am_s174_43, am_s174_44, am_s174_47, am_s174_48, am_s174_51, am_s174_54, am_s174_55, am_s174_58, am_s174_59, am_s174_62, am_s174_65, am_s174_66, am_s174_67, am_s174_70, am_s174_71, am_s174_74, am_s174_77, am_s174_80, am_s174_81, am_s174_82, am_s174_85, am_s174_86, am_s174_89, am_s174_92, am_s174_95, am_s174_96, am_s174_97, am_s174_100, am_s174_101, am_s174_104, am_s174_107, am_s174_110, am_s174_111, am_s174_112, hs, hs2, h1, e0, e00, e1, e2, e3, e4, e5, am_p114_16, am_p114_17, am_p114_18, hG1, hG2, hG3, am_f114_16, am_f114_17, am_f114_18, r4, r5, r6, j1, j2, not_true_eq_false, not_false_eq_true, eq_self, am_os_some, Option.toList_some, Option.toList_none, List.cons_append, List.nil_append, if_true, if_false, true_and, am_nw1_i, am_nw1_r, am_nw1_n, cond_true]
        rw [am_s174_115, hi]
        exact g3
    · have j1 : nI b ≤ nI a := nI_le (by omega) (by omega)
      refine skip (fun h _ _ => absurd h c1) fun G' x g3 => ?_
      simp only [am_s174_9, am_s174_10, am_s174_11, am_s174_12, am_s174_13, am_s174_14, am_s174_15, am_s174_18, am_s174_19, am_s174_20, am_s174_21, am_s174_22, am_s174_23, am_s174_24, am_s174_27, am_s174_28, am_s174_29, am_s174_30, am_s174_31, am_s174_32, am_s174_33, am_s174_36, am_s174_37, am_s174_38, am_s174_39, am_s174_40, am_s174_43, am_s174_44, am_s174_47, am_s174_48, am_s174_51, am_s174_54, am_s174_55, am_s174_58, am_s174_59, am_s174_62, am_s174_65, am_s174_66, am_s174_67, am_s174_70, am_s174_71, am_s174_74, am_s174_77, am_s174_80, am_s174_81, am_s174_82, am_s174_85, am_s174_86, am_s174_89, am_s174_92, am_s174_95, am_s174_96, am_s174_97, am_s174_100, am_s174_101, am_s174_104, am_s174_107, am_s174_110, am_s174_111, am_s174_112, hs, hs2, h1, e0, e00, e1, e2, e3, e4, e5, am_p114_16, am_p114_17, am_p114_18, hG1, hG2, hG3, am_f114_16, am_f114_17, am_f114_18, r4, r5, r6, j1, not_true_eq_false, not_false_eq_true, eq_self, am_os_some, Option.toList_some, Option.toList_none, List.cons_append, List.nil_append, if_true, if_false, true_and, am_nw1_i, am_nw1_r, am_nw1_n, cond_true]
      rw [am_s174_115, hi]
      exact g3
theorem am_m174 {G : am_G} (h : am_rp (G 115) S) (hw : am_wf S) : ∃ (G' : am_G) (x : Bool), am_frg G G' ∧ am_sp3 S G' x ∧ am_CD X (D + 3) 174 [.ref 114] (am_L0 q, G) = some (some (.int (am_bI x)), (am_L0 q, G')) := by
  obtain ⟨G', b, f, s, g⟩ := am_l174 (X := X) (D := D) (q := q) hw (S 13 0 * S 13 0 * S 13 0) 0 G (by omega) h fun _ _ _ _ _ _ _ _ w => by omega
  have k2 : G 115 2 = nI (S 13 0) := h.2.1
  refine ⟨G', b, f, s, am_CD_of (M := am_N174) rfl rfl ?_⟩
  show am_Rn _ _ ((Option.some FieldType.boolean)) am_J174 0 [some (.ref 114), none, none] [] (am_L0 q, G) _
  simp only [am_s174_0, am_s174_1, am_s174_4, am_s174_5, am_s174_6, am_s174_7, am_s174_8, am_f114_0, am_r115_2, k2, eq_self, am_os_some, Option.toList_some, Option.toList_none, List.cons_append, List.nil_append, if_true, if_false, true_and, am_nw1_i, am_nw1_r, am_nw1_n, cond_true]
  exact g
end AMRK1
