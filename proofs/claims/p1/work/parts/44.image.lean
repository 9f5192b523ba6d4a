/-! the reference's image -/
section AMIM
variable {X : am_X} {D q : Nat}
theorem am_l128 : ∀ (d k : Nat) (G : am_G), k + d = 281 → ∃ G' : am_G, (∀ i a, i ≠ 116 → G' i a = G i a) ∧ am_Rn X D none am_J128 2 [some (.ref 114), some (.ref 115), some (.ref 116), some (.int (nI k))] [] (am_L0 q, G) (none, (am_L0 q, G')) := by
  intro d
  induction d with
  | zero =>
    intro k G hk
    obtain rfl : k = 281 := by omega
    refine ⟨G, fun _ _ _ => rfl, ?_⟩
    have h : ¬ nI 281 < 281 := by decide +kernel
    simp only [am_s128_0, am_s128_1, am_s128_2, am_s128_3, am_s128_6, am_s128_9, am_s128_10, am_s128_11, am_s128_12, am_s128_13, am_s128_14, am_s128_15, am_s128_21, h, if_false, true_and]
  | succ d ih =>
    intro k G hk
    have h : nI k < 281 := nI_lt (show k < 281 by omega) (by decide)
    have hi : nI k + 1 = nI (k + 1) := nI_add k 1
    have hc : (nI k).toNatClampNeg = k := nI_clamp (by omega)
    obtain ⟨G', h1, hh⟩ := ih (k + 1) (am_up G 116 k (G 115 k)) (by omega)
    refine ⟨G', fun i a hx => by rw [h1 i a hx]; simp [am_up_get, hx], ?_⟩
    simp only [am_s128_0, am_s128_1, am_s128_2, am_s128_3, am_s128_6, am_s128_9, am_s128_10, am_s128_11, am_s128_12, am_s128_13, am_s128_14, am_s128_15, am_s128_21, h, am_a115, am_t116, hc, am_in_nI (show k < 281 by omega) (by decide), cond_true, am_os_some, if_true, true_and, am_nw1_i, am_nw1_r, am_nw1_n]
    rw [am_s128_18, hi]
    exact hh
theorem am_m128 {G : am_G} : ∃ G' : am_G, (∀ i a, i ≠ 116 → G' i a = G i a) ∧ am_CD X (D + 1) 128 [.ref 114, .ref 115, .ref 116] (am_L0 q, G) = some (none, (am_L0 q, G')) := by
  obtain ⟨G', h1, hh⟩ := am_l128 (X := X) (D := D) (q := q) 281 0 G rfl
  refine ⟨G', h1, ?_⟩
  refine am_CD_of (M := am_N128) rfl rfl ?_
  show am_Rn _ _ none am_J128 0 [some (.ref 114), some (.ref 115), some (.ref 116), none] [] (am_L0 q, G) _
  simp only [am_s128_0, am_s128_1, true_and, am_nw1_i, am_nw1_r, am_nw1_n]
  exact hh
theorem am_o211 {G : am_G} : ∃ G' : am_G, (∀ i a, i ≠ 114 → i ≠ 116 → G' i a = G i a) ∧ am_CD X (D + 4) 211 [.ref 114] (am_L0 q, G) = some (some (.int (G 114 5 + 1)), (am_L0 q, G')) := by
  obtain ⟨G', h1, hh⟩ := am_m128 (X := X) (D := D + 2) (q := q) (G := G)
  have e5 : G' 114 5 = G 114 5 := h1 114 5 (by decide)
  refine ⟨am_up (am_up G' 114 4 1) 114 5 (G 114 5 + 1), fun i a ha hb => by rw [← h1 i a hb]; simp [am_up_get, ha], ?_⟩
  refine am_CD_of (M := am_N211) rfl rfl ?_
  show am_Rn _ _ ((Option.some FieldType.int)) am_J211 0 [some (.ref 114)] [] (am_L0 q, G) _
  simp only [am_s211_0, am_s211_1, am_s211_2, am_s211_5, am_s211_6, am_s211_9, am_s211_12, am_s211_13, am_s211_14, am_s211_17, am_s211_18, am_s211_18a, am_s211_19, am_s211_22, am_s211_23, am_s211_24, am_s211_27, am_s211_28, am_s211_31, am_f114_0, am_f114_1, am_f114_5, am_p114_4_1, am_p114_5, am_cal_ok am_cat_0 am_v114 hh, am_up_get, Nat.reduceEqDiff, e5, am_os_some, Option.toList_some, Option.toList_none, List.cons_append, List.nil_append, reduceCtorEq, if_true, if_false, ite_self, true_and]
end AMIM
