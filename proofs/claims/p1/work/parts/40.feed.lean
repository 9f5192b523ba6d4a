/-! feed: the bytes go to the tape; what else there is stays -/
theorem am_n50a : ∀ m : Fin 9, nI m.1 ≤ 50 - (0 : Int32) := by decide +kernel
theorem am_n50b : ∀ m : Fin 9, (0 : Int32) + nI m.1 ≤ 50 := by decide +kernel
theorem am_n18a {n : Nat} (h1 : 1 ≤ n) (h2 : n ≤ 8) : ¬ nI n < 1 ∧ nI n ≤ 8 := by
  have : ∀ m : Fin 9, 1 ≤ m.1 → ¬ nI m.1 < 1 ∧ nI m.1 ≤ 8 := by decide +kernel
  exact this ⟨n, by omega⟩ h1
section AMFE
variable {X : am_X} {D q : Nat}
theorem am_l88 {l : Int64} {n : Nat} (hn : n ≤ 8) : ∀ (d k : Nat) (G : am_G), k + d = n → G 26 1 = nI k → ∃ G' : am_G, (∀ i j, i ≠ 26 → i ≠ 27 → G' i j = G i j) ∧ am_Rn X (D + 3) (some .int) am_J88 47 [some (.ref 0), some (.long l), none, some (.int (nI n)), some (.ref 26), some (.int (nI k))] [] (am_L0 q, G) (some (.int (nI n)), (am_L0 q, G')) := by
  intro d
  induction d with
  | zero =>
    intro k G hk hs
    obtain rfl : k = n := by omega
    refine ⟨G, fun _ _ _ _ => rfl, ?_⟩
    have h : ¬ nI k < nI k := Int32.lt_irrefl
    simp only [am_s88_0, am_s88_1, am_s88_2, am_s88_5, am_s88_6, am_s88_8, am_s88_11, am_s88_12, am_s88_13, am_s88_16, am_s88_17, am_s88_18, am_s88_21, am_s88_24, am_s88_26, am_s88_27, am_s88_29, am_s88_31, am_s88_34, am_s88_35, am_s88_38, am_s88_39, am_s88_40, am_s88_43, am_s88_44, am_s88_45, am_s88_47, am_s88_49, am_s88_50, am_s88_53, am_s88_55, am_s88_56, am_s88_58, am_s88_60, am_s88_61, am_s88_62, am_s88_63, am_s88_66, am_s88_67, am_s88_70, am_s88_76, am_s88_78, am_s88_81, h, hs, am_f26_1, am_os_some, Option.toList_some, List.cons_append, List.nil_append, reduceCtorEq, if_true, if_false, true_and]
  | succ d ih =>
    intro k G hk hs
    have h : nI k < nI n := nI_lt (by omega) (by omega)
    have hi : nI k + 1 = nI (k + 1) := nI_add k 1
    obtain ⟨G', h1, h2⟩ := ih (k + 1) (am_up (am_up G 27 k ((l.toUInt64 >>> ((8 * nI k).toInt64.toUInt64 &&& Int64.toUInt64 63)).toInt64.toInt32 &&& 255)) 26 1 (nI k + 1)) (by omega) (by simp only [am_up_get, hi]; simp)
    refine ⟨G', fun i j h26 h27 => by rw [h1 i j h26 h27]; simp [am_up_get, h26, h27], ?_⟩
    simp only [am_s88_0, am_s88_1, am_s88_2, am_s88_5, am_s88_6, am_s88_8, am_s88_11, am_s88_12, am_s88_13, am_s88_16, am_s88_17, am_s88_18, am_s88_21, am_s88_24, am_s88_26, am_s88_27, am_s88_29, am_s88_31, am_s88_34, am_s88_35, am_s88_38, am_s88_39, am_s88_40, am_s88_43, am_s88_44, am_s88_45, am_s88_47, am_s88_49, am_s88_50, am_s88_53, am_s88_55, am_s88_56, am_s88_58, am_s88_60, am_s88_61, am_s88_62, am_s88_63, am_s88_66, am_s88_67, am_s88_70, am_s88_76, am_s88_78, am_s88_81, h, am_cal_ok am_cat_0 am_v26 (am_m49_26 (show k < 50 by omega) hs), am_os_some, Option.toList_some, Option.toList_none, List.cons_append, List.nil_append, reduceCtorEq, if_true, if_false, true_and, am_nw1_i, am_nw1_r, am_nw1_n]
    rw [am_s88_73, hi]
    rw [hi] at h2
    exact h2
theorem am_o88 {G : am_G} {l : Int64} {n : Nat} (h1 : 1 ≤ n) (hn : n ≤ 8) (hs : G 26 1 = 0) : ∃ G' : am_G, (∀ i j, i ≠ 26 → i ≠ 27 → G' i j = G i j) ∧ am_CD X (D + 4) 88 [.ref 0, .long l, .int (nI n)] (am_L0 q, G) = some (some (.int (nI n)), (am_L0 q, G')) := by
  obtain ⟨G', e1, e2⟩ := am_l88 (X := X) (D := D) (q := q) (l := l) hn n 0 G (by omega) hs
  refine ⟨G', e1, ?_⟩
  have b := am_n18a h1 hn
  have c := am_n50a ⟨n, by omega⟩
  refine am_CD_of (M := am_N88) rfl rfl ?_
  show am_Rn _ _ ((Option.some FieldType.int)) am_J88 0 [some (.ref 0), some (.long l), none, some (.int (nI n)), none, none] [] (am_L0 q, G) _
  simp only [am_s88_0, am_s88_1, am_s88_2, am_s88_5, am_s88_6, am_s88_8, am_s88_17, am_s88_18, am_s88_21, am_s88_24, am_s88_26, am_s88_27, am_s88_29, am_s88_31, am_s88_34, am_s88_35, am_s88_44, am_s88_45, b.1, b.2, hs, c, am_f0_0, am_f1_3, am_f26_1, am_os_some, Option.toList_some, List.cons_append, List.nil_append, reduceCtorEq, if_true, if_false, true_and, am_nw1_i, am_nw1_r, am_nw1_n]
  exact e2
theorem am_l158 {l : Int64} {n : Nat} (hn : n ≤ 8) : ∀ (d k : Nat) (G : am_G), k + d = n → G 115 3 = nI k → ∃ G' : am_G, (∀ i j, i ≠ 115 → G' i j = G i j) ∧ am_Rn X (D + 3) (some .int) am_J158 40 [some (.ref 114), some (.long l), none, some (.int (nI n)), some (.int (nI k))] [] (am_L0 q, G) (some (.int (nI n)), (am_L0 q, G')) := by
  have e3 : (3 : Int32).toNatClampNeg = 3 := by decide +kernel
  have h3 : am_in 3 281 = true := by decide +kernel
  intro d
  induction d with
  | zero =>
    intro k G hk hs
    obtain rfl : k = n := by omega
    refine ⟨G, fun _ _ _ => rfl, ?_⟩
    have h : ¬ nI k < nI k := Int32.lt_irrefl
    simp only [am_s158_0, am_s158_1, am_s158_2, am_s158_4, am_s158_7, am_s158_10, am_s158_11, am_s158_13, am_s158_16, am_s158_17, am_s158_18, am_s158_21, am_s158_22, am_s158_23, am_s158_24, am_s158_25, am_s158_27, am_s158_30, am_s158_31, am_s158_33, am_s158_36, am_s158_37, am_s158_38, am_s158_40, am_s158_42, am_s158_43, am_s158_46, am_s158_47, am_s158_50, am_s158_52, am_s158_53, am_s158_56, am_s158_57, am_s158_58, am_s158_59, am_s158_60, am_s158_62, am_s158_64, am_s158_65, am_s158_66, am_s158_69, am_s158_70, am_s158_71, am_s158_72, am_s158_73, am_s158_76, am_s158_77, am_s158_78, am_s158_79, am_s158_80, am_s158_81, am_s158_82, am_s158_88, am_s158_89, am_s158_92, am_s158_93, am_s158_94, h, hs, am_f114_0, am_a115, h3, e3, cond_true, am_os_some, Option.toList_some, List.cons_append, List.nil_append, reduceCtorEq, if_true, if_false, true_and]
  | succ d ih =>
    intro k G hk hs
    have h : nI k < nI n := nI_lt (by omega) (by omega)
    have hi : nI k + 1 = nI (k + 1) := nI_add k 1
    have h111 : (111 : Int32) + nI k = nI (111 + k) := nI_add 111 k
    have hc : (nI (111 + k)).toNatClampNeg = 111 + k := nI_clamp (by omega)
    have hne : ¬ (3 = 111 + k) := by omega
    obtain ⟨G', h1, h2⟩ := ih (k + 1) (am_up (am_up G 115 (111 + k) ((l >>> ((8 * nI k).toInt64 &&& 63) &&& Int64.ofNat 255).toInt32)) 115 3 (nI k + 1)) (by omega) (by simp only [am_up_get, hi]; simp)
    refine ⟨G', fun i j hh => by rw [h1 i j hh]; simp [am_up_get, hh], ?_⟩
    simp only [am_s158_0, am_s158_1, am_s158_2, am_s158_4, am_s158_7, am_s158_10, am_s158_11, am_s158_13, am_s158_16, am_s158_17, am_s158_18, am_s158_21, am_s158_22, am_s158_23, am_s158_24, am_s158_25, am_s158_27, am_s158_30, am_s158_31, am_s158_33, am_s158_36, am_s158_37, am_s158_38, am_s158_40, am_s158_42, am_s158_43, am_s158_46, am_s158_47, am_s158_50, am_s158_52, am_s158_53, am_s158_56, am_s158_57, am_s158_58, am_s158_59, am_s158_60, am_s158_62, am_s158_64, am_s158_65, am_s158_66, am_s158_69, am_s158_70, am_s158_71, am_s158_72, am_s158_73, am_s158_76, am_s158_77, am_s158_78, am_s158_79, am_s158_80, am_s158_81, am_s158_82, am_s158_88, am_s158_89, am_s158_92, am_s158_93, am_s158_94, h, am_f114_0, am_a115, am_t115, h3, e3, hs, h111, hc, am_in_nI (show 111 + k < 281 by omega) (by decide), am_up_get, hne, am_os_some, Option.toList_some, Option.toList_none, List.cons_append, List.nil_append, reduceCtorEq, if_true, if_false, true_and, am_nw1_i, am_nw1_r, am_nw1_n, cond_true]
    rw [am_s158_85, hi]
    rw [hi] at h2
    exact h2
theorem am_o158 {G : am_G} {l : Int64} {n : Nat} (h1 : 1 ≤ n) (hn : n ≤ 8) (hs : G 115 3 = 0) : ∃ G' : am_G, (∀ i j, i ≠ 115 → G' i j = G i j) ∧ am_CD X (D + 4) 158 [.ref 114, .long l, .int (nI n)] (am_L0 q, G) = some (some (.int (nI n)), (am_L0 q, G')) := by
  obtain ⟨G', e1, e2⟩ := am_l158 (X := X) (D := D) (q := q) (l := l) hn n 0 G (by omega) hs
  refine ⟨G', e1, ?_⟩
  have e3 : (3 : Int32).toNatClampNeg = 3 := by decide +kernel
  have h3 : am_in 3 281 = true := by decide +kernel
  have b : (decide (¬ nI n < 1) && decide (nI n ≤ 8)) = true := by
    have := am_n18a h1 hn
    simp only [this.1, this.2]; decide
  have c := am_n50b ⟨n, by omega⟩
  refine am_CD_of (M := am_N158) rfl rfl ?_
  show am_Rn _ _ ((Option.some FieldType.int)) am_J158 0 [some (.ref 114), some (.long l), none, some (.int (nI n)), none] [] (am_L0 q, G) _
  simp only [am_s158_0, am_s158_1, am_s158_2, am_s158_4, am_s158_7, am_s158_17, am_s158_18, am_s158_21, am_s158_22, am_s158_23, am_s158_24, am_s158_25, am_s158_27, am_s158_37, am_s158_38, am_cal_ok am_cat_0 am_rcv_f (am_m125 _ _ _), b, hs, c, am_f114_0, am_a115, h3, e3, am_os_some, Option.toList_some, List.cons_append, List.nil_append, am_bI0, reduceCtorEq, if_true, if_false, true_and, am_nw1_i, am_nw1_r, am_nw1_n, cond_true]
  exact e2
theorem am_o158e {G : am_G} {l : Int64} {n : Int32} (h : (decide (¬ n < 1) && decide (n ≤ 8)) = false) : am_CD X (D + 4) 158 [.ref 114, .long l, .int n] (am_L0 q, G) = some (some (.int (-1000000001)), (am_L0 q, am_up G 119 1 (G 119 1 + 1))) := by
  refine am_CD_of (M := am_N158) rfl rfl ?_
  show am_Rn _ _ ((Option.some FieldType.int)) am_J158 0 [some (.ref 114), some (.long l), none, some (.int n), none] [] (am_L0 q, G) _
  simp only [am_s158_0, am_s158_1, am_s158_2, am_s158_4, am_s158_7, am_s158_10, am_s158_11, am_s158_13, am_s158_16, am_cal_ok am_cat_0 am_rcv_f (am_m125 _ _ _), am_cal_ok am_cat_0 am_v114 am_d1, h, am_os_some, Option.toList_some, List.cons_append, List.nil_append, am_bI0, reduceCtorEq, if_true, if_false, true_and]
end AMFE
