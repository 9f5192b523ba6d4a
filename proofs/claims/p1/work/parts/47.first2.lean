/-! first, the class's side on the fresh world -/
section AMFJ
variable {X : am_X} {D : Nat}
theorem am_m21 : ∃ G' : am_G, G' 60 8 = 0 ∧ G' 115 2 = 0 ∧ G' 115 0 = 0 ∧ am_CD X (D + 40) 21 [.ref 60, .ref 10] (am_L0 1000, am_g0) = some (none, (am_L0 1000, G')) := by
  have h := am_op21
  generalize e : am_call am_none 100000 40 21 [.ref 60, .ref 10] am_W0 = r at h
  match r, e, h with
  | none, _, h => cases h
  | some (some _, _), _, h => cases h
  | some (none, w1), e, h =>
    simp only [Bool.and_eq_true, decide_eq_true_eq] at h
    obtain ⟨a, b, c, d⟩ := h
    have h1 := am_call_CD (X' := X) (fun i q hh => by cases hh) 40 21 _ _ _ e
    have h2 := am_CD_up (X := X) (X' := X) (fun _ _ hh => hh) 40 (D + 40) 21 _ _ _ (by omega) h1
    refine ⟨w1.2, b, c, d, ?_⟩
    exact h2.trans (congrArg (fun z => some (none, (z, w1.2))) a)
theorem am_m64 (x : Int32) : ∃ G' : am_G, G' 115 2 = 0 ∧ G' 115 0 = 0 ∧ am_CD X (D + 41) 64 [.ref 59, .int x] (am_L0 1000, am_g0) = some (some (.int (-1)), (am_L0 1000, G')) := by
  obtain ⟨G1, b, c, d, h1⟩ := am_m21 (X := X) (D := D)
  obtain ⟨G2, e, h2⟩ := am_l64 (X := X) (D := D + 39) (q := 1000) (x := x) 61 0 G1 rfl b
  refine ⟨G2, by rw [e 115 2 (by decide), c], by rw [e 115 0 (by decide), d], ?_⟩
  refine am_CD_of (M := am_N64) rfl rfl ?_
  show am_Rn _ _ ((Option.some FieldType.int)) am_J64 0 [some (.ref 59), some (.int x), none] [] (am_L0 1000, am_g0) _
  simp only [am_s64_0, am_s64_1, am_s64_4, am_s64_5, am_s64_8, am_s64_11, am_s64_12, am_f59_0, am_f59_1, am_cal_ok am_cat_0 am_v60 h1, am_os_some, Option.toList_none, List.nil_append, true_and, am_nw1_i, am_nw1_r, am_nw1_n]
  exact h2
theorem am_o95 {x b : Int32} (h1 : ¬ x < 1) (h2 : x ≤ 99) (h3 : am_wi b 1 = true) : ∃ G' : am_G, G' 115 2 = 0 ∧ G' 115 0 = 0 ∧ am_CD X (D + 44) 95 [.ref 0, .int x, .int b] (am_L0 1000, am_g0) = some (some (.int (-1000000002)), (am_L0 1000, G')) := by
  obtain ⟨G1, c, d, hh⟩ := am_m64 (X := X) (D := D + 2) x
  refine ⟨am_up G1 105 2 (G1 105 2 + 1), by simp [am_up_get, c], by simp [am_up_get, d], ?_⟩
  refine am_CD_of (M := am_N95) rfl rfl ?_
  show am_Rn _ _ ((Option.some FieldType.int)) am_J95 0 [some (.ref 0), some (.int x), some (.int b), none] [] (am_L0 1000, am_g0) _
  simp only [am_s95_0, am_s95_1, am_s95_2, am_s95_5, am_s95_6, am_s95_8, am_s95_11, am_s95_12, am_s95_13, am_s95_16, am_s95_19, am_s95_20, am_s95_21, am_s95_24, am_s95_25, am_s95_26, am_s95_29, am_s95_30, am_s95_33, am_s95_34, am_s95_35, am_s95_38, am_s95_39, am_s95_40, am_s95_43, am_s95_44, am_s95_45, am_s95_48, am_s95_49, am_s95_52, am_s95_53, am_s95_56, am_s95_57, am_s95_60, am_s95_61, am_s95_64, am_cal_ok am_cat_0 am_rcv_f (am_m123 _ _), am_f0_2, am_cal_ok am_cat_0 am_v59 hh, am_cal_ok am_cat_0 am_v0 am_e2, am_im1, h1, h2, h3, am_os_some, Option.toList_some, List.cons_append, List.nil_append, am_bI0, reduceCtorEq, if_true, if_false, true_and, am_nw1_i, am_nw1_r, am_nw1_n]
end AMFJ
