/-! first: no one, so no one thirsts within 60 days; the class's side -/
theorem am_op21 : (match am_call am_none 100000 40 21 [.ref 60, .ref 10] am_W0 with
  | some (none, w1) => decide (w1.1 = am_L0 1000) && (decide (w1.2 60 8 = 0) && (decide (w1.2 115 2 = 0) && decide (w1.2 115 0 = 0)))
  | _ => false) = true := by decide +kernel
section AMFI
variable {X : am_X} {D q : Nat}
theorem am_i01 : ((0 : Int32) < 1) = True := by decide
theorem am_i00 : ((0 : Int32) < 0) = False := by decide
theorem am_i11 : ((0 : Int32) + 1 < 1) = False := by decide
theorem am_im1 : ((-1 : Int32) < 0) = True := by decide
theorem am_m34 {G : am_G} (hs : G 60 8 = 0) (x : Int32) : am_CD X (D + 1) 34 [.ref 60, .int x] (am_L0 q, G) = some (some (.int (-1)), (am_L0 q, G)) := by
  refine am_CD_of (M := am_N34) rfl rfl ?_
  show am_Rn _ _ ((Option.some FieldType.int)) am_J34 0 [some (.ref 60), some (.int x), none] [] (am_L0 q, G) _
  simp only [am_s34_0, am_s34_1, am_s34_2, am_s34_3, am_s34_4, am_s34_7, am_s34_10, am_s34_11, am_s34_14, am_s34_15, am_s34_16, am_s34_17, am_s34_20, am_s34_21, am_s34_22, am_s34_25, am_s34_28, am_s34_29, am_f60_8, hs, am_i00, am_os_some, if_false, true_and, am_nw1_i, am_nw1_r, am_nw1_n]
theorem am_m30 {G : am_G} (hs : G 60 8 = 0) : am_CD X (D + 1) 30 [.ref 60, .int 1, .int (-1)] (am_L0 q, G) = some (none, (am_L0 q, am_up G 60 9 (G 60 9 + 1))) := by
  refine am_CD_of (M := am_N30) rfl rfl ?_
  show am_Rn _ _ none am_J30 0 [some (.ref 60), some (.int 1), some (.int (-1)), none, none] [] (am_L0 q, G) _
  simp only [am_s30_0, am_s30_1, am_s30_2, am_s30_3, am_s30_4, am_s30_7, am_s30_8, am_s30_10, am_s30_12, am_s30_13, am_s30_16, am_s30_19, am_s30_20, am_s30_22, am_s30_23, am_s30_26, am_s30_29, am_s30_32, am_s30_33, am_s30_35, am_s30_37, am_s30_38, am_s30_41, am_s30_44, am_s30_45, am_s30_47, am_s30_50, am_s30_53, am_s30_56, am_s30_57, am_s30_57a, am_s30_58, am_s30_61, am_s30_62, am_s30_63, am_s30_66, am_s30_69, am_s30_72, am_f60_8, am_f60_9, am_p60_9, hs, am_i00, am_i01, am_i11, am_os_some, if_true, if_false, true_and, am_nw1_i, am_nw1_r, am_nw1_n]
theorem am_l64 {x : Int32} : ∀ (d k : Nat) (G : am_G), k + d = 61 → G 60 8 = 0 → ∃ G' : am_G, (∀ i a, i ≠ 60 → G' i a = G i a) ∧ am_Rn X (D + 1) (some .int) am_J64 13 [some (.ref 59), some (.int x), some (.int (nI k))] [] (am_L0 q, G) (some (.int (-1)), (am_L0 q, G')) := by
  intro d
  induction d with
  | zero =>
    intro k G hk hs
    obtain rfl : k = 61 := by omega
    refine ⟨G, fun _ _ _ => rfl, ?_⟩
    have h : ¬ nI 61 ≤ 60 := by decide +kernel
    simp only [am_s64_0, am_s64_1, am_s64_4, am_s64_5, am_s64_8, am_s64_11, am_s64_12, am_s64_13, am_s64_14, am_s64_16, am_s64_19, am_s64_20, am_s64_23, am_s64_24, am_s64_27, am_s64_30, am_s64_31, am_s64_32, am_s64_33, am_s64_36, am_s64_37, am_s64_38, am_s64_41, am_s64_47, am_s64_48, h, if_false, true_and]
  | succ d ih =>
    intro k G hk hs
    have h : nI k ≤ 60 := by
      have : ∀ m : Fin 61, nI m.1 ≤ 60 := by decide +kernel
      exact this ⟨k, by omega⟩
    have hi : nI k + 1 = nI (k + 1) := nI_add k 1
    obtain ⟨G', h1, hh⟩ := ih (k + 1) (am_up G 60 9 (G 60 9 + 1)) (by omega) (by simp [am_up_get, hs])
    refine ⟨G', fun i a hx => by rw [h1 i a hx]; simp [am_up_get, hx], ?_⟩
    simp only [am_s64_0, am_s64_1, am_s64_4, am_s64_5, am_s64_8, am_s64_11, am_s64_12, am_s64_13, am_s64_14, am_s64_16, am_s64_19, am_s64_20, am_s64_23, am_s64_24, am_s64_27, am_s64_30, am_s64_31, am_s64_32, am_s64_33, am_s64_36, am_s64_37, am_s64_38, am_s64_41, am_s64_47, am_s64_48, h, am_f59_1, am_cal_ok am_cat_0 am_v60 (am_m34 hs x), am_cal_ok am_cat_0 am_v60 (am_m30 hs), am_im1, am_os_some, Option.toList_some, Option.toList_none, List.cons_append, List.nil_append, if_true, true_and, am_nw1_i, am_nw1_r, am_nw1_n]
    rw [am_s64_44, hi]
    exact hh
end AMFI
