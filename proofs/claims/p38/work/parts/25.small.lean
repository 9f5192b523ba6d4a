/-! small methods: exact answers -/
def am_bI (b : Bool) : Int32 := if b = true then 1 else 0
theorem am_bI0 (b : Bool) : (am_bI b = 0) = (b = false) := by cases b <;> simp [am_bI]
theorem am_bI1 (b : Bool) : (am_bI b = 1) = (b = true) := by cases b <;> simp [am_bI]
theorem am_bI01 (b : Bool) : (am_bI b = 0 ∨ am_bI b = 1) = True := by cases b <;> simp [am_bI]
theorem am_bI_if (c : Prop) [Decidable c] (x y : Bool) : (if c then am_bI x else am_bI y) = am_bI (if c then x else y) := by split <;> rfl
def am_wi (v most : Int32) : Bool := decide (¬ v < 0) && decide (v ≤ most)
theorem am_in_nI {k n : Nat} (hk : k < n) (hn : n < 2 ^ 31) : am_in (nI k) n = true := by
  unfold am_in
  rw [nI_clamp (by omega)]
  simp only [Bool.and_eq_true, Bool.not_eq_true', decide_eq_false_iff_not]
  exact ⟨nI_pos (by omega), Nat.ble_eq_true_of_le (by omega)⟩
section AMSM
variable {X : am_X} {D q : Nat} {w : am_M} {G : am_G}
theorem am_m123 (v most : Int32) : am_CD X (D + 1) 123 [.int v, .int most] w = some (some (.int (am_bI (am_wi v most))), w) := by
  refine am_CD_of (M := am_N123) rfl rfl ?_
  show am_Rn X D (some .boolean) am_J123 0 [some (.int v), some (.int most)] [] w _
  simp only [am_s123_0, am_s123_1, am_s123_4, am_s123_5, am_s123_6, am_s123_9, am_s123_10, am_s123_13, am_s123_14]
  unfold am_wi am_bI
  by_cases h : v < 0 <;> by_cases h2 : v ≤ most <;> simp [h, h2]
theorem am_m121 (v : Int32) : am_CD X (D + 2) 121 [.int v] w = some (some (.int (am_bI (am_wi v 3))), w) := by
  refine am_CD_of (M := am_N121) rfl rfl ?_
  show am_Rn X (D + 1) (some .boolean) am_J121 0 [some (.int v)] [] w _
  simp only [am_s121_0, am_s121_1, am_s121_2, am_s121_5, am_cal_ok am_cat_0 am_rcv_f (am_m123 _ _), am_os_some, Option.toList_some, List.cons_append, List.nil_append, am_bI01, true_and]
theorem am_m122 (v : Int32) : am_CD X (D + 2) 122 [.int v] w = some (some (.int (am_bI (am_wi v 69))), w) := by
  refine am_CD_of (M := am_N122) rfl rfl ?_
  show am_Rn X (D + 1) (some .boolean) am_J122 0 [some (.int v)] [] w _
  simp only [am_s122_0, am_s122_1, am_s122_3, am_s122_6, am_cal_ok am_cat_0 am_rcv_f (am_m123 _ _), am_os_some, Option.toList_some, List.cons_append, List.nil_append, am_bI01, true_and]
theorem am_m118 (k : Nat) (hk : k < 6) : am_CD X (D + 1) 118 [.ref 0, .int (nI k)] (am_L0 q, G) = some (some (.int ((-1000000000) - nI k)), (am_L0 q, am_up G 105 k (G 105 k + 1))) := by
  refine am_CD_of (M := am_N118) rfl rfl ?_
  show am_Rn X D (some .int) am_J118 0 [some (.ref 0), some (.int (nI k))] [] (am_L0 q, G) _
  simp only [am_s118_0, am_s118_1, am_s118_4, am_s118_5, am_s118_6, am_s118_7, am_s118_8, am_s118_9, am_s118_10, am_s118_13, am_s118_14, am_s118_15, am_f0_7, am_os_some, am_a105, am_t105, am_in_nI hk (by decide), cond_true, nI_clamp (show k < 2 ^ 31 by omega), true_and]
theorem am_m119 (v : Int32) : am_CD X (D + 1) 119 [.ref 0, .int v] (am_L0 q, G) = some (some (.int (am_bI (decide (¬ v < 0) && decide (v < G 10 8)))), (am_L0 q, G)) := by
  refine am_CD_of (M := am_N119) rfl rfl ?_
  show am_Rn X D (some .boolean) am_J119 0 [some (.ref 0), some (.int v)] [] (am_L0 q, G) _
  simp only [am_s119_0, am_s119_1, am_s119_4, am_s119_5, am_s119_6, am_s119_9, am_s119_12, am_s119_15, am_s119_18, am_s119_19, am_s119_22, am_s119_23, am_f0_0, am_f1_2, am_f10_8, am_os_some]
  unfold am_bI
  by_cases h : v < 0 <;> by_cases h2 : v < G 10 8 <;> simp [h, h2]
theorem am_m125 (v a b : Int32) : am_CD X (D + 1) 125 [.int v, .int a, .int b] w = some (some (.int (am_bI (decide (¬ v < a) && decide (v ≤ b)))), w) := by
  refine am_CD_of (M := am_N125) rfl rfl ?_
  show am_Rn X D (some .boolean) am_J125 0 [some (.int v), some (.int a), some (.int b)] [] w _
  simp only [am_s125_0, am_s125_1, am_s125_2, am_s125_5, am_s125_6, am_s125_7, am_s125_10, am_s125_11, am_s125_14, am_s125_15]
  unfold am_bI
  by_cases h : v < a <;> by_cases h2 : v ≤ b <;> simp [h, h2]
theorem am_m126 (k : Nat) (hk : k < 6) : am_CD X (D + 1) 126 [.ref 114, .int ((-1000000000) - nI k)] (am_L0 q, G) = some (some (.int ((-1000000000) - nI k)), (am_L0 q, am_up G 119 k (G 119 k + 1))) := by
  have e : (-1000000000 : Int32) - ((-1000000000) - nI k) = nI k := by
    match k, hk with
    | 0, _ => decide +kernel
    | 1, _ => decide +kernel
    | 2, _ => decide +kernel
    | 3, _ => decide +kernel
    | 4, _ => decide +kernel
    | 5, _ => decide +kernel
  refine am_CD_of (M := am_N126) rfl rfl ?_
  show am_Rn X D (some .int) am_J126 0 [some (.ref 114), some (.int ((-1000000000) - nI k))] [] (am_L0 q, G) _
  simp only [am_s126_0, am_s126_1, am_s126_4, am_s126_6, am_s126_7, am_s126_8, am_s126_9, am_s126_10, am_s126_11, am_s126_12, am_s126_13, am_s126_14, am_f114_6, am_os_some, e, am_a119, am_t119, am_in_nI hk (by decide), cond_true, nI_clamp (show k < 2 ^ 31 by omega), true_and]
theorem am_m132 (v : Int32) : am_CD X (D + 2) 132 [.ref 114, .int v] (am_L0 q, G) = some (some (.int (am_bI (decide (¬ v < 0) && decide (v ≤ G 115 2 - 1)))), (am_L0 q, G)) := by
  refine am_CD_of (M := am_N132) rfl rfl ?_
  show am_Rn X (D + 1) (some .boolean) am_J132 0 [some (.ref 114), some (.int v)] [] (am_L0 q, G) _
  have e : (2 : Int32).toNatClampNeg = 2 := by decide +kernel
  have h : am_in 2 281 = true := by decide +kernel
  simp only [am_s132_0, am_s132_1, am_s132_2, am_s132_3, am_s132_6, am_s132_7, am_s132_8, am_s132_9, am_s132_10, am_s132_13, am_f114_0, am_os_some, am_a115, h, e, cond_true, am_cal_ok am_cat_0 am_rcv_f (am_m125 _ _ _), Option.toList_some, List.cons_append, List.nil_append, am_bI01, true_and]
theorem am_m183 (v : Int32) : am_CD X (D + 2) 183 [.int v] w = some (some (.int (am_bI (am_wi v 3))), w) := by
  refine am_CD_of (M := am_N183) rfl rfl ?_
  show am_Rn X (D + 1) (some .boolean) am_J183 0 [some (.int v)] [] w _
  simp only [am_s183_0, am_s183_1, am_s183_2, am_s183_3, am_s183_6, am_cal_ok am_cat_0 am_rcv_f (am_m125 _ _ _), am_os_some, Option.toList_some, List.cons_append, List.nil_append, am_bI01, true_and]
  rfl
end AMSM
