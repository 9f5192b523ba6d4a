/-! THE REFERENCE: drawn -/
section AMRI8
variable {X : am_X} {D q : Nat} {G : am_G}
theorem am_m170 : am_CD X (D + 1) 170 [.ref 114] (am_L0 q, G) = some (some (.int (am_zd (G 115 1))), (am_L0 q, am_up G 115 1 (am_zn (G 115 1)))) := by
  refine am_CD_of (M := am_N170) rfl rfl ?_
  show am_Rn _ _ ((Option.some FieldType.int)) am_J170 0 [some (.ref 114)] [] (am_L0 q, G) _
  unfold am_zd am_us am_zn
  simp only [am_s170_0, am_s170_1, am_s170_4, am_s170_5, am_s170_6, am_s170_9, am_s170_10, am_s170_11, am_s170_13, am_s170_14, am_s170_17, am_s170_18, am_s170_19, am_s170_20, am_s170_23, am_s170_24, am_s170_25, am_s170_27, am_s170_28, am_f114_0, am_r115_1, am_w115_1, am_up_get, eq_self, am_os_some, Option.toList_some, Option.toList_none, List.cons_append, List.nil_append, if_true, if_false, true_and, am_nw1_i, am_nw1_r, am_nw1_n, cond_true]
end AMRI8
