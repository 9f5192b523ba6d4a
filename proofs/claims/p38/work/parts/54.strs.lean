/-! Strings: indexOf of the names -/
def am_ixq (u c : Nat) : Int32 := match am_nam u c with
  | some k => nI k
  | none => -1
theorem am_ch8 : ∀ c : Fin 256, ((116 : Int32) = (nI c.1).toInt8.toInt32 ↔ c.1 = 116) ∧ ((100 : Int32) = (nI c.1).toInt8.toInt32 ↔ c.1 = 100) ∧ ((119 : Int32) = (nI c.1).toInt8.toInt32 ↔ c.1 = 119) ∧ ((111 : Int32) = (nI c.1).toInt8.toInt32 ↔ c.1 = 111) ∧ ((109 : Int32) = (nI c.1).toInt8.toInt32 ↔ c.1 = 109) := by decide +kernel
section AMSX
variable {X : am_X} {D s : Nat} {G : am_G}
theorem am_sv1001_0 : am_sfl 1001 0 = some (.int 0) := rfl
theorem am_sv1001_1 : am_sfl 1001 1 = some (.ref 1011) := rfl
theorem am_sl1001 : am_len X (am_L0 s, G) 1011 = some 3 := rfl
theorem am_sb1001_0 : am_bld 1011 0 = some 116 := by decide +kernel
theorem am_sb1001_1 : am_bld 1011 1 = some 100 := by decide +kernel
theorem am_sb1001_2 : am_bld 1011 2 = some 119 := by decide +kernel
theorem am_m226_1001 {c : Nat} (hc : c < 256) {w : am_M} : am_CD X (D + 1) 226 [.ref 1011, .int (nI c), .int 0, .int 3] w = some (some (.int (am_ixq 0 c)), w) := by
  have h := am_ch8 ⟨c, hc⟩
  have h0 : ((116 : Int32) = (nI c).toInt8.toInt32) = (c = 116) := propext (h.1)
  have h1 : ((100 : Int32) = (nI c).toInt8.toInt32) = (c = 100) := propext (h.2.1)
  have h2 : ((119 : Int32) = (nI c).toInt8.toInt32) = (c = 119) := propext (h.2.2.1)
  have hstep : ∀ (i b : Int32) (o : Option Value × am_M), i < 3 → am_bld 1011 i = some b → am_Rn X D (some .int) am_J226 7 [some (.ref 1011), some (.int (nI c)), some (.int 0), some (.int 3), some (.int (nI c).toInt8.toInt32), some (.int i)] [] w o = if b = (nI c).toInt8.toInt32 then (True ∧ o = (some (.int i), w)) else am_Rn X D (some .int) am_J226 7 [some (.ref 1011), some (.int (nI c)), some (.int 0), some (.int 3), some (.int (nI c).toInt8.toInt32), some (.int (i + 1))] [] w o := by
    intro i b o hi hb
    by_cases c : b = (nI c).toInt8.toInt32
    · rw [if_pos c]
      simp only [am_s226_7, am_s226_9, am_s226_10, am_s226_13, am_s226_14, am_s226_16, am_s226_17, am_s226_19, am_s226_22, am_s226_24, am_s226_25, hi, hb, c, eq_self, am_os_some, Option.toList_some, Option.toList_none, List.cons_append, List.nil_append, if_true, if_false, true_and, am_nw1_i, am_nw1_r, am_nw1_n, cond_true]
    · rw [if_neg c]
      refine Eq.trans ?_ am_s226_28
      simp only [am_s226_7, am_s226_9, am_s226_10, am_s226_13, am_s226_14, am_s226_16, am_s226_17, am_s226_19, am_s226_22, am_s226_24, am_s226_25, hi, hb, c, eq_self, am_os_some, Option.toList_some, Option.toList_none, List.cons_append, List.nil_append, if_true, if_false, true_and, am_nw1_i, am_nw1_r, am_nw1_n, cond_true]
  refine am_CD_of (M := am_N226) rfl rfl ?_
  show am_Rn _ _ ((Option.some FieldType.int)) am_J226 0 [some (.ref 1011), some (.int (nI c)), some (.int 0), some (.int 3), none, none] [] w _
  simp only [am_s226_0, am_s226_1, am_s226_2, am_s226_4, am_s226_5, eq_self, am_os_some, Option.toList_some, Option.toList_none, List.cons_append, List.nil_append, if_true, if_false, true_and, am_nw1_i, am_nw1_r, am_nw1_n, cond_true]
  rw [hstep 0 116 _ (by decide) am_sb1001_0, hstep (0 + 1) 100 _ (by decide) am_sb1001_1, hstep (0 + 1 + 1) 119 _ (by decide) am_sb1001_2]
  simp only [h0, h1, h2]
  by_cases c0 : c = 116
  · rw [if_pos c0]
    exact ⟨trivial, by rw [c0]; rfl⟩
  · rw [if_neg c0]
    by_cases c1 : c = 100
    · rw [if_pos c1]
      exact ⟨trivial, by rw [c1]; rfl⟩
    · rw [if_neg c1]
      by_cases c2 : c = 119
      · rw [if_pos c2]
        exact ⟨trivial, by rw [c2]; rfl⟩
      · rw [if_neg c2]
        have ex : am_ixq 0 c = -1 := by
          unfold am_ixq am_nam
          simp [c0, c1, c2]
        have e4 : ¬ (0 : Int32) + 1 + 1 + 1 < 3 := by decide
        rw [ex]
        simp only [am_s226_7, am_s226_9, am_s226_10, am_s226_31, am_s226_32, e4, eq_self, am_os_some, Option.toList_some, Option.toList_none, List.cons_append, List.nil_append, if_true, if_false, true_and, am_nw1_i, am_nw1_r, am_nw1_n, cond_true]
theorem am_m222_1001 {w : am_M} : am_CD X (D + 1) 222 [.ref 1001] w = some (some (.int 0), w) := by
  have e10 : ((1 : Int32) = 0) = False := by decide
  refine am_CD_of (M := am_N222) rfl rfl ?_
  show am_Rn _ _ ((Option.some FieldType.byte)) am_J222 0 [some (.ref 1001)] [] w _
  simp only [am_s222_0, am_s222_3, am_s222_6, am_s222_7, am_s222_10, am_s222_13, am_s222_14, am_sv1001_0, e10, eq_self, am_os_some, Option.toList_some, Option.toList_none, List.cons_append, List.nil_append, if_true, if_false, true_and, am_nw1_i, am_nw1_r, am_nw1_n, cond_true]
theorem am_m223_1001 {w : am_M} : am_CD X (D + 1) 223 [.ref 1001] w = some (some (.int 1), w) := by
  have e10 : ((1 : Int32) = 0) = False := by decide
  refine am_CD_of (M := am_N223) rfl rfl ?_
  show am_Rn _ _ ((Option.some FieldType.boolean)) am_J223 0 [some (.ref 1001)] [] w _
  simp only [am_s223_0, am_s223_3, am_s223_6, am_s223_7, am_s223_10, am_s223_13, am_s223_14, am_s223_17, am_s223_18, am_sv1001_0, e10, or_true, eq_self, am_os_some, Option.toList_some, Option.toList_none, List.cons_append, List.nil_append, if_true, if_false, true_and, am_nw1_i, am_nw1_r, am_nw1_n, cond_true]
theorem am_m219_1001 : am_CD X (D + 2) 219 [.ref 1001] (am_L0 s, G) = some (some (.int 3), (am_L0 s, G)) := by
  have e : Int32.ofNat 3 >>> ((0 : Int32) &&& 31) = 3 := by decide +kernel
  refine am_CD_of (M := am_N219) rfl rfl ?_
  show am_Rn _ _ ((Option.some FieldType.int)) am_J219 0 [some (.ref 1001)] [] (am_L0 s, G) _
  simp only [am_s219_0, am_s219_1, am_s219_4, am_s219_5, am_s219_6, am_s219_9, am_s219_10, am_sv1001_1, am_sl1001, am_calS_ok (am_cat_1 _) (show am_srv [.ref 1001] = true from rfl) (am_m222_1001 (X := X) (D := D) (w := (am_L0 s, G))), eq_self, am_os_some, Option.toList_some, Option.toList_none, List.cons_append, List.nil_append, if_true, if_false, true_and, am_nw1_i, am_nw1_r, am_nw1_n, cond_true]
  exact congrArg (fun z => (some (Value.int z), (am_L0 s, G))) e.symm
theorem am_m225_1001 {c : Nat} (hc : c < 256) : am_CD X (D + 2) 225 [.ref 1011, .int (nI c), .int 0, .int 3] (am_L0 s, G) = some (some (.int (am_ixq 0 c)), (am_L0 s, G)) := by
  have h1 : ¬ nI c < 0 := nI_pos (by omega)
  have h2 : nI c ≤ 255 := nI_le (show c ≤ 255 by omega) (by decide)
  have g1 : am_CD X (D + 1) 224 [.int (nI c)] (am_L0 s, G) = some (some (.int 1), (am_L0 s, G)) := by
    refine am_CD_of (M := am_N224) rfl rfl ?_
    show am_Rn _ _ ((Option.some FieldType.boolean)) am_J224 0 [some (.int (nI c))] [] (am_L0 s, G) _
    simp only [am_s224_0, am_s224_1, am_s224_4, am_s224_5, am_s224_8, am_s224_11, am_s224_12, am_s224_15, am_s224_16, h1, h2, or_true, eq_self, am_os_some, Option.toList_some, Option.toList_none, List.cons_append, List.nil_append, if_true, if_false, true_and, am_nw1_i, am_nw1_r, am_nw1_n, cond_true]
  have e10 : ((1 : Int32) = 0) = False := by decide
  have e3 : (if (3 : Int32) < Int32.ofNat 3 then (3 : Int32) else Int32.ofNat 3) = 3 := by decide +kernel
  have e3' : (if Int32.ofNat 3 < (3 : Int32) then Int32.ofNat 3 else (3 : Int32)) = 3 := by decide +kernel
  have e0 : ((0 : Int32) < 0) = False := by decide
  have e03 : ((0 : Int32) < 3) = True := by decide
  refine am_CD_of (M := am_N225) rfl rfl ?_
  show am_Rn _ _ ((Option.some FieldType.int)) am_J225 0 [some (.ref 1011), some (.int (nI c)), some (.int 0), some (.int 3)] [] (am_L0 s, G) _
  simp only [am_s225_0, am_s225_1, am_s225_4, am_s225_7, am_s225_8, am_s225_9, am_s225_10, am_s225_11, am_s225_14, am_s225_15, am_s225_16, am_s225_17, am_s225_18, am_s225_21, am_s225_22, am_s225_23, am_s225_24, am_s225_27, am_s225_28, am_s225_29, am_s225_30, am_s225_31, am_s225_32, am_s225_33, am_s225_36, am_cal_ok am_cat_0 am_rcv_f (g1), e10, am_sl1001, e3, e3', e0, e03, am_cat_0, am_cat_1, ite_self, am_cal_ok am_cat_0 am_rcv_f (am_m226_1001 (D := D) hc), eq_self, am_os_some, Option.toList_some, Option.toList_none, List.cons_append, List.nil_append, if_true, if_false, true_and, am_nw1_i, am_nw1_r, am_nw1_n, cond_true]
theorem am_m221_1001 {c : Nat} (hc : c < 256) : am_CD X (D + 3) 221 [.ref 1001, .int (nI c), .int 0] (am_L0 s, G) = some (some (.int (am_ixq 0 c)), (am_L0 s, G)) := by
  have e10 : ((1 : Int32) = 0) = False := by decide
  refine am_CD_of (M := am_N221) rfl rfl ?_
  show am_Rn _ _ ((Option.some FieldType.int)) am_J221 0 [some (.ref 1001), some (.int (nI c)), some (.int 0)] [] (am_L0 s, G) _
  simp only [am_s221_0, am_s221_1, am_s221_4, am_s221_7, am_s221_8, am_s221_11, am_s221_12, am_s221_13, am_s221_14, am_s221_17, am_s221_20, am_s221_23, am_s221_24, am_s221_27, am_s221_28, am_s221_29, am_s221_30, am_s221_36, am_calS_ok am_cat_0 (show am_srv [.ref 1001] = true from rfl) (am_m223_1001 (X := X) (D := D + 1) (w := (am_L0 s, G))), e10, am_sv1001_1, am_calS_ok (am_cat_3 _ _ _) (show am_srv [.ref 1001] = true from rfl) (am_m219_1001 (X := X) (D := D) (s := s) (G := G)), am_cal_ok am_cat_0 am_rcv_f (am_m225_1001 (X := X) (D := D) (s := s) (G := G) hc), eq_self, am_os_some, Option.toList_some, Option.toList_none, List.cons_append, List.nil_append, if_true, if_false, true_and, am_nw1_i, am_nw1_r, am_nw1_n, cond_true]
theorem am_m220_1001 {c : Nat} (hc : c < 256) : am_CD X (D + 4) 220 [.ref 1001, .int (nI c)] (am_L0 s, G) = some (some (.int (am_ixq 0 c)), (am_L0 s, G)) := by
  refine am_CD_of (M := am_N220) rfl rfl ?_
  show am_Rn _ _ ((Option.some FieldType.int)) am_J220 0 [some (.ref 1001), some (.int (nI c))] [] (am_L0 s, G) _
  simp only [am_s220_0, am_s220_1, am_s220_2, am_s220_3, am_s220_6, am_calS_ok am_cat_0 (show am_srv [.ref 1001, .int (nI c), .int 0] = true from rfl) (am_m221_1001 (X := X) (D := D) (s := s) (G := G) hc), eq_self, am_os_some, Option.toList_some, Option.toList_none, List.cons_append, List.nil_append, if_true, if_false, true_and, am_nw1_i, am_nw1_r, am_nw1_n, cond_true]
theorem am_sv1002_0 : am_sfl 1002 0 = some (.int 0) := rfl
theorem am_sv1002_1 : am_sfl 1002 1 = some (.ref 1012) := rfl
theorem am_sl1002 : am_len X (am_L0 s, G) 1012 = some 3 := rfl
theorem am_sb1002_0 : am_bld 1012 0 = some 119 := by decide +kernel
theorem am_sb1002_1 : am_bld 1012 1 = some 111 := by decide +kernel
theorem am_sb1002_2 : am_bld 1012 2 = some 109 := by decide +kernel
theorem am_m226_1002 {c : Nat} (hc : c < 256) {w : am_M} : am_CD X (D + 1) 226 [.ref 1012, .int (nI c), .int 0, .int 3] w = some (some (.int (am_ixq 1 c)), w) := by
  have h := am_ch8 ⟨c, hc⟩
  have h0 : ((119 : Int32) = (nI c).toInt8.toInt32) = (c = 119) := propext (h.2.2.1)
  have h1 : ((111 : Int32) = (nI c).toInt8.toInt32) = (c = 111) := propext (h.2.2.2.1)
  have h2 : ((109 : Int32) = (nI c).toInt8.toInt32) = (c = 109) := propext (h.2.2.2.2)
  have hstep : ∀ (i b : Int32) (o : Option Value × am_M), i < 3 → am_bld 1012 i = some b → am_Rn X D (some .int) am_J226 7 [some (.ref 1012), some (.int (nI c)), some (.int 0), some (.int 3), some (.int (nI c).toInt8.toInt32), some (.int i)] [] w o = if b = (nI c).toInt8.toInt32 then (True ∧ o = (some (.int i), w)) else am_Rn X D (some .int) am_J226 7 [some (.ref 1012), some (.int (nI c)), some (.int 0), some (.int 3), some (.int (nI c).toInt8.toInt32), some (.int (i + 1))] [] w o := by
    intro i b o hi hb
    by_cases c : b = (nI c).toInt8.toInt32
    · rw [if_pos c]
      simp only [am_s226_7, am_s226_9, am_s226_10, am_s226_13, am_s226_14, am_s226_16, am_s226_17, am_s226_19, am_s226_22, am_s226_24, am_s226_25, hi, hb, c, eq_self, am_os_some, Option.toList_some, Option.toList_none, List.cons_append, List.nil_append, if_true, if_false, true_and, am_nw1_i, am_nw1_r, am_nw1_n, cond_true]
    · rw [if_neg c]
      refine Eq.trans ?_ am_s226_28
      simp only [am_s226_7, am_s226_9, am_s226_10, am_s226_13, am_s226_14, am_s226_16, am_s226_17, am_s226_19, am_s226_22, am_s226_24, am_s226_25, hi, hb, c, eq_self, am_os_some, Option.toList_some, Option.toList_none, List.cons_append, List.nil_append, if_true, if_false, true_and, am_nw1_i, am_nw1_r, am_nw1_n, cond_true]
  refine am_CD_of (M := am_N226) rfl rfl ?_
  show am_Rn _ _ ((Option.some FieldType.int)) am_J226 0 [some (.ref 1012), some (.int (nI c)), some (.int 0), some (.int 3), none, none] [] w _
  simp only [am_s226_0, am_s226_1, am_s226_2, am_s226_4, am_s226_5, eq_self, am_os_some, Option.toList_some, Option.toList_none, List.cons_append, List.nil_append, if_true, if_false, true_and, am_nw1_i, am_nw1_r, am_nw1_n, cond_true]
  rw [hstep 0 119 _ (by decide) am_sb1002_0, hstep (0 + 1) 111 _ (by decide) am_sb1002_1, hstep (0 + 1 + 1) 109 _ (by decide) am_sb1002_2]
  simp only [h0, h1, h2]
  by_cases c0 : c = 119
  · rw [if_pos c0]
    exact ⟨trivial, by rw [c0]; rfl⟩
  · rw [if_neg c0]
    by_cases c1 : c = 111
    · rw [if_pos c1]
      exact ⟨trivial, by rw [c1]; rfl⟩
    · rw [if_neg c1]
      by_cases c2 : c = 109
      · rw [if_pos c2]
        exact ⟨trivial, by rw [c2]; rfl⟩
      · rw [if_neg c2]
        have ex : am_ixq 1 c = -1 := by
          unfold am_ixq am_nam
          simp [c0, c1, c2]
        have e4 : ¬ (0 : Int32) + 1 + 1 + 1 < 3 := by decide
        rw [ex]
        simp only [am_s226_7, am_s226_9, am_s226_10, am_s226_31, am_s226_32, e4, eq_self, am_os_some, Option.toList_some, Option.toList_none, List.cons_append, List.nil_append, if_true, if_false, true_and, am_nw1_i, am_nw1_r, am_nw1_n, cond_true]
theorem am_m222_1002 {w : am_M} : am_CD X (D + 1) 222 [.ref 1002] w = some (some (.int 0), w) := by
  have e10 : ((1 : Int32) = 0) = False := by decide
  refine am_CD_of (M := am_N222) rfl rfl ?_
  show am_Rn _ _ ((Option.some FieldType.byte)) am_J222 0 [some (.ref 1002)] [] w _
  simp only [am_s222_0, am_s222_3, am_s222_6, am_s222_7, am_s222_10, am_s222_13, am_s222_14, am_sv1002_0, e10, eq_self, am_os_some, Option.toList_some, Option.toList_none, List.cons_append, List.nil_append, if_true, if_false, true_and, am_nw1_i, am_nw1_r, am_nw1_n, cond_true]
theorem am_m223_1002 {w : am_M} : am_CD X (D + 1) 223 [.ref 1002] w = some (some (.int 1), w) := by
  have e10 : ((1 : Int32) = 0) = False := by decide
  refine am_CD_of (M := am_N223) rfl rfl ?_
  show am_Rn _ _ ((Option.some FieldType.boolean)) am_J223 0 [some (.ref 1002)] [] w _
  simp only [am_s223_0, am_s223_3, am_s223_6, am_s223_7, am_s223_10, am_s223_13, am_s223_14, am_s223_17, am_s223_18, am_sv1002_0, e10, or_true, eq_self, am_os_some, Option.toList_some, Option.toList_none, List.cons_append, List.nil_append, if_true, if_false, true_and, am_nw1_i, am_nw1_r, am_nw1_n, cond_true]
theorem am_m219_1002 : am_CD X (D + 2) 219 [.ref 1002] (am_L0 s, G) = some (some (.int 3), (am_L0 s, G)) := by
  have e : Int32.ofNat 3 >>> ((0 : Int32) &&& 31) = 3 := by decide +kernel
  refine am_CD_of (M := am_N219) rfl rfl ?_
  show am_Rn _ _ ((Option.some FieldType.int)) am_J219 0 [some (.ref 1002)] [] (am_L0 s, G) _
  simp only [am_s219_0, am_s219_1, am_s219_4, am_s219_5, am_s219_6, am_s219_9, am_s219_10, am_sv1002_1, am_sl1002, am_calS_ok (am_cat_1 _) (show am_srv [.ref 1002] = true from rfl) (am_m222_1002 (X := X) (D := D) (w := (am_L0 s, G))), eq_self, am_os_some, Option.toList_some, Option.toList_none, List.cons_append, List.nil_append, if_true, if_false, true_and, am_nw1_i, am_nw1_r, am_nw1_n, cond_true]
  exact congrArg (fun z => (some (Value.int z), (am_L0 s, G))) e.symm
theorem am_m225_1002 {c : Nat} (hc : c < 256) : am_CD X (D + 2) 225 [.ref 1012, .int (nI c), .int 0, .int 3] (am_L0 s, G) = some (some (.int (am_ixq 1 c)), (am_L0 s, G)) := by
  have h1 : ¬ nI c < 0 := nI_pos (by omega)
  have h2 : nI c ≤ 255 := nI_le (show c ≤ 255 by omega) (by decide)
  have g1 : am_CD X (D + 1) 224 [.int (nI c)] (am_L0 s, G) = some (some (.int 1), (am_L0 s, G)) := by
    refine am_CD_of (M := am_N224) rfl rfl ?_
    show am_Rn _ _ ((Option.some FieldType.boolean)) am_J224 0 [some (.int (nI c))] [] (am_L0 s, G) _
    simp only [am_s224_0, am_s224_1, am_s224_4, am_s224_5, am_s224_8, am_s224_11, am_s224_12, am_s224_15, am_s224_16, h1, h2, or_true, eq_self, am_os_some, Option.toList_some, Option.toList_none, List.cons_append, List.nil_append, if_true, if_false, true_and, am_nw1_i, am_nw1_r, am_nw1_n, cond_true]
  have e10 : ((1 : Int32) = 0) = False := by decide
  have e3 : (if (3 : Int32) < Int32.ofNat 3 then (3 : Int32) else Int32.ofNat 3) = 3 := by decide +kernel
  have e3' : (if Int32.ofNat 3 < (3 : Int32) then Int32.ofNat 3 else (3 : Int32)) = 3 := by decide +kernel
  have e0 : ((0 : Int32) < 0) = False := by decide
  have e03 : ((0 : Int32) < 3) = True := by decide
  refine am_CD_of (M := am_N225) rfl rfl ?_
  show am_Rn _ _ ((Option.some FieldType.int)) am_J225 0 [some (.ref 1012), some (.int (nI c)), some (.int 0), some (.int 3)] [] (am_L0 s, G) _
  simp only [am_s225_0, am_s225_1, am_s225_4, am_s225_7, am_s225_8, am_s225_9, am_s225_10, am_s225_11, am_s225_14, am_s225_15, am_s225_16, am_s225_17, am_s225_18, am_s225_21, am_s225_22, am_s225_23, am_s225_24, am_s225_27, am_s225_28, am_s225_29, am_s225_30, am_s225_31, am_s225_32, am_s225_33, am_s225_36, am_cal_ok am_cat_0 am_rcv_f (g1), e10, am_sl1002, e3, e3', e0, e03, am_cat_0, am_cat_1, ite_self, am_cal_ok am_cat_0 am_rcv_f (am_m226_1002 (D := D) hc), eq_self, am_os_some, Option.toList_some, Option.toList_none, List.cons_append, List.nil_append, if_true, if_false, true_and, am_nw1_i, am_nw1_r, am_nw1_n, cond_true]
theorem am_m221_1002 {c : Nat} (hc : c < 256) : am_CD X (D + 3) 221 [.ref 1002, .int (nI c), .int 0] (am_L0 s, G) = some (some (.int (am_ixq 1 c)), (am_L0 s, G)) := by
  have e10 : ((1 : Int32) = 0) = False := by decide
  refine am_CD_of (M := am_N221) rfl rfl ?_
  show am_Rn _ _ ((Option.some FieldType.int)) am_J221 0 [some (.ref 1002), some (.int (nI c)), some (.int 0)] [] (am_L0 s, G) _
  simp only [am_s221_0, am_s221_1, am_s221_4, am_s221_7, am_s221_8, am_s221_11, am_s221_12, am_s221_13, am_s221_14, am_s221_17, am_s221_20, am_s221_23, am_s221_24, am_s221_27, am_s221_28, am_s221_29, am_s221_30, am_s221_36, am_calS_ok am_cat_0 (show am_srv [.ref 1002] = true from rfl) (am_m223_1002 (X := X) (D := D + 1) (w := (am_L0 s, G))), e10, am_sv1002_1, am_calS_ok (am_cat_3 _ _ _) (show am_srv [.ref 1002] = true from rfl) (am_m219_1002 (X := X) (D := D) (s := s) (G := G)), am_cal_ok am_cat_0 am_rcv_f (am_m225_1002 (X := X) (D := D) (s := s) (G := G) hc), eq_self, am_os_some, Option.toList_some, Option.toList_none, List.cons_append, List.nil_append, if_true, if_false, true_and, am_nw1_i, am_nw1_r, am_nw1_n, cond_true]
theorem am_m220_1002 {c : Nat} (hc : c < 256) : am_CD X (D + 4) 220 [.ref 1002, .int (nI c)] (am_L0 s, G) = some (some (.int (am_ixq 1 c)), (am_L0 s, G)) := by
  refine am_CD_of (M := am_N220) rfl rfl ?_
  show am_Rn _ _ ((Option.some FieldType.int)) am_J220 0 [some (.ref 1002), some (.int (nI c))] [] (am_L0 s, G) _
  simp only [am_s220_0, am_s220_1, am_s220_2, am_s220_3, am_s220_6, am_calS_ok am_cat_0 (show am_srv [.ref 1002, .int (nI c), .int 0] = true from rfl) (am_m221_1002 (X := X) (D := D) (s := s) (G := G) hc), eq_self, am_os_some, Option.toList_some, Option.toList_none, List.cons_append, List.nil_append, if_true, if_false, true_and, am_nw1_i, am_nw1_r, am_nw1_n, cond_true]
theorem am_m220 {u c : Nat} (hu : u < 2) (hc : c < 256) : am_CD X (D + 4) 220 [.ref (1001 + u), .int (nI c)] (am_L0 s, G) = some (some (.int (am_ixq u c)), (am_L0 s, G)) := by
  match u, hu with
  | 0, _ => exact am_m220_1001 hc
  | 1, _ => exact am_m220_1002 hc
theorem am_srv_q {u : Nat} {as : List Value} (hu : u < 2) : am_srv (.ref (1001 + u) :: as) = true := by
  match u, hu with
  | 0, _ => rfl
  | 1, _ => rfl
end AMSX
