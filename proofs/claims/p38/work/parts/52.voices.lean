/-! VOICES; the class. A voice's value, and the BODIES that it comes to -/
def am_vl (f : Nat) (x n : Int32) : Int32 × List Int32 := if f = 1 then ((x + n) * 3, [20, 10]) else if f = 4 then ((x + n) * 3, [20, 10]) else (x + n, [10])
def am_vdn (f : Nat) (x n m : Int32) : Int32 × List Int32 := if f = 6 then (-(x - m) ^^^ n, [70, 40, 12]) else if f = 3 then (-(x - m), [40, 12]) else (x - m, [12])
def am_vo (k : Nat) (x n : Int32) : Int32 × List Int32 := ((am_vl k x n).1 * 2, 11 :: (am_vl k x n).2)
def am_vp (k : Nat) (x n m : Int32) : Int32 × List Int32 := ((am_vo k x n).1 - (am_vdn k 1 n m).1, 30 :: ((am_vo k x n).2 ++ (am_vdn k 1 n m).2))
def am_vf (k f : Nat) (x n m : Int32) : Int32 × List Int32 := if f = 5 then ((am_vp k (x + 1) n m).1, 60 :: (am_vp k (x + 1) n m).2) else if f = 2 then am_vp k x n m else am_vo k x n
def am_vb (k : Nat) (x n m : Int32) : Int32 × List Int32 := ((am_vf k k x n m).1 ^^^ (am_vdn k x n m).1, 13 :: ((am_vf k k x n m).2 ++ (am_vdn k x n m).2))
def am_vt (k f : Nat) (x n m : Int32) : Int32 × List Int32 := if f = 6 then ((am_vf k k x n m).1 - (am_vb k x n m).1, 71 :: ((am_vf k k x n m).2 ++ (am_vb k x n m).2)) else if f = 4 then ((am_vb k x n m).1 - (am_vl k 2 n).1, 50 :: ((am_vb k x n m).2 ++ (am_vl k 2 n).2)) else am_vb k x n m
theorem am_vl_len (f : Nat) (x n : Int32) : (am_vl f x n).2.length ≤ 2 := by
  unfold am_vl
  repeat' split
  all_goals simp
theorem am_vd_len (f : Nat) (x n m : Int32) : (am_vdn f x n m).2.length ≤ 3 := by
  unfold am_vdn
  repeat' split
  all_goals simp
theorem am_vo_len (k : Nat) (x n : Int32) : (am_vo k x n).2.length ≤ 3 := by
  have := am_vl_len k x n
  simp only [am_vo, List.length_cons]
  omega
theorem am_vp_len (k : Nat) (x n m : Int32) : (am_vp k x n m).2.length ≤ 7 := by
  have := am_vo_len k x n
  have := am_vd_len k 1 n m
  simp only [am_vp, List.length_cons, List.length_append]
  omega
theorem am_vf_len (k f : Nat) (x n m : Int32) : (am_vf k f x n m).2.length ≤ 8 := by
  have h1 := am_vp_len k (x + 1) n m
  have h2 := am_vp_len k x n m
  have h3 := am_vo_len k x n
  unfold am_vf
  split
  · simp only [List.length_cons]; omega
  · split <;> omega
theorem am_vb_len (k : Nat) (x n m : Int32) : (am_vb k x n m).2.length ≤ 12 := by
  have := am_vf_len k k x n m
  have := am_vd_len k x n m
  simp only [am_vb, List.length_cons, List.length_append]
  omega
/-- what a voice keeps beside THE TRACE -/
def am_vk (G : am_G) (k : Nat) (n m : Int32) : Prop := G 101 1 = nI k ∧ G 101 2 = m ∧ G 101 3 = n
def am_frv (G G' : am_G) : Prop := ∀ i j, i ≠ 102 → i ≠ 103 → G' i j = G i j
theorem am_frv.tr {G G1 G2 : am_G} (h1 : am_frv G G1) (h2 : am_frv G1 G2) : am_frv G G2 := fun i j a b => by rw [h2 i j a b, h1 i j a b]
theorem am_vk.fr {G G' : am_G} {k : Nat} {n m : Int32} (h : am_vk G k n m) (hf : am_frv G G') : am_vk G' k n m := ⟨(hf 101 1 (by decide) (by decide)).trans h.1, (hf 101 2 (by decide) (by decide)).trans h.2.1, (hf 101 3 (by decide) (by decide)).trans h.2.2⟩
section AMVO
variable {X : am_X} {D q k : Nat} {n m : Int32}
theorem am_102 : am_isw 102 40 := Or.inr (Or.inr (Or.inr (Or.inr (Or.inr ⟨rfl, rfl⟩))))
theorem am_tr1 {G : am_G} {L : List Int32} (hL : am_crw G 102 L) (hn : L.length < 40) (v : Int32) : ∃ G' : am_G, am_frv G G' ∧ am_crw G' 102 (L ++ [v]) ∧ am_CD X (D + 1) 49 [.ref 102, .int v] (am_L0 q, G) = some (none, (am_L0 q, G')) := am_m49 am_102 hL hn v
theorem am_m70o {G : am_G} {L : List Int32} {f : Nat} (hf : f ≤ 6) (h1 : f ≠ 1) (h4 : f ≠ 4) (hk : am_vk G k n m) (hL : am_crw G 102 L) (hn : L.length + 1 ≤ 40) (x : Int32) : ∃ G' : am_G, am_frv G G' ∧ am_crw G' 102 (L ++ [10]) ∧ am_CD X (D + 2) 70 [.ref 101, .int (nI f), .int x] (am_L0 q, G) = some (some (.int (x + n)), (am_L0 q, G')) := by
  obtain ⟨G1, f1, c1, g1⟩ := am_tr1 (X := X) (D := D) (q := q) hL (by omega) 10
  have e : am_lsw 1 (45) #[(1, 27), (4, 27)] (nI f) = some 46 := by
    have : ∀ f : Fin 7, f.1 ≠ 1 → f.1 ≠ 4 → am_lsw 1 (45) #[(1, 27), (4, 27)] (nI f.1) = some 46 := by decide +kernel
    exact this ⟨f, by omega⟩ h1 h4
  have hn1 := (hk.fr f1).2.2
  refine ⟨G1, f1, c1, ?_⟩
  refine am_CD_of (M := am_N70) rfl rfl ?_
  show am_Rn _ _ ((Option.some FieldType.int)) am_J70 0 [some (.ref 101), some (.int (nI f)), some (.int x)] [] (am_L0 q, G) _
  simp only [am_s70_0, am_s70_1, am_s70_46, am_s70_47, am_s70_50, am_s70_52, am_s70_55, am_s70_56, am_s70_57, am_s70_60, am_s70_61, e, am_f101_0, am_f101_3, am_cal_ok am_cat_0 am_v102 (g1), hn1, eq_self, am_os_some, Option.toList_some, Option.toList_none, List.cons_append, List.nil_append, if_true, if_false, true_and, am_nw1_i, am_nw1_r, am_nw1_n, cond_true]
theorem am_m70 {G : am_G} {L : List Int32} {f : Nat} (hf : f ≤ 6) (hk : am_vk G k n m) (hL : am_crw G 102 L) (hn : L.length + 2 ≤ 40) (x : Int32) : ∃ G' : am_G, am_frv G G' ∧ am_crw G' 102 (L ++ (am_vl f x n).2) ∧ am_CD X (D + 3) 70 [.ref 101, .int (nI f), .int x] (am_L0 q, G) = some (some (.int (am_vl f x n).1), (am_L0 q, G')) := by
  by_cases h14 : f = 1 ∨ f = 4
  · have ev : am_vl f x n = ((x + n) * 3, [20, 10]) := by
      unfold am_vl
      rcases h14 with rfl | rfl <;> rfl
    rw [ev]
    obtain ⟨G1, f1, c1, g1⟩ := am_tr1 (X := X) (D := D + 1) (q := q) hL (by omega) 20
    obtain ⟨G2, f2, c2, g2⟩ := am_m70o (X := X) (D := D) (q := q) (f := 0) (by decide) (by decide) (by decide) (hk.fr f1) c1 (by rw [List.length_append]; simp; omega) x
    have g2' : am_CD X (D + 2) 70 [.ref 101, .int 0, .int x] (am_L0 q, G1) = some (some (.int (x + n)), (am_L0 q, G2)) := g2
    have e : am_lsw 1 (45) #[(1, 27), (4, 27)] (nI f) = some 28 := by rcases h14 with rfl | rfl <;> decide +kernel
    rw [List.append_assoc] at c2
    refine ⟨G2, f1.tr f2, c2, ?_⟩
    refine am_CD_of (M := am_N70) rfl rfl ?_
    show am_Rn _ _ ((Option.some FieldType.int)) am_J70 0 [some (.ref 101), some (.int (nI f)), some (.int x)] [] (am_L0 q, G) _
    simp only [am_s70_0, am_s70_1, am_s70_28, am_s70_29, am_s70_32, am_s70_34, am_s70_37, am_s70_38, am_s70_39, am_s70_40, am_s70_43, am_s70_44, am_s70_45, e, am_f101_0, am_cal_ok am_cat_0 am_v102 (g1), am_cal_ok am_cat_0 am_v101 (g2'), eq_self, am_os_some, Option.toList_some, Option.toList_none, List.cons_append, List.nil_append, if_true, if_false, true_and, am_nw1_i, am_nw1_r, am_nw1_n, cond_true]
  · have h1 : f ≠ 1 := fun e => h14 (Or.inl e)
    have h4 : f ≠ 4 := fun e => h14 (Or.inr e)
    have ev : am_vl f x n = (x + n, [10]) := by unfold am_vl; rw [if_neg h1, if_neg h4]
    rw [ev]
    exact am_m70o (X := X) (D := D + 1) (q := q) hf h1 h4 hk hL (by omega) x
theorem am_m72o {G : am_G} {L : List Int32} {f : Nat} (hf : f ≤ 6) (h3 : f ≠ 3) (h6 : f ≠ 6) (hk : am_vk G k n m) (hL : am_crw G 102 L) (hn : L.length + 1 ≤ 40) (x : Int32) : ∃ G' : am_G, am_frv G G' ∧ am_crw G' 102 (L ++ [12]) ∧ am_CD X (D + 2) 72 [.ref 101, .int (nI f), .int x] (am_L0 q, G) = some (some (.int (x - m)), (am_L0 q, G')) := by
  obtain ⟨G1, f1, c1, g1⟩ := am_tr1 (X := X) (D := D) (q := q) hL (by omega) 12
  have e : am_lsw 1 (65) #[(3, 48), (6, 27)] (nI f) = some 66 := by
    have : ∀ f : Fin 7, f.1 ≠ 3 → f.1 ≠ 6 → am_lsw 1 (65) #[(3, 48), (6, 27)] (nI f.1) = some 66 := by decide +kernel
    exact this ⟨f, by omega⟩ h3 h6
  have hn1 := (hk.fr f1).2.1
  refine ⟨G1, f1, c1, ?_⟩
  refine am_CD_of (M := am_N72) rfl rfl ?_
  show am_Rn _ _ ((Option.some FieldType.int)) am_J72 0 [some (.ref 101), some (.int (nI f)), some (.int x)] [] (am_L0 q, G) _
  simp only [am_s72_0, am_s72_1, am_s72_66, am_s72_67, am_s72_70, am_s72_72, am_s72_75, am_s72_76, am_s72_77, am_s72_80, am_s72_81, e, am_f101_0, am_f101_2, am_cal_ok am_cat_0 am_v102 (g1), hn1, eq_self, am_os_some, Option.toList_some, Option.toList_none, List.cons_append, List.nil_append, if_true, if_false, true_and, am_nw1_i, am_nw1_r, am_nw1_n, cond_true]
theorem am_m72s {G : am_G} {L : List Int32} (hk : am_vk G k n m) (hL : am_crw G 102 L) (hn : L.length + 2 ≤ 40) (x : Int32) : ∃ G' : am_G, am_frv G G' ∧ am_crw G' 102 (L ++ [40, 12]) ∧ am_CD X (D + 3) 72 [.ref 101, .int (nI 3), .int x] (am_L0 q, G) = some (some (.int (-(x - m))), (am_L0 q, G')) := by
  obtain ⟨G1, f1, c1, g1⟩ := am_tr1 (X := X) (D := D + 1) (q := q) hL (by omega) 40
  obtain ⟨G2, f2, c2, g2⟩ := am_m72o (X := X) (D := D) (q := q) (f := 0) (by decide) (by decide) (by decide) (hk.fr f1) c1 (by rw [List.length_append]; simp; omega) x
  have g2' : am_CD X (D + 2) 72 [.ref 101, .int 0, .int x] (am_L0 q, G1) = some (some (.int (x - m)), (am_L0 q, G2)) := g2
  have e : am_lsw 1 (65) #[(3, 48), (6, 27)] (nI 3) = some 49 := by decide +kernel
  rw [List.append_assoc] at c2
  refine ⟨G2, f1.tr f2, c2, ?_⟩
  refine am_CD_of (M := am_N72) rfl rfl ?_
  show am_Rn _ _ ((Option.some FieldType.int)) am_J72 0 [some (.ref 101), some (.int (nI 3)), some (.int x)] [] (am_L0 q, G) _
  simp only [am_s72_0, am_s72_1, am_s72_49, am_s72_50, am_s72_53, am_s72_55, am_s72_58, am_s72_59, am_s72_60, am_s72_61, am_s72_64, am_s72_65, e, am_f101_0, am_cal_ok am_cat_0 am_v102 (g1), am_cal_ok am_cat_0 am_v101 (g2'), eq_self, am_os_some, Option.toList_some, Option.toList_none, List.cons_append, List.nil_append, if_true, if_false, true_and, am_nw1_i, am_nw1_r, am_nw1_n, cond_true]
theorem am_m72 {G : am_G} {L : List Int32} {f : Nat} (hf : f ≤ 6) (hk : am_vk G k n m) (hL : am_crw G 102 L) (hn : L.length + 3 ≤ 40) (x : Int32) : ∃ G' : am_G, am_frv G G' ∧ am_crw G' 102 (L ++ (am_vdn f x n m).2) ∧ am_CD X (D + 4) 72 [.ref 101, .int (nI f), .int x] (am_L0 q, G) = some (some (.int (am_vdn f x n m).1), (am_L0 q, G')) := by
  by_cases h6 : f = 6
  · subst h6
    obtain ⟨G1, f1, c1, g1⟩ := am_tr1 (X := X) (D := D + 2) (q := q) hL (by omega) 70
    obtain ⟨G2, f2, c2, g2⟩ := am_m72s (X := X) (D := D) (q := q) (hk.fr f1) c1 (by rw [List.length_append]; simp; omega) x
    have g2' : am_CD X (D + 3) 72 [.ref 101, .int 3, .int x] (am_L0 q, G1) = some (some (.int (-(x - m))), (am_L0 q, G2)) := g2
    have e : am_lsw 1 (65) #[(3, 48), (6, 27)] (nI 6) = some 28 := by decide +kernel
    have hn3 := ((hk.fr f1).fr f2).2.2
    rw [List.append_assoc] at c2
    refine ⟨G2, f1.tr f2, c2, ?_⟩
    refine am_CD_of (M := am_N72) rfl rfl ?_
    show am_Rn _ _ ((Option.some FieldType.int)) am_J72 0 [some (.ref 101), some (.int (nI 6)), some (.int x)] [] (am_L0 q, G) _
    simp only [am_s72_0, am_s72_1, am_s72_28, am_s72_29, am_s72_32, am_s72_34, am_s72_37, am_s72_38, am_s72_39, am_s72_40, am_s72_43, am_s72_44, am_s72_47, am_s72_48, e, am_f101_0, am_f101_3, am_cal_ok am_cat_0 am_v102 (g1), am_cal_ok am_cat_0 am_v101 (g2'), hn3, eq_self, am_os_some, Option.toList_some, Option.toList_none, List.cons_append, List.nil_append, if_true, if_false, true_and, am_nw1_i, am_nw1_r, am_nw1_n, cond_true]
    rfl
  · by_cases h3 : f = 3
    · subst h3
      exact am_m72s (X := X) (D := D + 1) (q := q) hk hL (by omega) x
    · have ev : am_vdn f x n m = (x - m, [12]) := by unfold am_vdn; rw [if_neg h6, if_neg h3]
      rw [ev]
      exact am_m72o (X := X) (D := D + 2) (q := q) hf h3 h6 hk hL (by omega) x
theorem am_m71o {G : am_G} {L : List Int32} {f : Nat} (hf : f ≤ 6) (hk6 : k ≤ 6) (h2 : f ≠ 2) (h5 : f ≠ 5) (hk : am_vk G k n m) (hL : am_crw G 102 L) (hn : L.length + 3 ≤ 40) (x : Int32) : ∃ G' : am_G, am_frv G G' ∧ am_crw G' 102 (L ++ (am_vo k x n).2) ∧ am_CD X (D + 4) 71 [.ref 101, .int (nI f), .int x] (am_L0 q, G) = some (some (.int (am_vo k x n).1), (am_L0 q, G')) := by
  obtain ⟨G1, f1, c1, g1⟩ := am_tr1 (X := X) (D := D + 2) (q := q) hL (by omega) 11
  obtain ⟨G2, f2, c2, g2⟩ := am_m70 (X := X) (D := D) (q := q) hk6 (hk.fr f1) c1 (by rw [List.length_append]; simp; omega) x
  have e : am_lsw 1 (71) #[(2, 45), (5, 27)] (nI f) = some 72 := by
    have : ∀ f : Fin 7, f.1 ≠ 2 → f.1 ≠ 5 → am_lsw 1 (71) #[(2, 45), (5, 27)] (nI f.1) = some 72 := by decide +kernel
    exact this ⟨f, by omega⟩ h2 h5
  have hk1 := (hk.fr f1).1
  rw [List.append_assoc] at c2
  refine ⟨G2, f1.tr f2, c2, ?_⟩
  refine am_CD_of (M := am_N71) rfl rfl ?_
  show am_Rn _ _ ((Option.some FieldType.int)) am_J71 0 [some (.ref 101), some (.int (nI f)), some (.int x)] [] (am_L0 q, G) _
  simp only [am_s71_0, am_s71_1, am_s71_72, am_s71_73, am_s71_76, am_s71_78, am_s71_81, am_s71_82, am_s71_83, am_s71_86, am_s71_87, am_s71_90, am_s71_91, am_s71_92, e, am_f101_0, am_f101_1, am_cal_ok am_cat_0 am_v102 (g1), hk1, am_cal_ok am_cat_0 am_v101 (g2), eq_self, am_os_some, Option.toList_some, Option.toList_none, List.cons_append, List.nil_append, if_true, if_false, true_and, am_nw1_i, am_nw1_r, am_nw1_n, cond_true]
  rfl
theorem am_m71f {G : am_G} {L : List Int32} (hk6 : k ≤ 6) (hk : am_vk G k n m) (hL : am_crw G 102 L) (hn : L.length + 7 ≤ 40) (x : Int32) : ∃ G' : am_G, am_frv G G' ∧ am_crw G' 102 (L ++ (am_vp k x n m).2) ∧ am_CD X (D + 5) 71 [.ref 101, .int (nI 2), .int x] (am_L0 q, G) = some (some (.int (am_vp k x n m).1), (am_L0 q, G')) := by
  have l1 := am_vo_len k x n
  obtain ⟨G1, f1, c1, g1⟩ := am_tr1 (X := X) (D := D + 3) (q := q) hL (by omega) 30
  obtain ⟨G2, f2, c2, g2⟩ := am_m71o (X := X) (D := D) (q := q) (f := 0) (by decide) hk6 (by decide) (by decide) (hk.fr f1) c1 (by rw [List.length_append]; simp; omega) x
  have g2' : am_CD X (D + 4) 71 [.ref 101, .int 0, .int x] (am_L0 q, G1) = some (some (.int (am_vo k x n).1), (am_L0 q, G2)) := g2
  obtain ⟨G3, f3, c3, g3⟩ := am_m72 (X := X) (D := D) (q := q) hk6 ((hk.fr f1).fr f2) c2 (by rw [List.length_append, List.length_append]; simp; omega) 1
  have e : am_lsw 1 (71) #[(2, 45), (5, 27)] (nI 2) = some 46 := by decide +kernel
  have hk1 := ((hk.fr f1).fr f2).1
  rw [List.append_assoc, List.append_assoc] at c3
  refine ⟨G3, (f1.tr f2).tr f3, c3, ?_⟩
  refine am_CD_of (M := am_N71) rfl rfl ?_
  show am_Rn _ _ ((Option.some FieldType.int)) am_J71 0 [some (.ref 101), some (.int (nI 2)), some (.int x)] [] (am_L0 q, G) _
  simp only [am_s71_0, am_s71_1, am_s71_46, am_s71_47, am_s71_50, am_s71_52, am_s71_55, am_s71_56, am_s71_57, am_s71_58, am_s71_61, am_s71_62, am_s71_63, am_s71_66, am_s71_67, am_s71_70, am_s71_71, e, am_f101_0, am_f101_1, am_cal_ok am_cat_0 am_v102 (g1), hk1, am_cal_ok am_cat_0 am_v101 (g2'), am_cal_ok (am_cat_1 _) am_v101 (g3), eq_self, am_os_some, Option.toList_some, Option.toList_none, List.cons_append, List.nil_append, if_true, if_false, true_and, am_nw1_i, am_nw1_r, am_nw1_n, cond_true]
  rfl
theorem am_m71 {G : am_G} {L : List Int32} {f : Nat} (hf : f ≤ 6) (hk6 : k ≤ 6) (hk : am_vk G k n m) (hL : am_crw G 102 L) (hn : L.length + 8 ≤ 40) (x : Int32) : ∃ G' : am_G, am_frv G G' ∧ am_crw G' 102 (L ++ (am_vf k f x n m).2) ∧ am_CD X (D + 6) 71 [.ref 101, .int (nI f), .int x] (am_L0 q, G) = some (some (.int (am_vf k f x n m).1), (am_L0 q, G')) := by
  by_cases h5 : f = 5
  · subst h5
    obtain ⟨G1, f1, c1, g1⟩ := am_tr1 (X := X) (D := D + 4) (q := q) hL (by omega) 60
    obtain ⟨G2, f2, c2, g2⟩ := am_m71f (X := X) (D := D) (q := q) hk6 (hk.fr f1) c1 (by rw [List.length_append]; simp; omega) (x + 1)
    have g2' : am_CD X (D + 5) 71 [.ref 101, .int 2, .int (x + 1)] (am_L0 q, G1) = some (some (.int (am_vp k (x + 1) n m).1), (am_L0 q, G2)) := g2
    have e : am_lsw 1 (71) #[(2, 45), (5, 27)] (nI 5) = some 28 := by decide +kernel
    rw [List.append_assoc] at c2
    refine ⟨G2, f1.tr f2, c2, ?_⟩
    refine am_CD_of (M := am_N71) rfl rfl ?_
    show am_Rn _ _ ((Option.some FieldType.int)) am_J71 0 [some (.ref 101), some (.int (nI 5)), some (.int x)] [] (am_L0 q, G) _
    simp only [am_s71_0, am_s71_1, am_s71_28, am_s71_29, am_s71_32, am_s71_34, am_s71_37, am_s71_38, am_s71_39, am_s71_40, am_s71_41, am_s71_42, am_s71_45, e, am_f101_0, am_cal_ok am_cat_0 am_v102 (g1), am_cal_ok am_cat_0 am_v101 (g2'), eq_self, am_os_some, Option.toList_some, Option.toList_none, List.cons_append, List.nil_append, if_true, if_false, true_and, am_nw1_i, am_nw1_r, am_nw1_n, cond_true]
    rfl
  · by_cases h2 : f = 2
    · subst h2
      exact am_m71f (X := X) (D := D + 1) (q := q) hk6 hk hL (by omega) x
    · have ev : am_vf k f x n m = am_vo k x n := by unfold am_vf; rw [if_neg h5, if_neg h2]
      rw [ev]
      exact am_m71o (X := X) (D := D + 2) (q := q) hf hk6 h2 h5 hk hL (by omega) x
theorem am_m73o {G : am_G} {L : List Int32} {f : Nat} (hf : f ≤ 6) (hk6 : k ≤ 6) (h4 : f ≠ 4) (h6 : f ≠ 6) (hk : am_vk G k n m) (hL : am_crw G 102 L) (hn : L.length + 12 ≤ 40) (x : Int32) : ∃ G' : am_G, am_frv G G' ∧ am_crw G' 102 (L ++ (am_vb k x n m).2) ∧ am_CD X (D + 7) 73 [.ref 101, .int (nI f), .int x] (am_L0 q, G) = some (some (.int (am_vb k x n m).1), (am_L0 q, G')) := by
  have l1 := am_vf_len k k x n m
  obtain ⟨G1, f1, c1, g1⟩ := am_tr1 (X := X) (D := D + 5) (q := q) hL (by omega) 13
  obtain ⟨G2, f2, c2, g2⟩ := am_m71 (X := X) (D := D) (q := q) (f := k) hk6 hk6 (hk.fr f1) c1 (by rw [List.length_append]; simp; omega) x
  obtain ⟨G3, f3, c3, g3⟩ := am_m72 (X := X) (D := D + 2) (q := q) hk6 ((hk.fr f1).fr f2) c2 (by rw [List.length_append, List.length_append]; simp; omega) x
  have e : am_lsw 1 (79) #[(4, 53), (6, 27)] (nI f) = some 80 := by
    have : ∀ f : Fin 7, f.1 ≠ 4 → f.1 ≠ 6 → am_lsw 1 (79) #[(4, 53), (6, 27)] (nI f.1) = some 80 := by decide +kernel
    exact this ⟨f, by omega⟩ h4 h6
  have hk1 := (hk.fr f1).1
  have hk2 := ((hk.fr f1).fr f2).1
  rw [List.append_assoc, List.append_assoc] at c3
  refine ⟨G3, (f1.tr f2).tr f3, c3, ?_⟩
  refine am_CD_of (M := am_N73) rfl rfl ?_
  show am_Rn _ _ ((Option.some FieldType.int)) am_J73 0 [some (.ref 101), some (.int (nI f)), some (.int x)] [] (am_L0 q, G) _
  simp only [am_s73_0, am_s73_1, am_s73_80, am_s73_81, am_s73_84, am_s73_86, am_s73_89, am_s73_90, am_s73_91, am_s73_94, am_s73_95, am_s73_98, am_s73_99, am_s73_100, am_s73_103, am_s73_104, am_s73_107, am_s73_108, e, am_f101_0, am_f101_1, am_cal_ok am_cat_0 am_v102 (g1), hk1, hk2, am_cal_ok am_cat_0 am_v101 (g2), am_cal_ok (am_cat_1 _) am_v101 (g3), eq_self, am_os_some, Option.toList_some, Option.toList_none, List.cons_append, List.nil_append, if_true, if_false, true_and, am_nw1_i, am_nw1_r, am_nw1_n, cond_true]
  rfl
theorem am_m73 {G : am_G} {L : List Int32} {f : Nat} (hf : f ≤ 6) (hk6 : k ≤ 6) (hk : am_vk G k n m) (hL : am_crw G 102 L) (hn : L.length + 21 ≤ 40) (x : Int32) : ∃ G' : am_G, am_frv G G' ∧ am_crw G' 102 (L ++ (am_vt k f x n m).2) ∧ am_CD X (D + 8) 73 [.ref 101, .int (nI f), .int x] (am_L0 q, G) = some (some (.int (am_vt k f x n m).1), (am_L0 q, G')) := by
  have l1 := am_vf_len k k x n m
  have l2 := am_vb_len k x n m
  by_cases h6 : f = 6
  · subst h6
    obtain ⟨G1, f1, c1, g1⟩ := am_tr1 (X := X) (D := D + 6) (q := q) hL (by omega) 71
    obtain ⟨G2, f2, c2, g2⟩ := am_m71 (X := X) (D := D + 1) (q := q) (f := k) hk6 hk6 (hk.fr f1) c1 (by rw [List.length_append]; simp; omega) x
    obtain ⟨G3, f3, c3, g3⟩ := am_m73o (X := X) (D := D) (q := q) (f := 3) (by decide) hk6 (by decide) (by decide) ((hk.fr f1).fr f2) c2 (by rw [List.length_append, List.length_append]; simp; omega) x
    have g3' : am_CD X (D + 7) 73 [.ref 101, .int 3, .int x] (am_L0 q, G2) = some (some (.int (am_vb k x n m).1), (am_L0 q, G3)) := g3
    have e : am_lsw 1 (79) #[(4, 53), (6, 27)] (nI 6) = some 28 := by decide +kernel
    have hk1 := (hk.fr f1).1
    rw [List.append_assoc, List.append_assoc] at c3
    refine ⟨G3, (f1.tr f2).tr f3, c3, ?_⟩
    refine am_CD_of (M := am_N73) rfl rfl ?_
    show am_Rn _ _ ((Option.some FieldType.int)) am_J73 0 [some (.ref 101), some (.int (nI 6)), some (.int x)] [] (am_L0 q, G) _
    simp only [am_s73_0, am_s73_1, am_s73_28, am_s73_29, am_s73_32, am_s73_34, am_s73_37, am_s73_38, am_s73_39, am_s73_42, am_s73_43, am_s73_46, am_s73_47, am_s73_48, am_s73_49, am_s73_52, am_s73_53, e, am_f101_0, am_f101_1, am_cal_ok am_cat_0 am_v102 (g1), hk1, am_cal_ok am_cat_0 am_v101 (g2), am_cal_ok (am_cat_1 _) am_v101 (g3'), eq_self, am_os_some, Option.toList_some, Option.toList_none, List.cons_append, List.nil_append, if_true, if_false, true_and, am_nw1_i, am_nw1_r, am_nw1_n, cond_true]
    rfl
  · by_cases h4 : f = 4
    · subst h4
      obtain ⟨G1, f1, c1, g1⟩ := am_tr1 (X := X) (D := D + 6) (q := q) hL (by omega) 50
      obtain ⟨G2, f2, c2, g2⟩ := am_m73o (X := X) (D := D) (q := q) (f := 1) (by decide) hk6 (by decide) (by decide) (hk.fr f1) c1 (by rw [List.length_append]; simp; omega) x
      have g2' : am_CD X (D + 7) 73 [.ref 101, .int 1, .int x] (am_L0 q, G1) = some (some (.int (am_vb k x n m).1), (am_L0 q, G2)) := g2
      obtain ⟨G3, f3, c3, g3⟩ := am_m70 (X := X) (D := D + 4) (q := q) hk6 ((hk.fr f1).fr f2) c2 (by rw [List.length_append, List.length_append]; simp; omega) 2
      have e : am_lsw 1 (79) #[(4, 53), (6, 27)] (nI 4) = some 54 := by decide +kernel
      have hk1 := ((hk.fr f1).fr f2).1
      rw [List.append_assoc, List.append_assoc] at c3
      refine ⟨G3, (f1.tr f2).tr f3, c3, ?_⟩
      refine am_CD_of (M := am_N73) rfl rfl ?_
      show am_Rn _ _ ((Option.some FieldType.int)) am_J73 0 [some (.ref 101), some (.int (nI 4)), some (.int x)] [] (am_L0 q, G) _
      simp only [am_s73_0, am_s73_1, am_s73_54, am_s73_55, am_s73_58, am_s73_60, am_s73_63, am_s73_64, am_s73_65, am_s73_66, am_s73_69, am_s73_70, am_s73_71, am_s73_74, am_s73_75, am_s73_78, am_s73_79, e, am_f101_0, am_f101_1, am_cal_ok am_cat_0 am_v102 (g1), hk1, am_cal_ok am_cat_0 am_v101 (g2'), am_cal_ok (am_cat_1 _) am_v101 (g3), eq_self, am_os_some, Option.toList_some, Option.toList_none, List.cons_append, List.nil_append, if_true, if_false, true_and, am_nw1_i, am_nw1_r, am_nw1_n, cond_true]
      rfl
    · have ev : am_vt k f x n m = am_vb k x n m := by unfold am_vt; rw [if_neg h6, if_neg h4]
      rw [ev]
      exact am_m73o (X := X) (D := D + 1) (q := q) hf hk6 h4 h6 hk hL (by omega) x
/-- the value and the BODIES of an act -/
def am_vac (k c : Nat) (x n m : Int32) : Int32 × List Int32 := if c = 0 then am_vl k x n else if c = 1 then am_vf k k x n m else if c = 2 then am_vdn k x n m else am_vt k k x n m
end AMVO
