/-! STRIKING: rings as (a, b, 8) and (a, b, c); the class strikes them one behind the other -/
abbrev am_R3 : Type := Nat × Nat × Nat
def am_ls (S : am_S) (x : am_R3) : Nat := if x.2.2 = 8 then min (S (5 + x.1) x.2.1) (S (5 + x.2.1) x.1) else min (S (5 + x.1) x.2.1) (min (S (5 + x.2.1) x.2.2) (S (5 + x.2.2) x.1))
def am_ss (S : am_S) (a b l : Nat) : am_S := am_su S (5 + a) b (S (5 + a) b - l)
def am_sk (S : am_S) (x : am_R3) (l : Nat) : am_S := if x.2.2 = 8 then am_ss (am_ss S x.1 x.2.1 l) x.2.1 x.1 l else am_ss (am_ss (am_ss S x.1 x.2.1 l) x.2.1 x.2.2 l) x.2.2 x.1 l
def am_st1 (S : am_S) (x : am_R3) : am_S := am_sk S x (am_ls S x)
def am_c1 (S : am_S) (x : am_R3) : Nat := if 0 < am_ls S x then 1 else 0
def am_fo : List am_R3 → am_S × Nat → am_S × Nat
  | [], z => z
  | x :: t, z => am_fo t (am_st1 z.1 x, z.2 + am_c1 z.1 x)
theorem am_fo_app : ∀ (l m : List am_R3) (z : am_S × Nat), am_fo (l ++ m) z = am_fo m (am_fo l z)
  | [], _, _ => rfl
  | _ :: t, m, z => am_fo_app t m _
def am_L2b (a : Nat) : Nat → Nat → List am_R3
  | 0, _ => []
  | d + 1, b => (a, b, 8) :: am_L2b a d (b + 1)
def am_L2a : Nat → Nat → List am_R3
  | 0, _ => []
  | d + 1, a => am_L2b a (7 - a) (a + 1) ++ am_L2a d (a + 1)
def am_L3c (a b : Nat) : Nat → Nat → List am_R3
  | 0, _ => []
  | d + 1, c => if c = b then am_L3c a b d (c + 1) else (a, b, c) :: am_L3c a b d (c + 1)
def am_L3b (a : Nat) : Nat → Nat → List am_R3
  | 0, _ => []
  | d + 1, b => am_L3c a b (7 - a) (a + 1) ++ am_L3b a d (b + 1)
def am_L3a : Nat → Nat → List am_R3
  | 0, _ => []
  | d + 1, a => am_L3b a (7 - a) (a + 1) ++ am_L3a d (a + 1)
def am_db (S : am_S) : Prop := ∀ i j, i < 8 → j < 8 → S (5 + i) j ≤ 99
theorem am_ss_db {S : am_S} {a b l : Nat} (h : am_db S) : am_db (am_ss S a b l) := by
  intro i j hi hj
  have := h i j hi hj
  simp only [am_ss, am_su_get]
  split
  · split
    · rename_i e1 e2
      have : a = i := by omega
      subst this
      subst e2
      omega
    · exact this
  · exact this
theorem am_sk_db {S : am_S} {x : am_R3} {l : Nat} (h : am_db S) : am_db (am_sk S x l) := by
  unfold am_sk
  split
  · exact am_ss_db (am_ss_db h)
  · exact am_ss_db (am_ss_db (am_ss_db h))
theorem am_ss_ne {S : am_S} {a b l i j : Nat} (h : ¬ (i = a ∧ j = b)) : am_ss S a b l (5 + i) j = S (5 + i) j := by
  simp only [am_ss, am_su_get]
  by_cases e : i = a
  · rw [if_pos (by omega), if_neg (fun e2 => h ⟨e, e2⟩)]
  · rw [if_neg (by omega)]
section AMSK
variable {X : am_X} {D q A : Nat} {S : am_S}
theorem am_ss_cp {G : am_G} {a b l : Nat} (hS : am_cp A G S) (ha : a < 8) (hb : b < 8) : am_cp A (am_up G (A + 8 + a) b (nI (S (5 + a) b - l))) (am_ss S a b l) := am_cp_upd hS ha hb
theorem am_m7 {G : am_G} (hA : am_ispe A) (hS : am_cp A G S) (hd : am_db S) {a b : Nat} (ha : a < 8) (hb : b < 8) (hab : a ≠ b) : ∃ G' : am_G, (∀ i j, i < A + 8 ∨ A + 16 ≤ i → G' i j = G i j) ∧ am_cp A G' (am_st1 S (a, b, 8)) ∧ am_CD X (D + 1) 7 [.ref (A + 6), .int (nI a), .int (nI b)] (am_L0 q, G) = some (some (.int (nI (am_c1 S (a, b, 8)))), (am_L0 q, G')) := by
  have v1 := hS.2.1 a b ha hb
  have v2 := hS.2.1 b a hb ha
  have d1 := hd a b ha hb
  have d2 := hd b a hb ha
  have hm : (if nI (S (5 + b) a) < nI (S (5 + a) b) then nI (S (5 + b) a) else nI (S (5 + a) b)) = nI (min (S (5 + a) b) (S (5 + b) a)) := am_min (by omega) (by omega)
  have el : am_ls S (a, b, 8) = min (S (5 + a) b) (S (5 + b) a) := rfl
  generalize hl : min (S (5 + a) b) (S (5 + b) a) = l at *
  have l1 : l ≤ S (5 + a) b := by omega
  have l2 : l ≤ S (5 + b) a := by omega
  have s1 : nI (S (5 + a) b) - nI l = nI (S (5 + a) b - l) := am_sub l1
  have c1 := am_ss_cp (l := l) hS ha hb
  have w2 := c1.2.1 b a hb ha
  have ew : am_ss S a b l (5 + b) a = S (5 + b) a := am_ss_ne (fun h => hab h.2)
  rw [ew] at w2
  have s2 : nI (S (5 + b) a) - nI l = nI (S (5 + b) a - l) := am_sub l2
  have c2 := am_ss_cp (l := l) c1 hb ha
  rw [ew] at c2
  have est : am_st1 S (a, b, 8) = am_ss (am_ss S a b l) b a l := by unfold am_st1; rw [el]; rfl
  refine ⟨am_up (am_up G (A + 8 + a) b (nI (S (5 + a) b - l))) (A + 8 + b) a (nI (S (5 + b) a - l)), fun i j hx => ?_, by rw [est]; exact c2, ?_⟩
  · rw [am_up_get, if_neg (by omega), am_up_get, if_neg (by omega)]
  · refine am_CD_of (M := am_N7) rfl rfl ?_
    show am_Rn _ _ ((Option.some FieldType.int)) am_J7 0 [some (.ref (A + 6)), some (.int (nI a)), some (.int (nI b)), none] [] (am_L0 q, G) _
    unfold am_c1
    rw [el]
    by_cases c : 0 < l
    · have e1 : ¬ nI l ≤ 0 := nI_nle c (by omega)
      simp only [am_s7_0, am_s7_1, am_s7_4, am_s7_5, am_s7_6, am_s7_7, am_s7_8, am_s7_9, am_s7_12, am_s7_13, am_s7_14, am_s7_15, am_s7_16, am_s7_19, am_s7_20, am_s7_21, am_s7_24, am_s7_25, am_s7_26, am_s7_27, am_s7_28, am_s7_29, am_s7_30, am_s7_31, am_s7_32, am_s7_33, am_s7_36, am_s7_37, am_s7_38, am_s7_39, am_s7_40, am_s7_41, am_s7_42, am_s7_43, am_s7_44, am_s7_45, am_s7_48, am_s7_49, am_s7_52, am_s7_53, am_fa_d hA, am_ra hA ha, am_ra hA hb, am_ad hA ha hb, am_ad hA hb ha, am_td hA ha hb, am_td hA hb ha, v1, v2, hm, am_cat_0, s1, w2, s2, e1, c, eq_self, am_os_some, Option.toList_some, Option.toList_none, List.cons_append, List.nil_append, if_true, if_false, true_and, am_nw1_i, am_nw1_r, am_nw1_n, cond_true]
      rfl
    · have e1 : nI l ≤ 0 := nI_le (a := l) (b := 0) (by omega) (by decide)
      simp only [am_s7_0, am_s7_1, am_s7_4, am_s7_5, am_s7_6, am_s7_7, am_s7_8, am_s7_9, am_s7_12, am_s7_13, am_s7_14, am_s7_15, am_s7_16, am_s7_19, am_s7_20, am_s7_21, am_s7_24, am_s7_25, am_s7_26, am_s7_27, am_s7_28, am_s7_29, am_s7_30, am_s7_31, am_s7_32, am_s7_33, am_s7_36, am_s7_37, am_s7_38, am_s7_39, am_s7_40, am_s7_41, am_s7_42, am_s7_43, am_s7_44, am_s7_45, am_s7_48, am_s7_49, am_s7_52, am_s7_53, am_fa_d hA, am_ra hA ha, am_ra hA hb, am_ad hA ha hb, am_ad hA hb ha, am_td hA ha hb, am_td hA hb ha, v1, v2, hm, am_cat_0, s1, w2, s2, e1, c, eq_self, am_os_some, Option.toList_some, Option.toList_none, List.cons_append, List.nil_append, if_true, if_false, true_and, am_nw1_i, am_nw1_r, am_nw1_n, cond_true]
      rfl
theorem am_m8 {G : am_G} (hA : am_ispe A) (hS : am_cp A G S) (hd : am_db S) {a b c : Nat} (ha : a < 8) (hb : b < 8) (hc : c < 8) (hab : a ≠ b) (hbc : b ≠ c) (hca : c ≠ a) : ∃ G' : am_G, (∀ i j, i < A + 8 ∨ A + 16 ≤ i → G' i j = G i j) ∧ am_cp A G' (am_st1 S (a, b, c)) ∧ am_CD X (D + 1) 8 [.ref (A + 6), .int (nI a), .int (nI b), .int (nI c)] (am_L0 q, G) = some (some (.int (nI (am_c1 S (a, b, c)))), (am_L0 q, G')) := by
  have v1 := hS.2.1 a b ha hb
  have v2 := hS.2.1 b c hb hc
  have v3 := hS.2.1 c a hc ha
  have d1 := hd a b ha hb
  have d2 := hd b c hb hc
  have d3 := hd c a hc ha
  have hm0 : (if nI (S (5 + c) a) < nI (S (5 + b) c) then nI (S (5 + c) a) else nI (S (5 + b) c)) = nI (min (S (5 + b) c) (S (5 + c) a)) := am_min (by omega) (by omega)
  have hm : (if nI (min (S (5 + b) c) (S (5 + c) a)) < nI (S (5 + a) b) then nI (min (S (5 + b) c) (S (5 + c) a)) else nI (S (5 + a) b)) = nI (min (S (5 + a) b) (min (S (5 + b) c) (S (5 + c) a))) := am_min (by omega) (by omega)
  have el : am_ls S (a, b, c) = min (S (5 + a) b) (min (S (5 + b) c) (S (5 + c) a)) := by
    unfold am_ls
    exact if_neg (show ¬ c = 8 by omega)
  generalize hl : min (S (5 + a) b) (min (S (5 + b) c) (S (5 + c) a)) = l at *
  have l1 : l ≤ S (5 + a) b := by omega
  have l2 : l ≤ S (5 + b) c := by omega
  have l3 : l ≤ S (5 + c) a := by omega
  have s1 : nI (S (5 + a) b) - nI l = nI (S (5 + a) b - l) := am_sub l1
  have s2 : nI (S (5 + b) c) - nI l = nI (S (5 + b) c - l) := am_sub l2
  have s3 : nI (S (5 + c) a) - nI l = nI (S (5 + c) a - l) := am_sub l3
  have c1 := am_ss_cp (l := l) hS ha hb
  have w2 := c1.2.1 b c hb hc
  have ew2 : am_ss S a b l (5 + b) c = S (5 + b) c := am_ss_ne (fun h => hab h.1.symm)
  rw [ew2] at w2
  have c2 := am_ss_cp (l := l) c1 hb hc
  rw [ew2] at c2
  have w3 := c2.2.1 c a hc ha
  have ew3 : am_ss (am_ss S a b l) b c l (5 + c) a = S (5 + c) a := (am_ss_ne (fun h => hbc h.1.symm)).trans (am_ss_ne (fun h => hca h.1))
  rw [ew3] at w3
  have c3 := am_ss_cp (l := l) c2 hc ha
  rw [ew3] at c3
  have est : am_st1 S (a, b, c) = am_ss (am_ss (am_ss S a b l) b c l) c a l := by
    unfold am_st1
    rw [el]
    unfold am_sk
    exact if_neg (show ¬ c = 8 by omega)
  refine ⟨am_up (am_up (am_up G (A + 8 + a) b (nI (S (5 + a) b - l))) (A + 8 + b) c (nI (S (5 + b) c - l))) (A + 8 + c) a (nI (S (5 + c) a - l)), fun i j hx => ?_, by rw [est]; exact c3, ?_⟩
  · rw [am_up_get, if_neg (by omega), am_up_get, if_neg (by omega), am_up_get, if_neg (by omega)]
  · refine am_CD_of (M := am_N8) rfl rfl ?_
    show am_Rn _ _ ((Option.some FieldType.int)) am_J8 0 [some (.ref (A + 6)), some (.int (nI a)), some (.int (nI b)), some (.int (nI c)), none] [] (am_L0 q, G) _
    unfold am_c1
    rw [el]
    by_cases c0 : 0 < l
    · have e1 : ¬ nI l ≤ 0 := nI_nle c0 (by omega)
      simp only [am_s8_0, am_s8_1, am_s8_4, am_s8_5, am_s8_6, am_s8_7, am_s8_8, am_s8_9, am_s8_12, am_s8_13, am_s8_14, am_s8_15, am_s8_16, am_s8_17, am_s8_20, am_s8_21, am_s8_22, am_s8_23, am_s8_24, am_s8_27, am_s8_30, am_s8_32, am_s8_33, am_s8_36, am_s8_37, am_s8_38, am_s8_39, am_s8_40, am_s8_41, am_s8_43, am_s8_44, am_s8_45, am_s8_46, am_s8_49, am_s8_50, am_s8_51, am_s8_52, am_s8_53, am_s8_54, am_s8_56, am_s8_57, am_s8_58, am_s8_59, am_s8_62, am_s8_63, am_s8_64, am_s8_65, am_s8_66, am_s8_67, am_s8_69, am_s8_70, am_s8_71, am_s8_73, am_s8_76, am_s8_77, am_s8_80, am_s8_81, am_fa_d hA, am_ra hA ha, am_ra hA hb, am_ra hA hc, am_ad hA ha hb, am_ad hA hb hc, am_ad hA hc ha, am_td hA ha hb, am_td hA hb hc, am_td hA hc ha, v1, v2, v3, hm0, hm, am_cat_0, am_cat_1, s1, w2, s2, w3, s3, e1, c0, eq_self, am_os_some, Option.toList_some, Option.toList_none, List.cons_append, List.nil_append, if_true, if_false, true_and, am_nw1_i, am_nw1_r, am_nw1_n, cond_true]
      rfl
    · have e1 : nI l ≤ 0 := nI_le (a := l) (b := 0) (by omega) (by decide)
      simp only [am_s8_0, am_s8_1, am_s8_4, am_s8_5, am_s8_6, am_s8_7, am_s8_8, am_s8_9, am_s8_12, am_s8_13, am_s8_14, am_s8_15, am_s8_16, am_s8_17, am_s8_20, am_s8_21, am_s8_22, am_s8_23, am_s8_24, am_s8_27, am_s8_30, am_s8_32, am_s8_33, am_s8_36, am_s8_37, am_s8_38, am_s8_39, am_s8_40, am_s8_41, am_s8_43, am_s8_44, am_s8_45, am_s8_46, am_s8_49, am_s8_50, am_s8_51, am_s8_52, am_s8_53, am_s8_54, am_s8_56, am_s8_57, am_s8_58, am_s8_59, am_s8_62, am_s8_63, am_s8_64, am_s8_65, am_s8_66, am_s8_67, am_s8_69, am_s8_70, am_s8_71, am_s8_73, am_s8_76, am_s8_77, am_s8_80, am_s8_81, am_fa_d hA, am_ra hA ha, am_ra hA hb, am_ra hA hc, am_ad hA ha hb, am_ad hA hb hc, am_ad hA hc ha, am_td hA ha hb, am_td hA hb hc, am_td hA hc ha, v1, v2, v3, hm0, hm, am_cat_0, am_cat_1, s1, w2, s2, w3, s3, e1, c0, eq_self, am_os_some, Option.toList_some, Option.toList_none, List.cons_append, List.nil_append, if_true, if_false, true_and, am_nw1_i, am_nw1_r, am_nw1_n, cond_true]
      rfl
def am_frd (A : Nat) (G G' : am_G) : Prop := ∀ i j, i < A + 8 ∨ A + 16 ≤ i → G' i j = G i j
theorem am_frd.tr {A : Nat} {G G1 G2 : am_G} (h1 : am_frd A G G1) (h2 : am_frd A G1 G2) : am_frd A G G2 := fun i j a => by rw [h2 i j a, h1 i j a]
theorem am_l6x (hA : am_ispe A) {a : Nat} {z : Option Value} (ha : a < 8) : ∀ (d b c : Nat) (S : am_S) (G : am_G), b + d = 8 → a < b → am_cp A G S → am_db S → ∃ G' : am_G, am_frd A G G' ∧ am_cp A G' (am_fo (am_L2b a d b) (S, c)).1 ∧ am_db (am_fo (am_L2b a d b) (S, c)).1 ∧ ∀ o, am_Rn X (D + 1) (some .int) am_J6 14 [some (.ref (A + 6)), some (.int (nI c)), some (.int (nI a)), some (.int (nI b)), z] [] (am_L0 q, G) o = am_Rn X (D + 1) (some .int) am_J6 35 [some (.ref (A + 6)), some (.int (nI (am_fo (am_L2b a d b) (S, c)).2)), some (.int (nI a)), some (.int (nI 8)), z] [] (am_L0 q, G') o := by
  intro d
  induction d with
  | zero =>
    intro b c S G hb _ hS hd
    obtain rfl : b = 8 := by omega
    have h1 : ¬ nI 8 < 8 := by decide +kernel
    refine ⟨G, fun _ _ _ => rfl, hS, hd, fun o => ?_⟩
    simp only [am_s6_14, am_s6_15, am_s6_17, h1, am_L2b, am_fo, eq_self, am_os_some, Option.toList_some, Option.toList_none, List.cons_append, List.nil_append, if_true, if_false, true_and, am_nw1_i, am_nw1_r, am_nw1_n, cond_true]
  | succ d ih =>
    intro b c S G hb hab hS hd
    have hb8 : b < 8 := by omega
    have h1 : nI b < 8 := nI_lt hb8 (by decide)
    have hi : nI b + 1 = nI (b + 1) := nI_add b 1
    obtain ⟨G1, f1, c1, g1⟩ := am_m7 (X := X) (D := D) (q := q) hA hS hd ha hb8 (by omega)
    have hc : nI c + nI (am_c1 S (a, b, 8)) = nI (c + am_c1 S (a, b, 8)) := nI_add _ _
    obtain ⟨G', f2, c2, d2, g2⟩ := ih (b + 1) (c + am_c1 S (a, b, 8)) _ G1 (by omega) (by omega) c1 (am_sk_db hd)
    refine ⟨G', am_frd.tr f1 f2, c2, d2, fun o => ?_⟩
    simp only [am_s6_14, am_s6_15, am_s6_17, am_s6_20, am_s6_21, am_s6_22, am_s6_23, am_s6_24, am_s6_27, am_s6_28, am_s6_29, h1, am_cal_ok (am_cat_1 _) (am_vd hA) g1, hc, eq_self, am_os_some, Option.toList_some, Option.toList_none, List.cons_append, List.nil_append, if_true, if_false, true_and, am_nw1_i, am_nw1_r, am_nw1_n, cond_true]
    rw [am_s6_32, hi]
    exact g2 o
theorem am_l6y (hA : am_ispe A) {z : Option Value} : ∀ (d a c : Nat) (y : Option Value) (S : am_S) (G : am_G), a + d = 8 → am_cp A G S → am_db S → ∃ (G' : am_G) (y' : Option Value), am_frd A G G' ∧ am_cp A G' (am_fo (am_L2a d a) (S, c)).1 ∧ am_db (am_fo (am_L2a d a) (S, c)).1 ∧ ∀ o, am_Rn X (D + 1) (some .int) am_J6 4 [some (.ref (A + 6)), some (.int (nI c)), some (.int (nI a)), y, z] [] (am_L0 q, G) o = am_Rn X (D + 1) (some .int) am_J6 41 [some (.ref (A + 6)), some (.int (nI (am_fo (am_L2a d a) (S, c)).2)), some (.int (nI 8)), y', z] [] (am_L0 q, G') o := by
  intro d
  induction d with
  | zero =>
    intro a c y S G ha hS hd
    obtain rfl : a = 8 := by omega
    have h1 : ¬ nI 8 < 8 := by decide +kernel
    refine ⟨G, y, fun _ _ _ => rfl, hS, hd, fun o => ?_⟩
    simp only [am_s6_4, am_s6_5, am_s6_7, h1, am_L2a, am_fo, eq_self, am_os_some, Option.toList_some, Option.toList_none, List.cons_append, List.nil_append, if_true, if_false, true_and, am_nw1_i, am_nw1_r, am_nw1_n, cond_true]
  | succ d ih =>
    intro a c y S G ha hS hd
    have ha8 : a < 8 := by omega
    have h1 : nI a < 8 := nI_lt ha8 (by decide)
    have hi : nI a + 1 = nI (a + 1) := nI_add a 1
    obtain ⟨G1, f1, c1, d1, g1⟩ := am_l6x (X := X) (D := D) (q := q) (z := z) hA ha8 (7 - a) (a + 1) c S G (by omega) (by omega) hS hd
    obtain ⟨G', y', f2, c2, d2, g2⟩ := ih (a + 1) (am_fo (am_L2b a (7 - a) (a + 1)) (S, c)).2 (some (.int (nI 8))) _ G1 (by omega) c1 d1
    have e : am_fo (am_L2a (d + 1) a) (S, c) = am_fo (am_L2a d (a + 1)) ((am_fo (am_L2b a (7 - a) (a + 1)) (S, c)).1, (am_fo (am_L2b a (7 - a) (a + 1)) (S, c)).2) := by rw [am_L2a, am_fo_app]
    rw [← e] at c2 d2 g2
    refine ⟨G', y', am_frd.tr f1 f2, c2, d2, fun o => ?_⟩
    simp only [am_s6_4, am_s6_5, am_s6_7, am_s6_10, am_s6_11, am_s6_12, am_s6_13, h1, hi, eq_self, am_os_some, Option.toList_some, Option.toList_none, List.cons_append, List.nil_append, if_true, if_false, true_and, am_nw1_i, am_nw1_r, am_nw1_n, cond_true]
    rw [g1 o]
    simp only [am_s6_35, am_s6_38, hi, eq_self, am_os_some, Option.toList_some, Option.toList_none, List.cons_append, List.nil_append, if_true, if_false, true_and, am_nw1_i, am_nw1_r, am_nw1_n, cond_true]
    exact g2 o
theorem am_l6u (hA : am_ispe A) {a b : Nat} (ha : a < 8) (hb : b < 8) (hab : a < b) : ∀ (d c n : Nat) (S : am_S) (G : am_G), c + d = 8 → a < c → am_cp A G S → am_db S → ∃ G' : am_G, am_frd A G G' ∧ am_cp A G' (am_fo (am_L3c a b d c) (S, n)).1 ∧ am_db (am_fo (am_L3c a b d c) (S, n)).1 ∧ ∀ o, am_Rn X (D + 1) (some .int) am_J6 64 [some (.ref (A + 6)), some (.int (nI n)), some (.int (nI a)), some (.int (nI b)), some (.int (nI c))] [] (am_L0 q, G) o = am_Rn X (D + 1) (some .int) am_J6 94 [some (.ref (A + 6)), some (.int (nI (am_fo (am_L3c a b d c) (S, n)).2)), some (.int (nI a)), some (.int (nI b)), some (.int (nI 8))] [] (am_L0 q, G') o := by
  intro d
  induction d with
  | zero =>
    intro c n S G hc _ hS hd
    obtain rfl : c = 8 := by omega
    have h1 : ¬ nI 8 < 8 := by decide +kernel
    refine ⟨G, fun _ _ _ => rfl, hS, hd, fun o => ?_⟩
    simp only [am_s6_64, am_s6_66, am_s6_68, h1, am_L3c, am_fo, eq_self, am_os_some, Option.toList_some, Option.toList_none, List.cons_append, List.nil_append, if_true, if_false, true_and, am_nw1_i, am_nw1_r, am_nw1_n, cond_true]
  | succ d ih =>
    intro c n S G hc hac hS hd
    have hc8 : c < 8 := by omega
    have h1 : nI c < 8 := nI_lt hc8 (by decide)
    have hi : nI c + 1 = nI (c + 1) := nI_add c 1
    unfold am_L3c
    by_cases e : c = b
    · subst e
      rw [if_pos rfl]
      obtain ⟨G', f2, c2, d2, g2⟩ := ih (c + 1) n S G (by omega) (by omega) hS hd
      refine ⟨G', f2, c2, d2, fun o => ?_⟩
      simp only [am_s6_64, am_s6_66, am_s6_68, am_s6_71, am_s6_73, am_s6_74, am_s6_88, h1, eq_self, am_os_some, Option.toList_some, Option.toList_none, List.cons_append, List.nil_append, if_true, if_false, true_and, am_nw1_i, am_nw1_r, am_nw1_n, cond_true]
      rw [am_s6_91, hi]
      exact g2 o
    · rw [if_neg e]
      have hne : ¬ nI c = nI b := by rw [nI_eq (by omega) (by omega)]; exact e
      obtain ⟨G1, f1, c1, g1⟩ := am_m8 (X := X) (D := D) (q := q) hA hS hd ha hb hc8 (by omega) (fun h => e h.symm) (by omega)
      have hn : nI n + nI (am_c1 S (a, b, c)) = nI (n + am_c1 S (a, b, c)) := nI_add _ _
      obtain ⟨G', f2, c2, d2, g2⟩ := ih (c + 1) (n + am_c1 S (a, b, c)) _ G1 (by omega) (by omega) c1 (am_sk_db hd)
      refine ⟨G', am_frd.tr f1 f2, c2, d2, fun o => ?_⟩
      simp only [am_s6_64, am_s6_66, am_s6_68, am_s6_71, am_s6_73, am_s6_74, am_s6_77, am_s6_78, am_s6_79, am_s6_80, am_s6_81, am_s6_83, am_s6_86, am_s6_87, am_s6_88, h1, hne, am_cal_ok (am_cat_1 _) (am_vd hA) g1, hn, eq_self, am_os_some, Option.toList_some, Option.toList_none, List.cons_append, List.nil_append, if_true, if_false, true_and, am_nw1_i, am_nw1_r, am_nw1_n, cond_true]
      rw [am_s6_91, hi]
      exact g2 o
theorem am_l6v (hA : am_ispe A) {a : Nat} (ha : a < 8) : ∀ (d b n : Nat) (y : Option Value) (S : am_S) (G : am_G), b + d = 8 → a < b → am_cp A G S → am_db S → ∃ (G' : am_G) (y' : Option Value), am_frd A G G' ∧ am_cp A G' (am_fo (am_L3b a d b) (S, n)).1 ∧ am_db (am_fo (am_L3b a d b) (S, n)).1 ∧ ∀ o, am_Rn X (D + 1) (some .int) am_J6 53 [some (.ref (A + 6)), some (.int (nI n)), some (.int (nI a)), some (.int (nI b)), y] [] (am_L0 q, G) o = am_Rn X (D + 1) (some .int) am_J6 100 [some (.ref (A + 6)), some (.int (nI (am_fo (am_L3b a d b) (S, n)).2)), some (.int (nI a)), some (.int (nI 8)), y'] [] (am_L0 q, G') o := by
  intro d
  induction d with
  | zero =>
    intro b n y S G hb _ hS hd
    obtain rfl : b = 8 := by omega
    have h1 : ¬ nI 8 < 8 := by decide +kernel
    refine ⟨G, y, fun _ _ _ => rfl, hS, hd, fun o => ?_⟩
    simp only [am_s6_53, am_s6_54, am_s6_56, h1, am_L3b, am_fo, eq_self, am_os_some, Option.toList_some, Option.toList_none, List.cons_append, List.nil_append, if_true, if_false, true_and, am_nw1_i, am_nw1_r, am_nw1_n, cond_true]
  | succ d ih =>
    intro b n y S G hb hab hS hd
    have hb8 : b < 8 := by omega
    have h1 : nI b < 8 := nI_lt hb8 (by decide)
    have hi : nI b + 1 = nI (b + 1) := nI_add b 1
    have hia : nI a + 1 = nI (a + 1) := nI_add a 1
    obtain ⟨G1, f1, c1, d1, g1⟩ := am_l6u (X := X) (D := D) (q := q) hA ha hb8 hab (7 - a) (a + 1) n S G (by omega) (by omega) hS hd
    obtain ⟨G', y', f2, c2, d2, g2⟩ := ih (b + 1) (am_fo (am_L3c a b (7 - a) (a + 1)) (S, n)).2 (some (.int (nI 8))) _ G1 (by omega) (by omega) c1 d1
    have e : am_fo (am_L3b a (d + 1) b) (S, n) = am_fo (am_L3b a d (b + 1)) ((am_fo (am_L3c a b (7 - a) (a + 1)) (S, n)).1, (am_fo (am_L3c a b (7 - a) (a + 1)) (S, n)).2) := by rw [am_L3b, am_fo_app]
    rw [← e] at c2 d2 g2
    refine ⟨G', y', am_frd.tr f1 f2, c2, d2, fun o => ?_⟩
    simp only [am_s6_53, am_s6_54, am_s6_56, am_s6_59, am_s6_60, am_s6_61, am_s6_62, h1, hia, eq_self, am_os_some, Option.toList_some, Option.toList_none, List.cons_append, List.nil_append, if_true, if_false, true_and, am_nw1_i, am_nw1_r, am_nw1_n, cond_true]
    rw [g1 o]
    simp only [am_s6_94, am_s6_97, hi, eq_self, am_os_some, Option.toList_some, Option.toList_none, List.cons_append, List.nil_append, if_true, if_false, true_and, am_nw1_i, am_nw1_r, am_nw1_n, cond_true]
    exact g2 o
theorem am_l6w (hA : am_ispe A) : ∀ (d a n : Nat) (x y : Option Value) (S : am_S) (G : am_G), a + d = 8 → am_cp A G S → am_db S → ∃ (G' : am_G) (x' y' : Option Value), am_frd A G G' ∧ am_cp A G' (am_fo (am_L3a d a) (S, n)).1 ∧ am_db (am_fo (am_L3a d a) (S, n)).1 ∧ ∀ o, am_Rn X (D + 1) (some .int) am_J6 43 [some (.ref (A + 6)), some (.int (nI n)), some (.int (nI a)), x, y] [] (am_L0 q, G) o = am_Rn X (D + 1) (some .int) am_J6 106 [some (.ref (A + 6)), some (.int (nI (am_fo (am_L3a d a) (S, n)).2)), some (.int (nI 8)), x', y'] [] (am_L0 q, G') o := by
  intro d
  induction d with
  | zero =>
    intro a n x y S G ha hS hd
    obtain rfl : a = 8 := by omega
    have h1 : ¬ nI 8 < 8 := by decide +kernel
    refine ⟨G, x, y, fun _ _ _ => rfl, hS, hd, fun o => ?_⟩
    simp only [am_s6_43, am_s6_44, am_s6_46, h1, am_L3a, am_fo, eq_self, am_os_some, Option.toList_some, Option.toList_none, List.cons_append, List.nil_append, if_true, if_false, true_and, am_nw1_i, am_nw1_r, am_nw1_n, cond_true]
  | succ d ih =>
    intro a n x y S G ha hS hd
    have ha8 : a < 8 := by omega
    have h1 : nI a < 8 := nI_lt ha8 (by decide)
    have hi : nI a + 1 = nI (a + 1) := nI_add a 1
    obtain ⟨G1, y1, f1, c1, d1, g1⟩ := am_l6v (X := X) (D := D) (q := q) hA ha8 (7 - a) (a + 1) n y S G (by omega) (by omega) hS hd
    obtain ⟨G', x', y', f2, c2, d2, g2⟩ := ih (a + 1) (am_fo (am_L3b a (7 - a) (a + 1)) (S, n)).2 (some (.int (nI 8))) y1 _ G1 (by omega) c1 d1
    have e : am_fo (am_L3a (d + 1) a) (S, n) = am_fo (am_L3a d (a + 1)) ((am_fo (am_L3b a (7 - a) (a + 1)) (S, n)).1, (am_fo (am_L3b a (7 - a) (a + 1)) (S, n)).2) := by rw [am_L3a, am_fo_app]
    rw [← e] at c2 d2 g2
    refine ⟨G', x', y', am_frd.tr f1 f2, c2, d2, fun o => ?_⟩
    simp only [am_s6_43, am_s6_44, am_s6_46, am_s6_49, am_s6_50, am_s6_51, am_s6_52, h1, hi, eq_self, am_os_some, Option.toList_some, Option.toList_none, List.cons_append, List.nil_append, if_true, if_false, true_and, am_nw1_i, am_nw1_r, am_nw1_n, cond_true]
    rw [g1 o]
    simp only [am_s6_100, am_s6_103, hi, eq_self, am_os_some, Option.toList_some, Option.toList_none, List.cons_append, List.nil_append, if_true, if_false, true_and, am_nw1_i, am_nw1_r, am_nw1_n, cond_true]
    exact g2 o
theorem am_m6 {G : am_G} (hA : am_ispe A) (hS : am_cp A G S) (hd : am_db S) : ∃ G' : am_G, am_frd A G G' ∧ am_cp A G' (am_fo (am_L2a 8 0 ++ am_L3a 8 0) (S, 0)).1 ∧ am_CD X (D + 2) 6 [.ref (A + 6)] (am_L0 q, G) = some (some (.int (nI (am_fo (am_L2a 8 0 ++ am_L3a 8 0) (S, 0)).2)), (am_L0 q, G')) := by
  obtain ⟨G1, y1, f1, c1, d1, g1⟩ := am_l6y (X := X) (D := D) (q := q) (z := none) hA 8 0 0 none S G rfl hS hd
  obtain ⟨G2, x2, y2, f2, c2, d2, g2⟩ := am_l6w (X := X) (D := D) (q := q) hA 8 0 (am_fo (am_L2a 8 0) (S, 0)).2 y1 none _ G1 rfl c1 d1
  rw [am_fo_app]
  refine ⟨G2, am_frd.tr f1 f2, c2, ?_⟩
  refine am_CD_of (M := am_N6) rfl rfl ?_
  show am_Rn _ _ ((Option.some FieldType.int)) am_J6 0 [some (.ref (A + 6)), none, none, none, none] [] (am_L0 q, G) _
  simp only [am_s6_0, am_s6_1, am_s6_2, am_s6_3, eq_self, am_os_some, Option.toList_some, Option.toList_none, List.cons_append, List.nil_append, if_true, if_false, true_and, am_nw1_i, am_nw1_r, am_nw1_n, cond_true]
  refine (g1 _).mpr ?_
  simp only [am_s6_41, am_s6_42, eq_self, am_os_some, Option.toList_some, Option.toList_none, List.cons_append, List.nil_append, if_true, if_false, true_and, am_nw1_i, am_nw1_r, am_nw1_n, cond_true]
  refine (g2 _).mpr ?_
  simp only [am_s6_106, am_s6_107, eq_self, am_os_some, Option.toList_some, Option.toList_none, List.cons_append, List.nil_append, if_true, if_false, true_and, am_nw1_i, am_nw1_r, am_nw1_n, cond_true]
end AMSK
