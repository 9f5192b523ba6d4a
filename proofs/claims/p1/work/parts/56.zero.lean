/-! struck(1): no debts at all, so none is struck; by rows -/
def am_Z (G : am_G) : Prop := ∀ i j, i < 8 → j < 8 → G (68 + i) j = 0
section AMZZ
variable {X : am_X} {D q : Nat}
theorem am_rld67 {G : am_G} {i : Nat} (hi : i < 8) : am_rld (am_L0 q, G) 67 (nI i) = some (68 + i) := by
  match i, hi with
  | 0, _ => rfl
  | 1, _ => rfl
  | 2, _ => rfl
  | 3, _ => rfl
  | 4, _ => rfl
  | 5, _ => rfl
  | 6, _ => rfl
  | 7, _ => rfl
theorem am_lz68 {i : Nat} (hi : i < 8) : (am_L0 q)[68 + i]? = some (.inr (.inl 8)) := by
  match i, hi with
  | 0, _ => rfl
  | 1, _ => rfl
  | 2, _ => rfl
  | 3, _ => rfl
  | 4, _ => rfl
  | 5, _ => rfl
  | 6, _ => rfl
  | 7, _ => rfl
theorem am_ald68 {G : am_G} {i j : Nat} (hi : i < 8) (hj : j < 8) : am_ald X (am_L0 q, G) (68 + i) (nI j) = some (G (68 + i) j) := by
  unfold am_ald
  simp only [am_lz68 hi, am_in_nI hj (by decide), cond_true, nI_clamp (show j < 2 ^ 31 by omega)]
theorem am_ast68 {G : am_G} {i j : Nat} {x : Int32} (hi : i < 8) (hj : j < 8) : am_astM (am_L0 q, G) (68 + i) (nI j) x = some (am_L0 q, am_up G (68 + i) j x) := by
  unfold am_astM
  simp only [am_lz68 hi, am_in_nI hj (by decide), cond_true, nI_clamp (show j < 2 ^ 31 by omega)]
theorem am_Z_up {G : am_G} {i j : Nat} (h : am_Z G) : am_Z (am_up G (68 + i) j 0) := by
  intro a b ha hb
  have := h a b ha hb
  simp only [am_up_get]
  split
  · split
    · rfl
    · exact this
  · exact this
theorem am_m7z {G : am_G} (h : am_Z G) {a b : Nat} (ha : a < 8) (hb : b < 8) : ∃ G' : am_G, (∀ i j, i < 68 ∨ 75 < i → G' i j = G i j) ∧ am_Z G' ∧ am_CD X (D + 1) 7 [.ref 66, .int (nI a), .int (nI b)] (am_L0 q, G) = some (some (.int 0), (am_L0 q, G')) := by
  have h1 := am_Z_up (i := a) (j := b) h
  have h2 := am_Z_up (i := b) (j := a) h1
  refine ⟨_, fun i j hx => ?_, h2, ?_⟩
  · simp only [am_up_get]
    rw [if_neg (by omega), if_neg (by omega)]
  · refine am_CD_of (M := am_N7) rfl rfl ?_
    show am_Rn _ _ ((Option.some FieldType.int)) am_J7 0 [some (.ref 66), some (.int (nI a)), some (.int (nI b)), none] [] (am_L0 q, G) _
    have e0 : (0 : Int32) - 0 = 0 := by decide
    simp only [am_s7_0, am_s7_1, am_s7_4, am_s7_5, am_s7_6, am_s7_7, am_s7_8, am_s7_9, am_s7_12, am_s7_13, am_s7_14, am_s7_15, am_s7_16, am_s7_19, am_s7_20, am_s7_21, am_s7_24, am_s7_25, am_s7_26, am_s7_27, am_s7_28, am_s7_29, am_s7_30, am_s7_31, am_s7_32, am_s7_33, am_s7_36, am_s7_37, am_s7_38, am_s7_39, am_s7_40, am_s7_41, am_s7_42, am_s7_43, am_s7_44, am_s7_45, am_s7_48, am_s7_49, am_s7_52, am_s7_53, am_f66_0, am_rld67 ha, am_rld67 hb, am_ald68 ha hb, am_ald68 hb ha, am_ast68 ha hb, am_ast68 hb ha, h a b ha hb, h b a hb ha, am_cat_0, cond_true, ite_self, e0, h1 b a hb ha, am_os_some, Option.toList_some, List.cons_append, List.nil_append, if_true, true_and, am_nw1_i, am_nw1_r, am_nw1_n, Int32.le_refl]
theorem am_m8z {G : am_G} (h : am_Z G) {a b c : Nat} (ha : a < 8) (hb : b < 8) (hc : c < 8) : ∃ G' : am_G, (∀ i j, i < 68 ∨ 75 < i → G' i j = G i j) ∧ am_Z G' ∧ am_CD X (D + 1) 8 [.ref 66, .int (nI a), .int (nI b), .int (nI c)] (am_L0 q, G) = some (some (.int 0), (am_L0 q, G')) := by
  have h1 := am_Z_up (i := a) (j := b) h
  have h2 := am_Z_up (i := b) (j := c) h1
  have h3 := am_Z_up (i := c) (j := a) h2
  refine ⟨_, fun i j hx => ?_, h3, ?_⟩
  · simp only [am_up_get]
    rw [if_neg (by omega), if_neg (by omega), if_neg (by omega)]
  · refine am_CD_of (M := am_N8) rfl rfl ?_
    show am_Rn _ _ ((Option.some FieldType.int)) am_J8 0 [some (.ref 66), some (.int (nI a)), some (.int (nI b)), some (.int (nI c)), none] [] (am_L0 q, G) _
    have e0 : (0 : Int32) - 0 = 0 := by decide
    simp only [am_s8_0, am_s8_1, am_s8_4, am_s8_5, am_s8_6, am_s8_7, am_s8_8, am_s8_9, am_s8_12, am_s8_13, am_s8_14, am_s8_15, am_s8_16, am_s8_17, am_s8_20, am_s8_21, am_s8_22, am_s8_23, am_s8_24, am_s8_27, am_s8_30, am_s8_32, am_s8_33, am_s8_36, am_s8_37, am_s8_38, am_s8_39, am_s8_40, am_s8_41, am_s8_43, am_s8_44, am_s8_45, am_s8_46, am_s8_49, am_s8_50, am_s8_51, am_s8_52, am_s8_53, am_s8_54, am_s8_56, am_s8_57, am_s8_58, am_s8_59, am_s8_62, am_s8_63, am_s8_64, am_s8_65, am_s8_66, am_s8_67, am_s8_69, am_s8_70, am_s8_71, am_s8_73, am_s8_76, am_s8_77, am_s8_80, am_s8_81, am_f66_0, am_rld67 ha, am_rld67 hb, am_rld67 hc, am_ald68 ha hb, am_ald68 hb hc, am_ald68 hc ha, am_ast68 ha hb, am_ast68 hb hc, am_ast68 hc ha, h a b ha hb, h b c hb hc, h c a hc ha, am_cat_0, cond_true, ite_self, e0, h1 b c hb hc, h2 c a hc ha, am_cat_1, am_cat_2, am_os_some, Option.toList_some, List.cons_append, List.nil_append, if_true, true_and, am_nw1_i, am_nw1_r, am_nw1_n, Int32.le_refl]
theorem am_l6b {a : Nat} {z : Option Value} (ha : a < 8) : ∀ (d b : Nat) (G : am_G), b + d = 8 → am_Z G → ∃ G' : am_G, (∀ i j, i < 68 ∨ 75 < i → G' i j = G i j) ∧ am_Z G' ∧ ∀ o, am_Rn X (D + 1) (some .int) am_J6 14 [some (.ref 66), some (.int 0), some (.int (nI a)), some (.int (nI b)), z] [] (am_L0 q, G) o = am_Rn X (D + 1) (some .int) am_J6 35 [some (.ref 66), some (.int 0), some (.int (nI a)), some (.int (nI 8)), z] [] (am_L0 q, G') o := by
  intro d
  induction d with
  | zero =>
    intro b G hb h
    obtain rfl : b = 8 := by omega
    refine ⟨G, fun _ _ _ => rfl, h, fun o => ?_⟩
    have h8 : ¬ nI 8 < 8 := by decide +kernel
    simp only [am_s6_14, am_s6_15, am_s6_17, h8, if_false]
  | succ d ih =>
    intro b G hb h
    have h8 : nI b < 8 := nI_lt (show b < 8 by omega) (by decide)
    have hi : nI b + 1 = nI (b + 1) := nI_add b 1
    have e0 : (0 : Int32) + 0 = 0 := by decide
    obtain ⟨G1, e1, z1, g1⟩ := am_m7z (X := X) (D := D) (q := q) h ha (show b < 8 by omega)
    obtain ⟨G', e2, z2, hh⟩ := ih (b + 1) G1 (by omega) z1
    refine ⟨G', fun i j hx => by rw [e2 i j hx, e1 i j hx], z2, fun o => ?_⟩
    simp only [am_s6_14, am_s6_15, am_s6_17, am_s6_20, am_s6_21, am_s6_22, am_s6_23, am_s6_24, am_s6_27, am_s6_28, am_s6_29, h8, am_cal_ok (am_cat_1 _) am_v66 g1, e0, am_os_some, Option.toList_some, List.cons_append, List.nil_append, if_true, true_and, am_nw1_i, am_nw1_r, am_nw1_n]
    rw [am_s6_32, hi]
    exact hh o
theorem am_l6a {z : Option Value} : ∀ (d a : Nat) (G : am_G) (y : Option Value), a + d = 8 → am_Z G → ∃ (G' : am_G) (y' : Option Value), (∀ i j, i < 68 ∨ 75 < i → G' i j = G i j) ∧ am_Z G' ∧ ∀ o, am_Rn X (D + 1) (some .int) am_J6 4 [some (.ref 66), some (.int 0), some (.int (nI a)), y, z] [] (am_L0 q, G) o = am_Rn X (D + 1) (some .int) am_J6 41 [some (.ref 66), some (.int 0), some (.int (nI 8)), y', z] [] (am_L0 q, G') o := by
  intro d
  induction d with
  | zero =>
    intro a G y ha h
    obtain rfl : a = 8 := by omega
    refine ⟨G, y, fun _ _ _ => rfl, h, fun o => ?_⟩
    have h8 : ¬ nI 8 < 8 := by decide +kernel
    simp only [am_s6_4, am_s6_5, am_s6_7, h8, if_false]
  | succ d ih =>
    intro a G y ha h
    have h8 : nI a < 8 := nI_lt (show a < 8 by omega) (by decide)
    have hi : nI a + 1 = nI (a + 1) := nI_add a 1
    obtain ⟨G1, e1, z1, g1⟩ := am_l6b (X := X) (D := D) (q := q) (z := z) (show a < 8 by omega) (7 - a) (a + 1) G (by omega) h
    obtain ⟨G', y', e2, z2, hh⟩ := ih (a + 1) G1 (some (.int (nI 8))) (by omega) z1
    refine ⟨G', y', fun i j hx => by rw [e2 i j hx, e1 i j hx], z2, fun o => ?_⟩
    simp only [am_s6_4, am_s6_5, am_s6_7, am_s6_10, am_s6_11, am_s6_12, am_s6_13, h8, hi, if_true, true_and, am_nw1_i, am_nw1_r, am_nw1_n]
    rw [g1 o]
    simp only [am_s6_35, am_s6_38, hi, true_and, am_nw1_i, am_nw1_r, am_nw1_n]
    exact hh o
theorem am_l6e {a b : Nat} (ha : a < 8) (hb : b < 8) : ∀ (d c : Nat) (G : am_G), c + d = 8 → am_Z G → ∃ G' : am_G, (∀ i j, i < 68 ∨ 75 < i → G' i j = G i j) ∧ am_Z G' ∧ ∀ o, am_Rn X (D + 1) (some .int) am_J6 64 [some (.ref 66), some (.int 0), some (.int (nI a)), some (.int (nI b)), some (.int (nI c))] [] (am_L0 q, G) o = am_Rn X (D + 1) (some .int) am_J6 94 [some (.ref 66), some (.int 0), some (.int (nI a)), some (.int (nI b)), some (.int (nI 8))] [] (am_L0 q, G') o := by
  intro d
  induction d with
  | zero =>
    intro c G hc h
    obtain rfl : c = 8 := by omega
    refine ⟨G, fun _ _ _ => rfl, h, fun o => ?_⟩
    have h8 : ¬ nI 8 < 8 := by decide +kernel
    simp only [am_s6_64, am_s6_66, am_s6_68, h8, if_false]
  | succ d ih =>
    intro c G hc h
    have h8 : nI c < 8 := nI_lt (show c < 8 by omega) (by decide)
    have hi : nI c + 1 = nI (c + 1) := nI_add c 1
    have e0 : (0 : Int32) + 0 = 0 := by decide
    by_cases hcb : c = b
    · subst hcb
      obtain ⟨G', e2, z2, hh⟩ := ih (c + 1) G (by omega) h
      refine ⟨G', e2, z2, fun o => ?_⟩
      simp only [am_s6_64, am_s6_66, am_s6_68, am_s6_71, am_s6_73, am_s6_74, am_s6_88, h8, if_true, true_and, am_nw1_i, am_nw1_r, am_nw1_n]
      rw [am_s6_91, hi]
      exact hh o
    · obtain ⟨G1, e1, z1, g1⟩ := am_m8z (X := X) (D := D) (q := q) h ha hb (show c < 8 by omega)
      obtain ⟨G', e2, z2, hh⟩ := ih (c + 1) G1 (by omega) z1
      have hne : ¬ nI c = nI b := by rw [nI_eq (by omega) (by omega)]; exact hcb
      refine ⟨G', fun i j hx => by rw [e2 i j hx, e1 i j hx], z2, fun o => ?_⟩
      simp only [am_s6_64, am_s6_66, am_s6_68, am_s6_71, am_s6_73, am_s6_74, am_s6_77, am_s6_78, am_s6_79, am_s6_80, am_s6_81, am_s6_83, am_s6_86, am_s6_87, am_s6_88, h8, hne, am_cal_ok (am_cat_1 _) am_v66 g1, e0, am_os_some, Option.toList_some, List.cons_append, List.nil_append, if_true, if_false, true_and, am_nw1_i, am_nw1_r, am_nw1_n]
      rw [am_s6_91, hi]
      exact hh o
theorem am_l6d {a : Nat} (ha : a < 8) : ∀ (d b : Nat) (G : am_G) (y : Option Value), b + d = 8 → am_Z G → ∃ (G' : am_G) (y' : Option Value), (∀ i j, i < 68 ∨ 75 < i → G' i j = G i j) ∧ am_Z G' ∧ ∀ o, am_Rn X (D + 1) (some .int) am_J6 53 [some (.ref 66), some (.int 0), some (.int (nI a)), some (.int (nI b)), y] [] (am_L0 q, G) o = am_Rn X (D + 1) (some .int) am_J6 100 [some (.ref 66), some (.int 0), some (.int (nI a)), some (.int (nI 8)), y'] [] (am_L0 q, G') o := by
  intro d
  induction d with
  | zero =>
    intro b G y hb h
    obtain rfl : b = 8 := by omega
    refine ⟨G, y, fun _ _ _ => rfl, h, fun o => ?_⟩
    have h8 : ¬ nI 8 < 8 := by decide +kernel
    simp only [am_s6_53, am_s6_54, am_s6_56, h8, if_false]
  | succ d ih =>
    intro b G y hb h
    have h8 : nI b < 8 := nI_lt (show b < 8 by omega) (by decide)
    have hi : nI b + 1 = nI (b + 1) := nI_add b 1
    have hia : nI a + 1 = nI (a + 1) := nI_add a 1
    obtain ⟨G1, e1, z1, g1⟩ := am_l6e (X := X) (D := D) (q := q) ha (show b < 8 by omega) (7 - a) (a + 1) G (by omega) h
    obtain ⟨G', y', e2, z2, hh⟩ := ih (b + 1) G1 (some (.int (nI 8))) (by omega) z1
    refine ⟨G', y', fun i j hx => by rw [e2 i j hx, e1 i j hx], z2, fun o => ?_⟩
    simp only [am_s6_53, am_s6_54, am_s6_56, am_s6_59, am_s6_60, am_s6_61, am_s6_62, h8, hia, if_true, true_and, am_nw1_i, am_nw1_r, am_nw1_n]
    rw [g1 o]
    simp only [am_s6_94, am_s6_97, hi, true_and, am_nw1_i, am_nw1_r, am_nw1_n]
    exact hh o
theorem am_l6c : ∀ (d a : Nat) (G : am_G) (x y : Option Value), a + d = 8 → am_Z G → ∃ (G' : am_G) (x' y' : Option Value), (∀ i j, i < 68 ∨ 75 < i → G' i j = G i j) ∧ am_Z G' ∧ ∀ o, am_Rn X (D + 1) (some .int) am_J6 43 [some (.ref 66), some (.int 0), some (.int (nI a)), x, y] [] (am_L0 q, G) o = am_Rn X (D + 1) (some .int) am_J6 106 [some (.ref 66), some (.int 0), some (.int (nI 8)), x', y'] [] (am_L0 q, G') o := by
  intro d
  induction d with
  | zero =>
    intro a G x y ha h
    obtain rfl : a = 8 := by omega
    refine ⟨G, x, y, fun _ _ _ => rfl, h, fun o => ?_⟩
    have h8 : ¬ nI 8 < 8 := by decide +kernel
    simp only [am_s6_43, am_s6_44, am_s6_46, h8, if_false]
  | succ d ih =>
    intro a G x y ha h
    have h8 : nI a < 8 := nI_lt (show a < 8 by omega) (by decide)
    have hi : nI a + 1 = nI (a + 1) := nI_add a 1
    obtain ⟨G1, y1, e1, z1, g1⟩ := am_l6d (X := X) (D := D) (q := q) (show a < 8 by omega) (7 - a) (a + 1) G y (by omega) h
    obtain ⟨G', x', y', e2, z2, hh⟩ := ih (a + 1) G1 (some (.int (nI 8))) y1 (by omega) z1
    refine ⟨G', x', y', fun i j hx => by rw [e2 i j hx, e1 i j hx], z2, fun o => ?_⟩
    simp only [am_s6_43, am_s6_44, am_s6_46, am_s6_49, am_s6_50, am_s6_51, am_s6_52, h8, hi, if_true, true_and, am_nw1_i, am_nw1_r, am_nw1_n]
    rw [g1 o]
    simp only [am_s6_100, am_s6_103, hi, true_and, am_nw1_i, am_nw1_r, am_nw1_n]
    exact hh o
theorem am_m6z {G : am_G} (h : am_Z G) : ∃ G' : am_G, (∀ i j, i < 68 ∨ 75 < i → G' i j = G i j) ∧ am_Z G' ∧ am_CD X (D + 2) 6 [.ref 66] (am_L0 q, G) = some (some (.int 0), (am_L0 q, G')) := by
  obtain ⟨G1, y1, e1, z1, g1⟩ := am_l6a (X := X) (D := D) (q := q) (z := none) 8 0 G none rfl h
  obtain ⟨G2, x2, y2, e2, z2, g2⟩ := am_l6c (X := X) (D := D) (q := q) 8 0 G1 y1 none rfl z1
  refine ⟨G2, fun i j hx => by rw [e2 i j hx, e1 i j hx], z2, ?_⟩
  refine am_CD_of (M := am_N6) rfl rfl ?_
  show am_Rn _ _ ((Option.some FieldType.int)) am_J6 0 [some (.ref 66), none, none, none, none] [] (am_L0 q, G) _
  simp only [am_s6_0, am_s6_1, am_s6_2, am_s6_3, true_and, am_nw1_i, am_nw1_r, am_nw1_n]
  refine (g1 _).mpr ?_
  simp only [am_s6_41, am_s6_42, true_and, am_nw1_i, am_nw1_r, am_nw1_n]
  refine (g2 _).mpr ?_
  simp only [am_s6_106, am_s6_107, true_and]
theorem am_l4b {a : Nat} (ha : a < 8) {G : am_G} (h : am_Z G) : ∀ (d b : Nat), b + d = 8 → ∀ o, am_Rn X D (some .int) am_J4 12 [some (.ref 66), some (.int 0), some (.int (nI a)), some (.int (nI b))] [] (am_L0 q, G) o = am_Rn X D (some .int) am_J4 35 [some (.ref 66), some (.int 0), some (.int (nI a)), some (.int (nI 8))] [] (am_L0 q, G) o := by
  intro d
  induction d with
  | zero =>
    intro b hb o
    obtain rfl : b = 8 := by omega
    have h8 : ¬ nI 8 < 8 := by decide +kernel
    simp only [am_s4_12, am_s4_13, am_s4_15, h8, if_false]
  | succ d ih =>
    intro b hb o
    have hb8 : b < 8 := by omega
    have h8 : nI b < 8 := nI_lt hb8 (by decide)
    have hi : nI b + 1 = nI (b + 1) := nI_add b 1
    have e0 : (0 : Int32) + 0 = 0 := by decide
    simp only [am_s4_12, am_s4_13, am_s4_15, am_s4_18, am_s4_19, am_s4_20, am_s4_23, am_s4_24, am_s4_25, am_s4_26, am_s4_27, am_s4_28, am_s4_29, h8, am_f66_0, am_rld67 ha, am_ald68 ha hb8, h a b ha hb8, e0, am_os_some, if_true, true_and, am_nw1_i, am_nw1_r, am_nw1_n]
    rw [am_s4_32, hi]
    exact ih (b + 1) (by omega) o
theorem am_l4a {G : am_G} (h : am_Z G) : ∀ (d a : Nat) (y : Option Value), a + d = 8 → ∃ y' : Option Value, ∀ o, am_Rn X D (some .int) am_J4 4 [some (.ref 66), some (.int 0), some (.int (nI a)), y] [] (am_L0 q, G) o = am_Rn X D (some .int) am_J4 41 [some (.ref 66), some (.int 0), some (.int (nI 8)), y'] [] (am_L0 q, G) o := by
  intro d
  induction d with
  | zero =>
    intro a y ha
    obtain rfl : a = 8 := by omega
    refine ⟨y, fun o => ?_⟩
    have h8 : ¬ nI 8 < 8 := by decide +kernel
    simp only [am_s4_4, am_s4_5, am_s4_7, h8, if_false]
  | succ d ih =>
    intro a y ha
    have h8 : nI a < 8 := nI_lt (show a < 8 by omega) (by decide)
    have hi : nI a + 1 = nI (a + 1) := nI_add a 1
    obtain ⟨y', hh⟩ := ih (a + 1) (some (.int (nI 8))) (by omega)
    refine ⟨y', fun o => ?_⟩
    simp only [am_s4_4, am_s4_5, am_s4_7, am_s4_10, am_s4_11, h8, if_true, true_and, am_nw1_i, am_nw1_r, am_nw1_n]
    rw [show ((0 : Int32)) = nI 0 from nI_0.symm]
    rw [show (some (Value.int (nI 0)) : Option Value) = some (.int 0) from by rw [nI_0]]
    have := am_l4b (X := X) (D := D) (q := q) (show a < 8 by omega) h 8 0 rfl o
    rw [nI_0] at this
    rw [this]
    simp only [am_s4_35, am_s4_38, hi, true_and, am_nw1_i, am_nw1_r, am_nw1_n]
    exact hh o
theorem am_m4z {G : am_G} (h : am_Z G) : am_CD X (D + 1) 4 [.ref 66] (am_L0 q, G) = some (some (.int 0), (am_L0 q, G)) := by
  obtain ⟨y', hh⟩ := am_l4a (X := X) (D := D) (q := q) h 8 0 none rfl
  refine am_CD_of (M := am_N4) rfl rfl ?_
  show am_Rn _ _ ((Option.some FieldType.int)) am_J4 0 [some (.ref 66), none, none, none] [] (am_L0 q, G) _
  simp only [am_s4_0, am_s4_1, am_s4_2, am_s4_3, true_and, am_nw1_i, am_nw1_r, am_nw1_n]
  refine (hh _).mpr ?_
  simp only [am_s4_41, am_s4_42, true_and]
end AMZZ
