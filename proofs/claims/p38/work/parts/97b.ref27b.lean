/-! THE REFERENCE: kept -/
section AMRQ8
variable {X : am_X} {D q : Nat} {S : am_S} {T U : am_T}
theorem am_r124 {G : am_G} {k : Nat} (hk : k < 8) : am_ald X (am_L0 q, G) 124 (nI k) = some (G 124 k) := by rw [am_a124, am_in_nI hk (by decide), nI_clamp (by omega)]; rfl
theorem am_w124 {G : am_G} {k : Nat} {v : Int32} (hk : k < 8) : am_astM (am_L0 q, G) 124 (nI k) v = some (am_L0 q, am_up G 124 k v) := by rw [am_t124, am_in_nI hk (by decide), nI_clamp (by omega)]; rfl
theorem am_l192a (h8 : S 13 0 ≤ 8) {p n : Int32} {y4 : Option Value} : ∀ (d k : Nat) (G : am_G), k + d = S 13 0 → am_rp (G 115) S → (∀ j, j < k → G 124 j = nI (S 4 j)) → ∃ G' : am_G, (∀ i j, i ≠ 124 → G' i j = G i j) ∧ (∀ j, j < S 13 0 → G' 124 j = nI (S 4 j)) ∧ ∀ o, am_Rn X 99 (some .int) am_J192 44 [some (.ref 114), some (.int p), some (.int n), some (.int (nI k)), y4] [] (am_L0 q, G) o = am_Rn X 99 (some .int) am_J192 72 [some (.ref 114), some (.int p), some (.int n), some (.int (nI (S 13 0))), y4] [] (am_L0 q, G') o := by
  intro d
  induction d with
  | zero =>
    intro k G hk h hj
    have k2 : G 115 2 = nI (S 13 0) := h.2.1
    obtain rfl : k = S 13 0 := by omega
    have h1 : ¬ nI (S 13 0) < nI (S 13 0) := Int32.lt_irrefl
    refine ⟨G, fun _ _ _ => rfl, hj, fun o => ?_⟩
    simp only [am_s192_44, am_s192_45, am_s192_46, am_s192_49, am_s192_50, am_s192_51, am_f114_0, am_r115_2, k2, h1, eq_self, am_os_some, Option.toList_some, Option.toList_none, List.cons_append, List.nil_append, if_true, if_false, true_and, am_nw1_i, am_nw1_r, am_nw1_n, cond_true]
  | succ d ih =>
    intro k G hk h hj
    have k8 : k < 8 := by omega
    have k2 : G 115 2 = nI (S 13 0) := h.2.1
    have h1 : nI k < nI (S 13 0) := nI_lt (by omega) (by omega)
    have hi : nI k + 1 = nI (k + 1) := nI_add k 1
    have kk := h.2.2.1 k 4 k8 (by decide)
    have f : ∀ i j, i ≠ 124 → am_up G 124 k (nI (S 4 k)) i j = G i j := fun i j hi => by rw [am_up_get, if_neg hi]
    obtain ⟨G', f2, j2, g2⟩ := ih (k + 1) (am_up G 124 k (nI (S 4 k))) (by omega) (by rw [show am_up G 124 k (nI (S 4 k)) 115 = G 115 from funext fun j => f 115 j (by decide)]; exact h) (fun j hjk => by
      rw [am_up_get, if_pos rfl]
      by_cases e : j = k
      · rw [if_pos e, e]
      · rw [if_neg e]; exact hj j (by omega))
    refine ⟨G', fun i j hi => by rw [f2 i j hi, f i j hi], j2, fun o => ?_⟩
    simp only [am_s192_44, am_s192_45, am_s192_46, am_s192_49, am_s192_50, am_s192_51, am_s192_54, am_s192_55, am_s192_58, am_s192_59, am_s192_60, am_s192_61, am_s192_62, am_s192_65, am_s192_66, am_f114_0, am_f114_23, am_r115_2, k2, h1, am_cal_ok (am_cat_2 _ _) am_v114 (am_i130_4 (D := 98) k8), kk, am_w124 k8, eq_self, am_os_some, Option.toList_some, Option.toList_none, List.cons_append, List.nil_append, if_true, if_false, true_and, am_nw1_i, am_nw1_r, am_nw1_n, cond_true]
    rw [am_s192_69, hi]
    exact g2 o
theorem am_l192b (h8 : S 13 0 ≤ 8) {S1 : am_S} (w1 : am_wf S1) (w2 : am_wf S) {p : Nat} {n : Int32} (hp : p < 8) {G : am_G} (h : am_rp (G 115) S) (ht : ∀ j, j < S 13 0 → G 124 j = nI (S1 4 j)) : ∀ (d k : Nat), k + d = S 13 0 → ∀ o, am_Rn X 99 (some .int) am_J192 104 [some (.ref 114), some (.int (nI p)), some (.int n), some (.int (am_kp S1 S p k)), some (.int (nI k))] [] (am_L0 q, G) o = am_Rn X 99 (some .int) am_J192 155 [some (.ref 114), some (.int (nI p)), some (.int n), some (.int (am_kp S1 S p (S 13 0))), some (.int (nI (S 13 0)))] [] (am_L0 q, G) o := by
  have k2 : G 115 2 = nI (S 13 0) := h.2.1
  intro d
  induction d with
  | zero =>
    intro k hk o
    obtain rfl : k = S 13 0 := by omega
    have h1 : ¬ nI (S 13 0) < nI (S 13 0) := Int32.lt_irrefl
    simp only [am_s192_104, am_s192_106, am_s192_107, am_s192_110, am_s192_111, am_s192_112, am_f114_0, am_r115_2, k2, h1, eq_self, am_os_some, Option.toList_some, Option.toList_none, List.cons_append, List.nil_append, if_true, if_false, true_and, am_nw1_i, am_nw1_r, am_nw1_n, cond_true]
  | succ d ih =>
    intro k hk o
    have k8 : k < 8 := by omega
    have h1 : nI k < nI (S 13 0) := nI_lt (by omega) (by omega)
    have hi : nI k + 1 = nI (k + 1) := nI_add k 1
    have kk := h.2.2.1 k 4 k8 (by decide)
    have kt := ht k (by omega)
    have b1 := (w1.2.1 k k8).2.2.2.2
    have b2 := (w2.2.1 k k8).2.2.2.2
    have es : am_kp S1 S p (k + 1) = if k ≠ p ∧ S1 4 k < S 4 k then am_kp S1 S p k ||| (1 <<< (nI k &&& 31)) else am_kp S1 S p k := rfl
    have ih1 := ih (k + 1) (by omega) o
    rw [es] at ih1
    have e0 : am_kp S1 S p k ||| 0 = am_kp S1 S p k := Int32.or_zero
    have ekp : (nI k = nI p) = (k = p) := propext (nI_eq (by omega) (by omega))
    by_cases c1 : k = p
    · rw [if_neg (fun hh => hh.1 c1)] at ih1
      subst c1
      simp only [am_s192_104, am_s192_106, am_s192_107, am_s192_110, am_s192_111, am_s192_112, am_s192_115, am_s192_116, am_s192_118, am_s192_119, am_s192_122, am_s192_123, am_s192_125, am_s192_126, am_s192_129, am_s192_130, am_s192_133, am_s192_135, am_s192_136, am_s192_139, am_s192_140, am_s192_142, am_s192_143, am_s192_146, am_s192_147, am_s192_148, am_s192_149, am_f114_0, am_r115_2, k2, h1, e0, not_true_eq_false, not_false_eq_true, eq_self, am_os_some, Option.toList_some, Option.toList_none, List.cons_append, List.nil_append, if_true, if_false, true_and, am_nw1_i, am_nw1_r, am_nw1_n, cond_true]
      rw [am_s192_152, hi]
      exact ih1
    · by_cases c2 : S1 4 k < S 4 k
      · have j2 : ¬ nI (S 4 k) ≤ nI (S1 4 k) := nI_ge c2 (by omega)
        rw [if_pos ⟨c1, c2⟩] at ih1
        simp only [am_s192_104, am_s192_106, am_s192_107, am_s192_110, am_s192_111, am_s192_112, am_s192_115, am_s192_116, am_s192_118, am_s192_119, am_s192_122, am_s192_123, am_s192_125, am_s192_126, am_s192_129, am_s192_130, am_s192_133, am_s192_135, am_s192_136, am_s192_139, am_s192_140, am_s192_142, am_s192_143, am_s192_146, am_s192_147, am_s192_148, am_s192_149, am_f114_0, am_f114_23, am_r115_2, k2, h1, ekp, c1, am_cal_ok (am_cat_1 _) am_v114 (am_i130_4 (D := 98) k8), kk, am_r124 k8, kt, j2, not_true_eq_false, not_false_eq_true, eq_self, am_os_some, Option.toList_some, Option.toList_none, List.cons_append, List.nil_append, if_true, if_false, true_and, am_nw1_i, am_nw1_r, am_nw1_n, cond_true]
        rw [am_s192_152, hi]
        exact ih1
      · have j2 : nI (S 4 k) ≤ nI (S1 4 k) := nI_le (by omega) (by omega)
        rw [if_neg (fun hh => c2 hh.2)] at ih1
        simp only [am_s192_104, am_s192_106, am_s192_107, am_s192_110, am_s192_111, am_s192_112, am_s192_115, am_s192_116, am_s192_118, am_s192_119, am_s192_122, am_s192_123, am_s192_125, am_s192_126, am_s192_129, am_s192_130, am_s192_133, am_s192_135, am_s192_136, am_s192_139, am_s192_140, am_s192_142, am_s192_143, am_s192_146, am_s192_147, am_s192_148, am_s192_149, am_f114_0, am_f114_23, am_r115_2, k2, h1, ekp, c1, am_cal_ok (am_cat_1 _) am_v114 (am_i130_4 (D := 98) k8), kk, am_r124 k8, kt, j2, e0, not_true_eq_false, not_false_eq_true, eq_self, am_os_some, Option.toList_some, Option.toList_none, List.cons_append, List.nil_append, if_true, if_false, true_and, am_nw1_i, am_nw1_r, am_nw1_n, cond_true]
        rw [am_s192_152, hi]
        exact ih1
theorem am_r192 {a n : Int32} {s : am_St} (hs : am_oks s) : am_rO 192 [.int a, .int n] s (am_O99 a n s) := by
  unfold am_O99
  have h8 := hs.1.1.1
  have hD := hs.1.2.1
  cases h1 : am_ip (s.1.1 13 0) a with
  | false =>
    refine am_rO_err (k := 1) (r := -1000000001) (by decide) am_ec1.symm fun X q G hc => am_CD_of (M := am_N192) rfl rfl ?_
    have hn : G 115 2 = nI (s.1.1 13 0) := hc.1.1.2.1
    show am_Rn _ _ ((Option.some FieldType.int)) am_J192 0 [some (.ref 114), some (.int a), some (.int n), none, none] [] (am_L0 q, G) _
    simp only [am_s192_0, am_s192_1, am_s192_2, am_s192_5, am_s192_8, am_s192_9, am_s192_10, am_s192_12, am_s192_15, am_s192_18, am_s192_19, am_s192_21, am_s192_24, h1, am_cal_ok am_cat_0 am_v114 (am_y132 (D := 97) h8 hn _), am_cal_ok am_cat_0 am_v114 (am_d1 (D := 98)), am_cal_ok am_cat_0 am_v114 (am_d2 (D := 98)), am_cal_ok am_cat_0 am_v114 (am_d3 (D := 98)), am_cal_ok am_cat_0 am_v114 (am_d4 (D := 98)), am_cal_ok am_cat_0 am_v114 (am_d5 (D := 98)), am_cal_ok am_cat_0 am_rcv_f (am_y125 _ _), am_cal_ok am_cat_0 am_rcv_f (am_m183 (D := 97) _), am_bI0, am_f114_0, am_er_f, am_sy_f, Bool.false_and, Bool.and_false, reduceCtorEq, not_false_eq_true, not_true_eq_false, eq_self, am_os_some, Option.toList_some, Option.toList_none, List.cons_append, List.nil_append, if_true, if_false, true_and, am_nw1_i, am_nw1_r, am_nw1_n, cond_true]
  | true =>
    cases h2 : am_wi n 60 with
    | false =>
      rw [if_pos (by decide)]
      refine am_rO_err (k := 1) (r := -1000000001) (by decide) am_ec1.symm fun X q G hc => am_CD_of (M := am_N192) rfl rfl ?_
      have hn : G 115 2 = nI (s.1.1 13 0) := hc.1.1.2.1
      show am_Rn _ _ ((Option.some FieldType.int)) am_J192 0 [some (.ref 114), some (.int a), some (.int n), none, none] [] (am_L0 q, G) _
      simp only [am_s192_0, am_s192_1, am_s192_2, am_s192_5, am_s192_8, am_s192_9, am_s192_10, am_s192_12, am_s192_15, am_s192_18, am_s192_19, am_s192_21, am_s192_24, h1, h2, am_cal_ok am_cat_0 am_v114 (am_y132 (D := 97) h8 hn _), am_cal_ok am_cat_0 am_v114 (am_d1 (D := 98)), am_cal_ok am_cat_0 am_v114 (am_d2 (D := 98)), am_cal_ok am_cat_0 am_v114 (am_d3 (D := 98)), am_cal_ok am_cat_0 am_v114 (am_d4 (D := 98)), am_cal_ok am_cat_0 am_v114 (am_d5 (D := 98)), am_cal_ok am_cat_0 am_rcv_f (am_y125 _ _), am_cal_ok am_cat_0 am_rcv_f (am_m183 (D := 97) _), am_bI0, am_f114_0, am_er_f, am_sy_f, Bool.false_and, Bool.and_false, reduceCtorEq, not_false_eq_true, not_true_eq_false, eq_self, am_os_some, Option.toList_some, Option.toList_none, List.cons_append, List.nil_append, if_true, if_false, true_and, am_nw1_i, am_nw1_r, am_nw1_n, cond_true]
    | true =>
      rw [if_neg (by decide)]
      obtain ⟨a1, a2⟩ := am_ip_nI h8 h1
      obtain ⟨n1, n2⟩ := am_wi_nI (n := 60) (by decide) h2
      generalize a.toNatClampNeg = p at a1 a2
      generalize n.toNatClampNeg = n at n1 n2
      subst a2 n2
      have p8 : p < 8 := by omega
      intro N xs q G hc
      have hn : G 115 2 = nI (s.1.1 13 0) := hc.1.1.2.1
      obtain ⟨G1, x1, b1, g1⟩ := am_m128 (X := am_X0 N xs) (D := 98) (q := q) (G := G) am_is5 am_is7 (by decide)
      have hc1 : am_rfl G1 s := am_rfl_fr hc fun i j _ b _ _ _ _ => x1 i j b
      obtain ⟨G2, f2, c2, g2⟩ := am_m167 (X := am_X0 N xs) (D := 48) (q := q) (n := n) (am_rfl_rc hc1) hs.1.1 (by omega) am_hm1
      have wa := am_wf_days (T := s.1.2.1) (U := s.1.2.2.1) (h := 8) hs.1.1 n
      obtain ⟨G3, f3, t3, g3⟩ := am_l192a (X := am_X0 N xs) (q := q) (p := nI p) (n := nI n) (y4 := none) (S := am_days s.1.2.1 s.1.2.2.1 8 s.1.1 n) (by rw [wa.2.1]; exact h8) _ 0 G2 (Nat.zero_add _) c2.1 (fun j hj => absurd hj (Nat.not_lt_zero j))
      obtain ⟨G4, x4, b4, g4⟩ := am_m128 (X := am_X0 N xs) (D := 98) (q := q) (G := G3) am_is7 am_is5 (by decide)
      obtain ⟨r4, l4⟩ := am_rback2 (G1 := G1) (G2 := G3) (G3 := G4) hc hs x1 b1 (fun i j e b c => by rw [f3 i j c, f2.1 i j (fun e1 => by have := e e1; omega) b]) x4 b4
      generalize hG5 : am_up G4 114 15 (nI p) = G5
      have q5 : ∀ i j, (i = 114 → j ≠ 15) → G5 i j = G4 i j := fun i j h => by
        rw [← hG5, am_up_get]
        split
        · rw [if_neg (h (by assumption))]
        · rfl
      have q515 : G5 114 15 = nI p := by rw [← hG5, am_up_get, if_pos rfl, if_pos rfl]
      have hc5 : am_rc G5 s.1.1 s.1.2.1 s.1.2.2.1 (nI p) := by
        have := am_rfl_rc r4
        have e : G5 115 = G4 115 := funext fun j => q5 115 j (by omega)
        unfold am_rc at this ⊢
        rw [e]
        exact ⟨this.1, this.2.1, this.2.2.1, q515⟩
      obtain ⟨G6, f6, c6, g6⟩ := am_m167 (X := am_X0 N xs) (D := 48) (q := q) (n := n) hc5 hs.1.1 (by omega) (am_hmp p8)
      have wb := am_wf_days (T := s.1.2.1) (U := s.1.2.2.1) (h := p) hs.1.1 n
      generalize hG7 : am_up G6 114 15 (-1) = G7
      have q7 : ∀ i j, (i = 114 → j ≠ 15) → G7 i j = G6 i j := fun i j h => by
        rw [← hG7, am_up_get]
        split
        · rw [if_neg (h (by assumption))]
        · rfl
      have q715 : G7 114 15 = -1 := by rw [← hG7, am_up_get, if_pos rfl, if_pos rfl]
      have p7 : am_rp (G7 115) (am_days s.1.2.1 s.1.2.2.1 p s.1.1 n) := by
        rw [show G7 115 = G6 115 from funext fun j => q7 115 j (by omega)]
        exact c6.1
      have t7 : ∀ j, j < am_days s.1.2.1 s.1.2.2.1 p s.1.1 n 13 0 → G7 124 j = nI (am_days s.1.2.1 s.1.2.2.1 8 s.1.1 n 4 j) := fun j hj => by
        rw [q7 124 j (by omega), f6.1 124 j (by omega) (by decide), q5 124 j (by omega), x4 124 j (by decide)]
        exact t3 j (by rw [wa.2.1]; rw [wb.2.1] at hj; exact hj)
      have gb := fun o => am_l192b (X := am_X0 N xs) (q := q) (p := p) (n := nI n) (S := am_days s.1.2.1 s.1.2.2.1 p s.1.1 n) (by rw [wb.2.1]; exact h8) wa.1 wb.1 p8 p7 t7 _ 0 (Nat.zero_add _) o
      rw [wb.2.1] at gb
      rw [wa.2.1] at g3
      obtain ⟨G8, x8, b8, g8⟩ := am_m128 (X := am_X0 N xs) (D := 98) (q := q) (G := G7) am_is7 am_is5 (by decide)
      have k15 : G4 114 15 = -1 := r4.2.2.2.2.2.1
      have fin : ∀ i j, 114 ≤ i → i ≠ 115 → (i = 114 → j = 4 ∨ j = 5 ∨ j = 15 ∨ j = 25) → G8 i j = G4 i j := fun i j a b e => by
        rw [x8 i j b]
        by_cases c : i = 114 ∧ j = 15
        · rw [c.1, c.2, q715, k15]
        · rw [q7 i j (fun e1 e2 => c ⟨e1, e2⟩), f6.1 i j (fun e1 => by have := e e1; omega) b, q5 i j (fun e1 e2 => c ⟨e1, e2⟩)]
      have low : ∀ i j, i < 114 → G8 i j = G i j := fun i j hi => by
        rw [x8 i j (by omega), q7 i j (by omega), f6.1 i j (by omega) (by omega), q5 i j (by omega), l4 i j hi]
      have r8 : am_rfl G8 s := am_rfl_W (W1 := s.1) r4 (fun i j a b _ _ _ _ e => fin i j a b e) (am_rw8_ext hc.1 hs.1 fun j hj => by
        rw [b8 j hj, q7 117 j (by omega), f6.1 117 j (by omega) (by decide), q5 117 j (by omega), x4 117 j (by decide), f3 117 j (by decide), f2.1 117 j (by omega) (by decide), b1 j hj])
      refine ⟨G8, low, r8, am_CD_of (M := am_N192) rfl rfl ?_⟩
      show am_Rn _ _ ((Option.some FieldType.int)) am_J192 0 [some (.ref 114), some (.int (nI p)), some (.int (nI n)), none, none] [] (am_L0 q, G) _
      simp only [am_s192_0, am_s192_1, am_s192_2, am_s192_5, am_s192_8, am_s192_9, am_s192_10, am_s192_12, am_s192_15, am_s192_18, am_s192_19, am_s192_21, am_s192_24, am_s192_25, am_s192_26, am_s192_27, am_s192_30, am_s192_31, am_s192_34, am_s192_37, am_s192_38, am_s192_39, am_s192_42, am_s192_43, am_cal_ok am_cat_0 am_v114 (am_y132 (D := 97) h8 hn _), h1, h2, am_f114_0, am_f114_2, am_cal_ok am_cat_0 am_v114 (g1), am_cal_ok am_cat_0 am_v114 (g2), am_cal_ok am_cat_0 am_v114 (am_d1 (D := 98)), am_cal_ok am_cat_0 am_v114 (am_d2 (D := 98)), am_cal_ok am_cat_0 am_v114 (am_d3 (D := 98)), am_cal_ok am_cat_0 am_v114 (am_d4 (D := 98)), am_cal_ok am_cat_0 am_v114 (am_d5 (D := 98)), am_cal_ok am_cat_0 am_rcv_f (am_y125 _ _), am_cal_ok am_cat_0 am_rcv_f (am_m183 (D := 97) _), am_bI0, am_f114_0, am_er_f, am_sy_f, Bool.false_and, Bool.and_false, reduceCtorEq, not_false_eq_true, not_true_eq_false, eq_self, am_os_some, Option.toList_some, Option.toList_none, List.cons_append, List.nil_append, if_true, if_false, true_and, am_nw1_i, am_nw1_r, am_nw1_n, cond_true]
      rw [nI_0] at g3
      rw [g3]
      have e0 : am_kp (am_days s.1.2.1 s.1.2.2.1 8 s.1.1 n) (am_days s.1.2.1 s.1.2.2.1 p s.1.1 n) p 0 = 0 := rfl
      rw [e0, nI_0] at gb
      simp only [am_s192_72, am_s192_73, am_s192_74, am_s192_77, am_s192_78, am_s192_81, am_s192_84, am_s192_85, am_s192_86, am_s192_89, am_s192_90, am_s192_91, am_s192_94, am_s192_95, am_s192_96, am_s192_99, am_s192_100, am_s192_101, am_s192_102, am_f114_0, am_f114_2, am_p114_15, am_cal_ok am_cat_0 am_v114 (g4), hG5, am_cal_ok am_cat_0 am_v114 (g6), hG7, am_cal_ok am_cat_0 am_v114 (am_d1 (D := 98)), am_cal_ok am_cat_0 am_v114 (am_d2 (D := 98)), am_cal_ok am_cat_0 am_v114 (am_d3 (D := 98)), am_cal_ok am_cat_0 am_v114 (am_d4 (D := 98)), am_cal_ok am_cat_0 am_v114 (am_d5 (D := 98)), am_cal_ok am_cat_0 am_rcv_f (am_y125 _ _), am_cal_ok am_cat_0 am_rcv_f (am_m183 (D := 97) _), am_bI0, am_f114_0, am_er_f, am_sy_f, Bool.false_and, Bool.and_false, reduceCtorEq, not_false_eq_true, not_true_eq_false, eq_self, am_os_some, Option.toList_some, Option.toList_none, List.cons_append, List.nil_append, if_true, if_false, true_and, am_nw1_i, am_nw1_r, am_nw1_n, cond_true]
      refine (gb _).mpr ?_
      simp only [am_s192_155, am_s192_156, am_s192_157, am_s192_160, am_s192_161, am_s192_164, am_s192_167, am_s192_168, am_f114_0, am_f114_2, am_cal_ok am_cat_0 am_v114 (g8), am_cal_ok am_cat_0 am_v114 (am_d1 (D := 98)), am_cal_ok am_cat_0 am_v114 (am_d2 (D := 98)), am_cal_ok am_cat_0 am_v114 (am_d3 (D := 98)), am_cal_ok am_cat_0 am_v114 (am_d4 (D := 98)), am_cal_ok am_cat_0 am_v114 (am_d5 (D := 98)), am_cal_ok am_cat_0 am_rcv_f (am_y125 _ _), am_cal_ok am_cat_0 am_rcv_f (am_m183 (D := 97) _), am_bI0, am_f114_0, am_er_f, am_sy_f, Bool.false_and, Bool.and_false, reduceCtorEq, not_false_eq_true, not_true_eq_false, eq_self, am_os_some, Option.toList_some, Option.toList_none, List.cons_append, List.nil_append, if_true, if_false, true_and, am_nw1_i, am_nw1_r, am_nw1_n, cond_true]
end AMRQ8
