/-! THE REFERENCE: text -/
theorem am_rx_k {R R' : am_Ro} {u : Nat} {T : am_T} (h : am_rx R u T) (hf : ∀ k, k = 5 + u ∨ (181 + 50 * u ≤ k ∧ k < 231 + 50 * u) → R' k = R k) : am_rx R' u T := by
  rcases h with ⟨h1, h2⟩ | ⟨B, n, h1, h2, h3, h4⟩
  · exact Or.inl ⟨h1, by rw [hf _ (by omega)]; exact h2⟩
  · exact Or.inr ⟨B, n, h1, by rw [hf _ (by omega)]; exact h2, fun j hj => by rw [hf _ (by omega)]; exact h3 j hj, h4⟩
theorem am_rw8_L {R R' : am_Ro} {W : am_We} {u : Nat} {T : am_T} (h : am_rw8 R W) (hm : W.2.2.2.2.1.2 ≤ 20) (hu : u < 2) (hf : ∀ k, k ≠ 3 → k ≠ 5 + u → ¬ (181 + 50 * u ≤ k ∧ k < 231 + 50 * u) → R' k = R k) (h3 : R' 3 = 0) (hT : am_rx R' u T) : am_rw8 R' (W.1, (if u = 0 then T else W.2.1), (if u = 0 then W.2.2.1 else T), (W.2.2.2.1.1, 0), W.2.2.2.2) := by
  obtain ⟨a1, a2, a3, -, ⟨a6, a7⟩, a8⟩ := h
  refine ⟨⟨by rw [hf _ (by decide) (by omega) (by omega)]; exact a1.1, by rw [hf _ (by decide) (by omega) (by omega)]; exact a1.2.1, fun p g hp hg => by rw [hf _ (by omega) (by omega) (by omega)]; exact a1.2.2.1 p g hp hg, fun a b ha hb => by rw [hf _ (by omega) (by omega) (by omega)]; exact a1.2.2.2 a b ha hb⟩, ?_, ?_, ⟨h3, fun j hj => absurd hj (Nat.not_lt_zero j)⟩, ⟨by rw [hf _ (by decide) (by omega) (by omega)]; exact a6, fun j hj => by have hj' : j < W.2.2.2.2.1.2 := hj; rw [hf _ (by omega) (by omega) (by omega)]; exact a7 j hj⟩, by rw [hf _ (by decide) (by omega) (by omega)]; exact a8⟩
  · match u, hu, hT with
    | 0, _, hT => exact hT
    | 1, _, _ => exact am_rx_k a2 fun k hk => hf k (by omega) (by omega) (by omega)
  · match u, hu, hT with
    | 0, _, _ => exact am_rx_k a3 fun k hk => hf k (by omega) (by omega) (by omega)
    | 1, _, hT => exact hT
theorem am_sBL {u : Nat} (hu : u < 2) {s : am_St} {B : Nat → Nat} : am_sB (B, 0) (am_sL u (am_lwo u s) s) = ((s.1.1, s.1.2.1, s.1.2.2.1, (B, 0), s.1.2.2.2.2), s.2) := by
  match u, hu with
  | 0, _ => rfl
  | 1, _ => rfl
theorem am_rdt_t {u : Nat} {B : Nat → Nat} {n : Nat} {T : am_T} (h : am_pr u B n 500 0 0 0 = some (T, n, true)) : am_rdt u B n = (some T, 0) := by
  unfold am_rdt
  rw [h]
  dsimp only
  rw [if_pos rfl]
theorem am_rdt_f {u : Nat} {B : Nat → Nat} {n : Nat} {z : am_T × Nat × Bool} (h : am_pr u B n 500 0 0 0 = some z) (hz : (z.2.2 && decide (z.2.1 = n)) = false) : am_rdt u B n = (none, z.2.1) := by
  unfold am_rdt
  rw [h]
  obtain ⟨T, i, ok⟩ := z
  cases ok with
  | false => rfl
  | true =>
    dsimp only at hz ⊢
    rw [Bool.true_and] at hz
    rw [if_neg (of_decide_eq_false hz)]
section AMRT2
variable {X : am_X} {q : Nat}
theorem am_is8 : am_is4 118 := Or.inr (Or.inr (Or.inr rfl))
theorem am_l159 {u : Nat} (hu : u < 2) {y3 y4 : Option Value} : ∀ (d k : Nat) (G : am_G), k + d = 50 → ∃ G' : am_G, (∀ i x, i ≠ 115 → G' i x = G i x) ∧ (∀ x, G' 115 x = if 181 + 50 * u + k ≤ x ∧ x < 231 + 50 * u then G 115 (111 + (x - (181 + 50 * u))) else G 115 x) ∧ ∀ o, am_Rn X 99 (some .int) am_J159 30 [some (.ref 114), some (.int (nI u)), some (.int (nI k)), y3, y4] [] (am_L0 q, G) o = am_Rn X 99 (some .int) am_J159 66 [some (.ref 114), some (.int (nI u)), some (.int (nI 50)), y3, y4] [] (am_L0 q, G') o := by
  intro d
  induction d with
  | zero =>
    intro k G hk
    obtain rfl : k = 50 := by omega
    have h1 : ¬ nI 50 < 50 := by decide +kernel
    refine ⟨G, fun _ _ _ => rfl, fun x => by rw [if_neg (by omega)], fun o => ?_⟩
    simp only [am_s159_30, am_s159_31, am_s159_33, h1, eq_self, am_os_some, Option.toList_some, Option.toList_none, List.cons_append, List.nil_append, if_true, if_false, true_and, am_nw1_i, am_nw1_r, am_nw1_n, cond_true]
  | succ d ih =>
    intro k G hk
    have h1 : nI k < 50 := nI_lt (b := 50) (by omega) (by decide)
    have hi : nI k + 1 = nI (k + 1) := nI_add k 1
    have s111 : (111 : Int32) + nI k = nI (111 + k) := nI_add 111 _
    obtain ⟨G', f, g, r⟩ := ih (k + 1) (am_up G 115 (181 + 50 * u + k) (G 115 (111 + k))) (by omega)
    refine ⟨G', fun i x hx => by rw [f i x hx, am_up_get, if_neg hx], fun x => ?_, fun o => ?_⟩
    · rw [g x]
      simp only [am_up_get, if_true]
      by_cases c : x = 181 + 50 * u + k
      · rw [if_neg (by omega), if_pos c, if_pos (by omega), c, Nat.add_sub_cancel_left]
      · by_cases c2 : 181 + 50 * u + k ≤ x ∧ x < 231 + 50 * u
        · rw [if_pos (by omega), if_pos c2, if_neg (by omega)]
        · rw [if_neg (by omega), if_neg c, if_neg c2]
    · simp only [am_s159_30, am_s159_31, am_s159_33, am_s159_36, am_s159_37, am_s159_40, am_s159_43, am_s159_45, am_s159_46, am_s159_47, am_s159_48, am_s159_49, am_s159_50, am_s159_51, am_s159_54, am_s159_56, am_s159_57, am_s159_58, am_s159_59, am_s159_60, h1, am_f114_0, am_mul50, am_ad181, nI_add, s111, am_r115 (show 111 + k < 281 by omega), am_w115 (show 181 + 50 * u + k < 281 by omega), eq_self, am_os_some, Option.toList_some, Option.toList_none, List.cons_append, List.nil_append, if_true, if_false, true_and, am_nw1_i, am_nw1_r, am_nw1_n, cond_true]
      rw [am_s159_63, hi]
      exact r o
theorem am_r159 {a : Int32} {s : am_St} (hs : am_oks s) : am_rO 159 [.int a] s (am_O89 a s) := by
  unfold am_O89
  cases h1 : am_wi a 1 with
  | false =>
    rw [if_pos rfl]
    refine am_rO_err (k := 1) (r := -1000000001) (by decide) am_ec1.symm fun X q G hc => am_CD_of (M := am_N159) rfl rfl ?_
    have hn : G 115 2 = nI (s.1.1 13 0) := hc.1.1.2.1
    show am_Rn _ _ ((Option.some FieldType.int)) am_J159 0 [some (.ref 114), some (.int a), none, none, none] [] (am_L0 q, G) _
    simp only [am_s159_0, am_s159_1, am_s159_2, am_s159_3, am_s159_6, am_s159_9, am_s159_10, am_s159_12, am_s159_15, h1, am_cal_ok am_cat_0 am_v114 (am_d1 (D := 98)), am_cal_ok am_cat_0 am_v114 (am_d2 (D := 98)), am_cal_ok am_cat_0 am_v114 (am_d3 (D := 98)), am_cal_ok am_cat_0 am_v114 (am_d4 (D := 98)), am_cal_ok am_cat_0 am_v114 (am_d5 (D := 98)), am_cal_ok am_cat_0 am_rcv_f (am_y125 _ _), am_cal_ok am_cat_0 am_rcv_f (am_m183 (D := 97) _), am_bI0, am_f114_0, am_er_f, am_sy_f, Bool.false_and, Bool.and_false, reduceCtorEq, not_false_eq_true, not_true_eq_false, eq_self, am_os_some, Option.toList_some, Option.toList_none, List.cons_append, List.nil_append, if_true, if_false, true_and, am_nw1_i, am_nw1_r, am_nw1_n, cond_true]
  | true =>
    rw [if_neg (by decide)]
    obtain ⟨a1, a2⟩ := am_wi_nI (n := 1) (by decide) h1
    generalize a.toNatClampNeg = u at a1 a2
    subst a2
    have hu : u < 2 := by omega
    intro N xs q G hc
    have k3 : G 115 3 = nI s.1.2.2.2.1.2 := hc.1.2.2.2.1.1
    have kB := hc.1.2.2.2.1.2
    have hn := hs.1.2.2.2.2.1
    have hb := hs.1.2.2.2.2.2.1
    have hm := hs.1.2.2.2.2.2.2
    generalize hBB : s.1.2.2.2.1.1 = B at *
    generalize hNN : s.1.2.2.2.1.2 = n at *
    obtain ⟨G1, x1, b1, g1⟩ := am_m128 (X := am_X0 N xs) (D := 98) (q := q) (G := G) am_is5 am_is8 (by decide)
    obtain ⟨G2, f2, t2, g2⟩ := am_l159 (X := am_X0 N xs) (q := q) (y3 := none) (y4 := none) hu 50 0 G1 rfl
    have k32 : G2 115 3 = nI n := by rw [t2, if_neg (by omega), x1 115 3 (by decide)]; exact k3
    generalize hG3 : am_up G2 115 (5 + u) (nI n) = G3
    have f3 : ∀ i x, (i = 115 → x ≠ 5 + u) → G3 i x = G2 i x := fun i x h => by
      rw [← hG3, am_up_get]
      split
      · rw [if_neg (h (by assumption))]
      · rfl
    have v3 : G3 115 (5 + u) = nI n := by rw [← hG3, am_up_get, if_pos rfl, if_pos rfl]
    have w3 : ∀ j, j < n → G3 115 (181 + 50 * u + j) = nI (B j) ∧ B j < 256 := fun j hj => by
      rw [f3 115 _ (by omega), t2, if_pos (by omega), x1 115 _ (by decide), show 111 + (181 + 50 * u + j - (181 + 50 * u)) = 111 + j by omega]
      exact ⟨kB j hj, hb j hj⟩
    obtain ⟨z, hz⟩ := Option.isSome_iff_exists.mp (am_pr_tot (u := u) (B := B) (n := n) 500 0 0 0 (Nat.zero_le _) (by decide) (by unfold am_rank; simp; omega))
    obtain ⟨G4, v, f4, p8, p14, -, g4⟩ := am_m155 (X := am_X0 N xs) (q := q) (a := 1) (b := 1) (c := 1) hu hn v3 w3 hz (D := 54)
    have low4 : ∀ i j, i < 114 → G4 i j = G i j := fun i j hi => by rw [f4 i j (by omega), f3 i j (by omega), f2 i j (by omega), x1 i j (by omega)]
    have oth4 : ∀ i j, 114 ≤ i → i ≠ 115 → i ≠ 118 → (i = 114 → j = 4 ∨ j = 5 ∨ j = 15 ∨ j = 25) → G4 i j = G i j := fun i j _ a b e => by rw [f4 i j (fun e1 => by have := e e1; omega), f3 i j (by omega), f2 i j a, x1 i j b]
    have s5 : (5 : Int32) + nI u = nI (5 + u) := nI_add 5 u
    have evv : (v = v) = True := eq_self v
    have e10 : ((1 : Int32) = 0) = False := by decide
    have run : ∀ o, am_Rn (am_X0 N xs) 99 (some .int) am_J159 113 [some (.ref 114), some (.int (nI u)), some (.int v), some (.int (am_bI (z.2.2 && decide (z.2.1 = n)))), some (.int (nI z.2.1))] [] (am_L0 q, G4) o → am_CD (am_X0 N xs) 100 159 [.ref 114, .int (nI u)] (am_L0 q, G) = some o := fun o ho => by
      refine am_CD_of (M := am_N159) rfl rfl ?_
      show am_Rn _ _ ((Option.some FieldType.int)) am_J159 0 [some (.ref 114), some (.int (nI u)), none, none, none] [] (am_L0 q, G) _
      simp only [am_s159_0, am_s159_1, am_s159_2, am_s159_3, am_s159_6, am_s159_9, am_s159_10, am_s159_12, am_s159_15, am_s159_16, am_s159_17, am_s159_18, am_s159_21, am_s159_22, am_s159_25, am_s159_28, am_s159_29, h1, am_f114_0, am_f114_3, am_cal_ok am_cat_0 am_v114 (g1), am_cal_ok am_cat_0 am_v114 (am_d1 (D := 98)), am_cal_ok am_cat_0 am_v114 (am_d2 (D := 98)), am_cal_ok am_cat_0 am_v114 (am_d3 (D := 98)), am_cal_ok am_cat_0 am_v114 (am_d4 (D := 98)), am_cal_ok am_cat_0 am_v114 (am_d5 (D := 98)), am_cal_ok am_cat_0 am_rcv_f (am_y125 _ _), am_cal_ok am_cat_0 am_rcv_f (am_m183 (D := 97) _), am_bI0, am_f114_0, am_er_f, am_sy_f, Bool.false_and, Bool.and_false, reduceCtorEq, not_false_eq_true, not_true_eq_false, eq_self, am_os_some, Option.toList_some, Option.toList_none, List.cons_append, List.nil_append, if_true, if_false, true_and, am_nw1_i, am_nw1_r, am_nw1_n, cond_true]
      rw [nI_0] at g2
      rw [g2]
      cases hok : (z.2.2 && decide (z.2.1 = n)) with
      | true =>
        rw [hok] at p14 ho
        have p14' : G4 114 14 = 1 := p14
        simp only [am_s159_66, am_s159_67, am_s159_70, am_s159_71, am_s159_72, am_s159_73, am_s159_74, am_s159_77, am_s159_78, am_s159_79, am_s159_80, am_s159_81, am_s159_82, am_s159_83, am_s159_84, am_s159_85, am_s159_88, am_s159_89, am_s159_90, am_s159_93, am_s159_96, am_s159_97, am_s159_98, am_s159_101, am_s159_102, am_s159_105, am_s159_106, am_s159_107, am_s159_108, am_s159_111, am_f114_0, s5, am_r115_3, k32, am_w115 (show 5 + u < 281 by omega), hG3, am_cal_ok am_cat_0 am_v114 (g4), am_f114_14, am_f114_8, p14', p8, evv, e10, not_true_eq_false, not_false_eq_true, eq_self, am_os_some, Option.toList_some, Option.toList_none, List.cons_append, List.nil_append, if_true, if_false, true_and, am_nw1_i, am_nw1_r, am_nw1_n, cond_true]
        exact ho
      | false =>
        rw [hok] at p14 ho
        have p14' : G4 114 14 = 0 := p14
        simp only [am_s159_66, am_s159_67, am_s159_70, am_s159_71, am_s159_72, am_s159_73, am_s159_74, am_s159_77, am_s159_78, am_s159_79, am_s159_80, am_s159_81, am_s159_82, am_s159_83, am_s159_84, am_s159_85, am_s159_88, am_s159_89, am_s159_90, am_s159_93, am_s159_96, am_s159_97, am_s159_98, am_s159_101, am_s159_102, am_s159_105, am_s159_106, am_s159_107, am_s159_108, am_s159_111, am_f114_0, s5, am_r115_3, k32, am_w115 (show 5 + u < 281 by omega), hG3, am_cal_ok am_cat_0 am_v114 (g4), am_f114_14, am_f114_8, p14', p8, evv, e10, not_true_eq_false, not_false_eq_true, eq_self, am_os_some, Option.toList_some, Option.toList_none, List.cons_append, List.nil_append, if_true, if_false, true_and, am_nw1_i, am_nw1_r, am_nw1_n, cond_true]
        exact ho
    cases hok : (z.2.2 && decide (z.2.1 = n)) with
    | true =>
      rw [hok] at run
      obtain ⟨T, i, ok⟩ := z
      rw [Bool.and_eq_true] at hok
      obtain ⟨ok1, ok2⟩ := hok
      dsimp only at ok1 ok2
      have ein : i = n := of_decide_eq_true ok2
      subst ok1
      rw [ein] at hz run
      rw [am_rdt_t hz]
      have f5 : ∀ i x, (i = 115 → x ≠ 3) → am_up G4 115 3 0 i x = G4 i x := fun i x h => by
        rw [am_up_get]
        split
        · rw [if_neg (h (by assumption))]
        · rfl
      have hst : am_sB (B, 0) (am_sL u T s) = ((s.1.1, (if u = 0 then T else s.1.2.1), (if u = 0 then s.1.2.2.1 else T), (s.1.2.2.2.1.1, 0), s.1.2.2.2.2), s.2) := by
        rw [hBB]
        rfl
      have hr6 : am_rw8 (am_up G4 115 3 0 115) (s.1.1, (if u = 0 then T else s.1.2.1), (if u = 0 then s.1.2.2.1 else T), (s.1.2.2.2.1.1, 0), s.1.2.2.2.2) := am_rw8_L hc.1 hm hu (fun k e3 e5 ek => by rw [f5 115 k (fun _ => e3), f4 115 k (by omega), f3 115 k (fun _ => e5), t2, if_neg (by omega), x1 115 k (by decide)]) (by rw [am_up_get, if_pos rfl, if_pos rfl]) (Or.inr ⟨B, n, hn, by rw [f5 115 _ (by omega), f4 115 _ (by omega)]; exact v3, fun j hj => by rw [f5 115 _ (by omega), f4 115 _ (by omega)]; exact w3 j hj, hz⟩)
      refine ⟨am_up G4 115 3 0, fun i j hi => by rw [f5 i j (by omega)]; exact low4 i j hi, ?_, ?_⟩
      · show am_rfl _ (am_sB (B, 0) (am_sL u T s))
        rw [hst]
        exact am_rfl_W (s := s) hc (fun i j a b c d _ _ e => by rw [f5 i j (by omega)]; exact oth4 i j a b d e) hr6
      · refine run _ ?_
        have eb : am_bI true = 1 := rfl
        simp only [am_s159_113, am_s159_114, am_s159_117, am_s159_118, am_s159_119, am_s159_122, am_s159_123, am_s159_126, am_s159_129, am_s159_130, am_s159_133, am_s159_134, am_s159_135, am_s159_136, am_s159_137, am_s159_140, am_s159_141, am_s159_144, am_s159_146, am_s159_148, am_s159_149, eb, e10, am_f114_0, am_w115_3, not_true_eq_false, not_false_eq_true, eq_self, am_os_some, Option.toList_some, Option.toList_none, List.cons_append, List.nil_append, if_true, if_false, true_and, am_nw1_i, am_nw1_r, am_nw1_n, cond_true]
        all_goals rfl
    | false =>
      rw [hok] at run
      rw [am_rdt_f hz hok]
      obtain ⟨G5, x5, b5, g5⟩ := am_m128 (X := am_X0 N xs) (D := 98) (q := q) (G := G4) am_is8 am_is5 (by decide)
      have row5 : ∀ j, j < 281 → G5 115 j = G 115 j := fun j hj => by rw [b5 j hj, f4 118 j (by omega), f3 118 j (by omega), f2 118 j (by decide), b1 j hj]
      have f6 : ∀ i x, (i = 115 → x ≠ 3) → am_up G5 115 3 0 i x = G5 i x := fun i x h => by
        rw [am_up_get]
        split
        · rw [if_neg (h (by assumption))]
        · rfl
      have hr5 : am_rw8 (G5 115) s.1 := am_rw8_ext hc.1 hs.1 row5
      have hr6 : am_rw8 (am_up G5 115 3 0 115) (s.1.1, s.1.2.1, s.1.2.2.1, (s.1.2.2.2.1.1, 0), s.1.2.2.2.2) := am_rw8_B (B := (s.1.2.2.2.1.1, 0)) hr5 hm (fun k h _ => f6 115 k fun _ => h) (by rw [am_up_get, if_pos rfl, if_pos rfl]; rfl) (fun j hj => absurd hj (Nat.not_lt_zero j))
      have hst : (am_sB (B, 0) (am_sL u ((none : Option am_T).getD (am_lwo u s)) s)) = ((s.1.1, s.1.2.1, s.1.2.2.1, (s.1.2.2.2.1.1, 0), s.1.2.2.2.2), s.2) := by
        rw [hBB]
        exact am_sBL hu
      refine ⟨am_up G5 115 3 0, fun i j hi => by rw [f6 i j (by omega), x5 i j (by omega)]; exact low4 i j hi, ?_, ?_⟩
      · show am_rfl _ (am_sB (B, 0) (am_sL u ((none : Option am_T).getD (am_lwo u s)) s))
        rw [hst]
        exact am_rfl_W (s := s) hc (fun i j a b c d _ _ e => by rw [f6 i j (by omega), x5 i j b]; exact oth4 i j a b d e) hr6
      · refine run _ ?_
        have eb : am_bI false = 0 := rfl
        simp only [am_s159_113, am_s159_114, am_s159_117, am_s159_118, am_s159_119, am_s159_122, am_s159_123, am_s159_126, am_s159_129, am_s159_130, am_s159_133, am_s159_134, am_s159_135, am_s159_136, am_s159_137, am_s159_140, am_s159_141, am_s159_144, am_s159_146, am_s159_148, am_s159_149, eb, am_f114_0, am_f114_3, am_w115_3, am_cal_ok am_cat_0 am_v114 (g5), not_true_eq_false, not_false_eq_true, am_cal_ok am_cat_0 am_v114 (am_d1 (D := 98)), am_cal_ok am_cat_0 am_v114 (am_d2 (D := 98)), am_cal_ok am_cat_0 am_v114 (am_d3 (D := 98)), am_cal_ok am_cat_0 am_v114 (am_d4 (D := 98)), am_cal_ok am_cat_0 am_v114 (am_d5 (D := 98)), am_cal_ok am_cat_0 am_rcv_f (am_y125 _ _), am_cal_ok am_cat_0 am_rcv_f (am_m183 (D := 97) _), am_bI0, am_f114_0, am_er_f, am_sy_f, Bool.false_and, Bool.and_false, reduceCtorEq, not_false_eq_true, not_true_eq_false, eq_self, am_os_some, Option.toList_some, Option.toList_none, List.cons_append, List.nil_append, if_true, if_false, true_and, am_nw1_i, am_nw1_r, am_nw1_n, cond_true]
        all_goals rfl
end AMRT2
