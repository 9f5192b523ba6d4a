/-! THE REFERENCE: move -/
theorem am_le_sub {a c z : Nat} (ha : a < 2 ^ 31) (hc : c < 2 ^ 31) (hz : z ≤ 40) : (nI a ≤ nI z - nI c) = (a + c ≤ z) := by
  rw [Int32.le_iff_toInt_le, Int32.toInt_sub, nI_toInt ha, nI_toInt hc, nI_toInt (show z < 2 ^ 31 by omega), Int.bmod_def]
  refine propext ⟨fun h => ?_, fun h => ?_⟩
  · split at h <;> omega
  · split <;> omega
theorem am_hol_e {z a c : Nat} (ha : a < 2 ^ 31) (hc : c < 2 ^ 31) (hz : z ≤ 40) : am_hol z (nI a) (nI c) = decide (a + c ≤ z) := by
  unfold am_hol
  have e1 : ¬ nI a < 0 := nI_pos ha
  have e2 : ¬ nI c < 0 := nI_pos hc
  have e3 : (nI a ≤ nI z) = (a ≤ z) := propext (nI_leI ha (by omega))
  simp only [e1, e2, e3, am_le_sub hc ha hz, not_false_eq_true, decide_true, Bool.true_and]
  by_cases cc : a + c ≤ z
  · rw [decide_eq_true cc, decide_eq_true (show a ≤ z by omega), decide_eq_true (by omega)]; rfl
  · rw [decide_eq_false cc, decide_eq_false (show ¬ c + a ≤ z by omega), Bool.and_false]
theorem am_hol_f1 {z : Nat} {i n : Int32} (h : i < 0) : am_hol z i n = false := by
  unfold am_hol
  rw [decide_eq_false (show ¬ ¬ i < 0 from fun e => e h), Bool.false_and]
theorem am_hol_f2 {z : Nat} {i n : Int32} (h : n < 0) : am_hol z i n = false := by
  unfold am_hol
  rw [decide_eq_false (show ¬ ¬ n < 0 from fun e => e h), Bool.false_and, Bool.and_false]
section AMRS2
variable {X : am_X} {D q : Nat}
theorem am_r123 {G : am_G} {k : Nat} (hk : k < 40) : am_ald X (am_L0 q, G) 123 (nI k) = some (G 123 k) := by rw [am_a123, am_in_nI hk (by decide), nI_clamp (by omega)]; rfl
theorem am_w123 {G : am_G} {k : Nat} {v : Int32} (hk : k < 40) : am_astM (am_L0 q, G) 123 (nI k) v = some (am_L0 q, am_up G 123 k v) := by rw [am_t123, am_in_nI hk (by decide), nI_clamp (by omega)]; rfl
theorem am_l208a {j r a e c : Nat} (hj : j < 4) (hc : a + c ≤ 40) : ∀ (d k : Nat) (G : am_G), k + d = c → (∀ t, t < k → G 123 t = G 122 (40 * j + a + t)) → ∃ G' : am_G, (∀ i x, i ≠ 123 → G' i x = G i x) ∧ (∀ t, t < c → G' 123 t = G 122 (40 * j + a + t)) ∧ ∀ o, am_Rn X 99 (some .int) am_J208 119 [some (.ref 114), some (.int (nI j)), some (.int (nI a)), some (.int (nI r)), some (.int (nI e)), some (.int (nI c)), some (.int (nI k))] [] (am_L0 q, G) o = am_Rn X 99 (some .int) am_J208 153 [some (.ref 114), some (.int (nI j)), some (.int (nI a)), some (.int (nI r)), some (.int (nI e)), some (.int (nI c)), some (.int (nI c))] [] (am_L0 q, G') o := by
  intro d
  induction d with
  | zero =>
    intro k G hk ht
    obtain rfl : k = c := by omega
    have h1 : ¬ nI k < nI k := Int32.lt_irrefl
    refine ⟨G, fun _ _ _ => rfl, ht, fun o => ?_⟩
    simp only [am_s208_119, am_s208_121, am_s208_123, h1, eq_self, am_os_some, Option.toList_some, Option.toList_none, List.cons_append, List.nil_append, if_true, if_false, true_and, am_nw1_i, am_nw1_r, am_nw1_n, cond_true]
  | succ d ih =>
    intro k G hk ht
    have h1 : nI k < nI c := nI_lt (by omega) (by omega)
    have hi : nI k + 1 = nI (k + 1) := nI_add k 1
    have f : ∀ i x, i ≠ 123 → am_up G 123 k (G 122 (40 * j + a + k)) i x = G i x := fun i x h => by rw [am_up_get, if_neg h]
    obtain ⟨G', f1, t1, g1⟩ := ih (k + 1) (am_up G 123 k (G 122 (40 * j + a + k))) (by omega) (fun t h => by
      rw [am_up_get, if_pos rfl, f 122 _ (by decide)]
      by_cases e : t = k
      · rw [if_pos e, e]
      · rw [if_neg e]; exact ht t (by omega))
    refine ⟨G', fun i x h => by rw [f1 i x h, f i x h], fun t h => by rw [t1 t h, f 122 _ (by decide)], fun o => ?_⟩
    simp only [am_s208_119, am_s208_121, am_s208_123, am_s208_126, am_s208_127, am_s208_130, am_s208_132, am_s208_133, am_s208_136, am_s208_138, am_s208_139, am_s208_140, am_s208_141, am_s208_142, am_s208_144, am_s208_145, am_s208_146, am_s208_147, h1, am_f114_22, am_f114_21, am_mul40, nI_add, am_r122 (show 40 * j + a + k < 160 by omega), am_w123 (show k < 40 by omega), eq_self, am_os_some, Option.toList_some, Option.toList_none, List.cons_append, List.nil_append, if_true, if_false, true_and, am_nw1_i, am_nw1_r, am_nw1_n, cond_true]
    rw [am_s208_150, hi]
    exact g1 o
theorem am_l208b {j r a e c : Nat} (hr : r < 4) (hc : e + c ≤ 40) : ∀ (d k : Nat) (G : am_G), k + d = c → ∃ G' : am_G, (∀ i x, i ≠ 122 → G' i x = G i x) ∧ (∀ x, G' 122 x = if 40 * r + e + k ≤ x ∧ x < 40 * r + e + c then G 123 (x - (40 * r + e)) else G 122 x) ∧ am_Rn X 99 (some .int) am_J208 156 [some (.ref 114), some (.int (nI j)), some (.int (nI a)), some (.int (nI r)), some (.int (nI e)), some (.int (nI c)), some (.int (nI k))] [] (am_L0 q, G) (some (.int (nI c)), (am_L0 q, G')) := by
  intro d
  induction d with
  | zero =>
    intro k G hk
    obtain rfl : k = c := by omega
    have h1 : ¬ nI k < nI k := Int32.lt_irrefl
    refine ⟨G, fun _ _ _ => rfl, fun x => by rw [if_neg (by omega)], ?_⟩
    simp only [am_s208_156, am_s208_158, am_s208_160, am_s208_191, am_s208_193, h1, eq_self, am_os_some, Option.toList_some, Option.toList_none, List.cons_append, List.nil_append, if_true, if_false, true_and, am_nw1_i, am_nw1_r, am_nw1_n, cond_true]
  | succ d ih =>
    intro k G hk
    have h1 : nI k < nI c := nI_lt (by omega) (by omega)
    have hi : nI k + 1 = nI (k + 1) := nI_add k 1
    have f : ∀ i x, i ≠ 122 → am_up G 122 (40 * r + e + k) (G 123 k) i x = G i x := fun i x h => by rw [am_up_get, if_neg h]
    obtain ⟨G', f1, t1, g1⟩ := ih (k + 1) (am_up G 122 (40 * r + e + k) (G 123 k)) (by omega)
    refine ⟨G', fun i x h => by rw [f1 i x h, f i x h], fun x => ?_, ?_⟩
    · rw [t1 x, f 123 _ (by decide), am_up_get, if_pos rfl]
      by_cases c1 : x = 40 * r + e + k
      · rw [if_neg (by omega), if_pos c1, if_pos (by omega), show x - (40 * r + e) = k by omega]
      · by_cases c2 : 40 * r + e + k ≤ x ∧ x < 40 * r + e + c
        · rw [if_pos (by omega), if_pos c2]
        · rw [if_neg (by omega), if_neg c1, if_neg c2]
    · simp only [am_s208_156, am_s208_158, am_s208_160, am_s208_163, am_s208_164, am_s208_167, am_s208_169, am_s208_170, am_s208_171, am_s208_173, am_s208_174, am_s208_176, am_s208_177, am_s208_178, am_s208_181, am_s208_183, am_s208_184, am_s208_185, h1, am_f114_22, am_f114_21, am_mul40, nI_add, am_r123 (show k < 40 by omega), am_w122 (show 40 * r + e + k < 160 by omega), eq_self, am_os_some, Option.toList_some, Option.toList_none, List.cons_append, List.nil_append, if_true, if_false, true_and, am_nw1_i, am_nw1_r, am_nw1_n, cond_true]
      rw [am_s208_188, hi]
      exact g1
theorem am_r208 {a i b k n : Int32} {s : am_St} (hs : am_oks s) : am_rO 208 [.int a, .int i, .int b, .int k, .int n] s (am_O109 a i b k n s) := by
  unfold am_O109
  cases h1 : am_wi a 3 with
  | false =>
    refine am_rO_err (k := 1) (r := -1000000001) (by decide) am_ec1.symm fun X q G hc => am_CD_of (M := am_N208) rfl rfl ?_
    have hn : G 115 2 = nI (s.1.1 13 0) := hc.1.1.2.1
    show am_Rn _ _ ((Option.some FieldType.int)) am_J208 0 [some (.ref 114), some (.int a), some (.int i), some (.int b), some (.int k), some (.int n), none] [] (am_L0 q, G) _
    simp only [am_s208_0, am_s208_1, am_s208_4, am_s208_7, am_s208_8, am_s208_11, am_s208_14, am_s208_15, am_s208_17, am_s208_20, am_cal_ok am_cat_0 am_rcv_f (am_m183 (D := 97) _), h1, am_cal_ok am_cat_0 am_v114 (am_d1 (D := 98)), am_cal_ok am_cat_0 am_v114 (am_d2 (D := 98)), am_cal_ok am_cat_0 am_v114 (am_d3 (D := 98)), am_cal_ok am_cat_0 am_v114 (am_d4 (D := 98)), am_cal_ok am_cat_0 am_v114 (am_d5 (D := 98)), am_cal_ok am_cat_0 am_rcv_f (am_y125 _ _), am_cal_ok am_cat_0 am_rcv_f (am_m183 (D := 97) _), am_bI0, am_f114_0, am_er_f, am_sy_f, Bool.false_and, Bool.and_false, reduceCtorEq, not_false_eq_true, not_true_eq_false, eq_self, am_os_some, Option.toList_some, Option.toList_none, List.cons_append, List.nil_append, if_true, if_false, true_and, am_nw1_i, am_nw1_r, am_nw1_n, cond_true]
  | true =>
    cases h2 : am_wi b 3 with
    | false =>
      rw [if_pos (by decide)]
      refine am_rO_err (k := 1) (r := -1000000001) (by decide) am_ec1.symm fun X q G hc => am_CD_of (M := am_N208) rfl rfl ?_
      have hn : G 115 2 = nI (s.1.1 13 0) := hc.1.1.2.1
      show am_Rn _ _ ((Option.some FieldType.int)) am_J208 0 [some (.ref 114), some (.int a), some (.int i), some (.int b), some (.int k), some (.int n), none] [] (am_L0 q, G) _
      simp only [am_s208_0, am_s208_1, am_s208_4, am_s208_7, am_s208_8, am_s208_11, am_s208_14, am_s208_15, am_s208_17, am_s208_20, am_cal_ok am_cat_0 am_rcv_f (am_m183 (D := 97) _), h1, h2, am_cal_ok am_cat_0 am_v114 (am_d1 (D := 98)), am_cal_ok am_cat_0 am_v114 (am_d2 (D := 98)), am_cal_ok am_cat_0 am_v114 (am_d3 (D := 98)), am_cal_ok am_cat_0 am_v114 (am_d4 (D := 98)), am_cal_ok am_cat_0 am_v114 (am_d5 (D := 98)), am_cal_ok am_cat_0 am_rcv_f (am_y125 _ _), am_cal_ok am_cat_0 am_rcv_f (am_m183 (D := 97) _), am_bI0, am_f114_0, am_er_f, am_sy_f, Bool.false_and, Bool.and_false, reduceCtorEq, not_false_eq_true, not_true_eq_false, eq_self, am_os_some, Option.toList_some, Option.toList_none, List.cons_append, List.nil_append, if_true, if_false, true_and, am_nw1_i, am_nw1_r, am_nw1_n, cond_true]
    | true =>
      rw [if_neg (by decide)]
      obtain ⟨a1, a2⟩ := am_wi_nI (n := 3) (by decide) h1
      obtain ⟨b1, b2⟩ := am_wi_nI (n := 3) (by decide) h2
      generalize a.toNatClampNeg = j at a1 a2
      generalize b.toNatClampNeg = r at b1 b2
      subst a2 b2
      have hj : j < 4 := by omega
      have hr : r < 4 := by omega
      have ho1 := hs.2.2.2 j hj
      have ho2 := hs.2.2.2 r hr
      rcases hx : s.2.2.2.2.2 j with ⟨b1, z1, V1⟩
      rcases hy : s.2.2.2.2.2 r with ⟨b2, z2, V2⟩
      rw [hx] at ho1
      rw [hy] at ho2
      obtain ⟨hz1, -, -⟩ := ho1
      obtain ⟨hz2, -, -⟩ := ho2
      dsimp only at hz1 hz2 ⊢
      by_cases c1 : b1 = 0
      · rw [if_pos (Or.inl c1)]
        refine am_rO_err (k := 2) (r := -1000000002) (by decide) am_ec2.symm fun X q G hc => am_CD_of (M := am_N208) rfl rfl ?_
        have hn : G 115 2 = nI (s.1.1 13 0) := hc.1.1.2.1
        have h1s := hc.2.2.2.2.2.2.2 j hj
        rw [hx] at h1s
        have h2s := hc.2.2.2.2.2.2.2 r hr
        rw [hy] at h2s
        have kb : G 120 j = b1 := h1s.1
        have kz : G 121 j = nI z1 := h1s.2.1
        have lb : G 120 r = b2 := h2s.1
        have lz : G 121 r = nI z2 := h2s.2.1
        show am_Rn _ _ ((Option.some FieldType.int)) am_J208 0 [some (.ref 114), some (.int (nI j)), some (.int i), some (.int (nI r)), some (.int k), some (.int n), none] [] (am_L0 q, G) _
        simp only [am_s208_0, am_s208_1, am_s208_4, am_s208_7, am_s208_8, am_s208_11, am_s208_14, am_s208_15, am_s208_17, am_s208_20, am_s208_21, am_s208_22, am_s208_25, am_s208_26, am_s208_27, am_s208_30, am_s208_31, am_s208_34, am_s208_35, am_s208_36, am_s208_39, am_s208_40, am_s208_42, am_s208_45, am_cal_ok am_cat_0 am_rcv_f (am_m183 (D := 97) _), h1, h2, am_f114_19, am_r120 hj, kb, c1, not_true_eq_false, am_cal_ok am_cat_0 am_v114 (am_d1 (D := 98)), am_cal_ok am_cat_0 am_v114 (am_d2 (D := 98)), am_cal_ok am_cat_0 am_v114 (am_d3 (D := 98)), am_cal_ok am_cat_0 am_v114 (am_d4 (D := 98)), am_cal_ok am_cat_0 am_v114 (am_d5 (D := 98)), am_cal_ok am_cat_0 am_rcv_f (am_y125 _ _), am_cal_ok am_cat_0 am_rcv_f (am_m183 (D := 97) _), am_bI0, am_f114_0, am_er_f, am_sy_f, Bool.false_and, Bool.and_false, reduceCtorEq, not_false_eq_true, not_true_eq_false, eq_self, am_os_some, Option.toList_some, Option.toList_none, List.cons_append, List.nil_append, if_true, if_false, true_and, am_nw1_i, am_nw1_r, am_nw1_n, cond_true]
      · by_cases c2 : b2 = 0
        · rw [if_pos (Or.inr c2)]
          refine am_rO_err (k := 2) (r := -1000000002) (by decide) am_ec2.symm fun X q G hc => am_CD_of (M := am_N208) rfl rfl ?_
          have hn : G 115 2 = nI (s.1.1 13 0) := hc.1.1.2.1
          have h1s := hc.2.2.2.2.2.2.2 j hj
          rw [hx] at h1s
          have h2s := hc.2.2.2.2.2.2.2 r hr
          rw [hy] at h2s
          have kb : G 120 j = b1 := h1s.1
          have kz : G 121 j = nI z1 := h1s.2.1
          have lb : G 120 r = b2 := h2s.1
          have lz : G 121 r = nI z2 := h2s.2.1
          show am_Rn _ _ ((Option.some FieldType.int)) am_J208 0 [some (.ref 114), some (.int (nI j)), some (.int i), some (.int (nI r)), some (.int k), some (.int n), none] [] (am_L0 q, G) _
          simp only [am_s208_0, am_s208_1, am_s208_4, am_s208_7, am_s208_8, am_s208_11, am_s208_14, am_s208_15, am_s208_17, am_s208_20, am_s208_21, am_s208_22, am_s208_25, am_s208_26, am_s208_27, am_s208_30, am_s208_31, am_s208_34, am_s208_35, am_s208_36, am_s208_39, am_s208_40, am_s208_42, am_s208_45, am_cal_ok am_cat_0 am_rcv_f (am_m183 (D := 97) _), h1, h2, am_f114_19, am_r120 hj, am_r120 hr, kb, lb, c1, c2, not_true_eq_false, not_false_eq_true, am_cal_ok am_cat_0 am_v114 (am_d1 (D := 98)), am_cal_ok am_cat_0 am_v114 (am_d2 (D := 98)), am_cal_ok am_cat_0 am_v114 (am_d3 (D := 98)), am_cal_ok am_cat_0 am_v114 (am_d4 (D := 98)), am_cal_ok am_cat_0 am_v114 (am_d5 (D := 98)), am_cal_ok am_cat_0 am_rcv_f (am_y125 _ _), am_cal_ok am_cat_0 am_rcv_f (am_m183 (D := 97) _), am_bI0, am_f114_0, am_er_f, am_sy_f, Bool.false_and, Bool.and_false, reduceCtorEq, not_false_eq_true, not_true_eq_false, eq_self, am_os_some, Option.toList_some, Option.toList_none, List.cons_append, List.nil_append, if_true, if_false, true_and, am_nw1_i, am_nw1_r, am_nw1_n, cond_true]
        · rw [if_neg (by simp only [c1, c2]; simp)]
          by_cases c3 : b1 = b2
          · rw [if_neg (by simp only [c3]; simp)]
            subst c3
            have err : ((am_hol z1 i n && am_hol z2 k n) = false) → (∀ (X : am_X) (q : Nat) (G : am_G), am_rfl G s → ∀ o, am_Rn X 99 (some .int) am_J208 109 [some (.ref 114), some (.int (nI j)), some (.int i), some (.int (nI r)), some (.int k), some (.int n), none] [] (am_L0 q, G) o → am_Rn X 99 (some .int) am_J208 68 [some (.ref 114), some (.int (nI j)), some (.int i), some (.int (nI r)), some (.int k), some (.int n), none] [] (am_L0 q, G) o) → am_rO 208 [.int (nI j), .int i, .int (nI r), .int k, .int n] s (am_er 1 s) := fun _ hg => by
              refine am_rO_err (k := 1) (r := -1000000001) (by decide) am_ec1.symm fun X q G hc => am_CD_of (M := am_N208) rfl rfl ?_
              have hn : G 115 2 = nI (s.1.1 13 0) := hc.1.1.2.1
              have h1s := hc.2.2.2.2.2.2.2 j hj
              rw [hx] at h1s
              have h2s := hc.2.2.2.2.2.2.2 r hr
              rw [hy] at h2s
              have kb : G 120 j = b1 := h1s.1
              have kz : G 121 j = nI z1 := h1s.2.1
              have lb : G 120 r = b1 := h2s.1
              have lz : G 121 r = nI z2 := h2s.2.1
              show am_Rn _ _ ((Option.some FieldType.int)) am_J208 0 [some (.ref 114), some (.int (nI j)), some (.int i), some (.int (nI r)), some (.int k), some (.int n), none] [] (am_L0 q, G) _
              simp only [am_s208_0, am_s208_1, am_s208_4, am_s208_7, am_s208_8, am_s208_11, am_s208_14, am_s208_15, am_s208_17, am_s208_20, am_s208_21, am_s208_22, am_s208_25, am_s208_26, am_s208_27, am_s208_30, am_s208_31, am_s208_34, am_s208_35, am_s208_36, am_s208_39, am_s208_40, am_s208_42, am_s208_45, am_s208_46, am_s208_47, am_s208_50, am_s208_51, am_s208_52, am_s208_53, am_s208_56, am_s208_57, am_s208_58, am_cal_ok am_cat_0 am_rcv_f (am_m183 (D := 97) _), h1, h2, am_f114_19, am_r120 hj, am_r120 hr, kb, lb, c1, c2, not_true_eq_false, not_false_eq_true, am_cal_ok am_cat_0 am_v114 (am_d1 (D := 98)), am_cal_ok am_cat_0 am_v114 (am_d2 (D := 98)), am_cal_ok am_cat_0 am_v114 (am_d3 (D := 98)), am_cal_ok am_cat_0 am_v114 (am_d4 (D := 98)), am_cal_ok am_cat_0 am_v114 (am_d5 (D := 98)), am_cal_ok am_cat_0 am_rcv_f (am_y125 _ _), am_cal_ok am_cat_0 am_rcv_f (am_m183 (D := 97) _), am_bI0, am_f114_0, am_er_f, am_sy_f, Bool.false_and, Bool.and_false, reduceCtorEq, not_false_eq_true, not_true_eq_false, eq_self, am_os_some, Option.toList_some, Option.toList_none, List.cons_append, List.nil_append, if_true, if_false, true_and, am_nw1_i, am_nw1_r, am_nw1_n, cond_true]
              refine hg X q G hc _ ?_
              simp only [am_s208_109, am_s208_110, am_s208_112, am_s208_115, am_cal_ok am_cat_0 am_v114 (am_d1 (D := 98)), am_cal_ok am_cat_0 am_v114 (am_d2 (D := 98)), am_cal_ok am_cat_0 am_v114 (am_d3 (D := 98)), am_cal_ok am_cat_0 am_v114 (am_d4 (D := 98)), am_cal_ok am_cat_0 am_v114 (am_d5 (D := 98)), am_cal_ok am_cat_0 am_rcv_f (am_y125 _ _), am_cal_ok am_cat_0 am_rcv_f (am_m183 (D := 97) _), am_bI0, am_f114_0, am_er_f, am_sy_f, Bool.false_and, Bool.and_false, reduceCtorEq, not_false_eq_true, not_true_eq_false, eq_self, am_os_some, Option.toList_some, Option.toList_none, List.cons_append, List.nil_append, if_true, if_false, true_and, am_nw1_i, am_nw1_r, am_nw1_n, cond_true]
            by_cases d1 : n < 0
            · have hf : (am_hol z1 i n && am_hol z2 k n) = false := by rw [am_hol_f2 d1, Bool.false_and]
              rw [if_pos hf]
              refine err hf fun X q G hc o ho => ?_
              simp only [am_s208_68, am_s208_70, am_s208_73, am_s208_74, am_s208_77, am_s208_79, am_s208_82, am_s208_83, am_s208_84, am_s208_87, am_s208_88, am_s208_89, am_s208_91, am_s208_92, am_s208_95, am_s208_97, am_s208_98, am_s208_101, am_s208_102, am_s208_103, am_s208_105, am_s208_106, d1, not_true_eq_false, not_false_eq_true, eq_self, am_os_some, Option.toList_some, Option.toList_none, List.cons_append, List.nil_append, if_true, if_false, true_and, am_nw1_i, am_nw1_r, am_nw1_n, cond_true]
              exact ho
            · by_cases d2 : i < 0
              · have hf : (am_hol z1 i n && am_hol z2 k n) = false := by rw [am_hol_f1 d2, Bool.false_and]
                rw [if_pos hf]
                refine err hf fun X q G hc o ho => ?_
                simp only [am_s208_68, am_s208_70, am_s208_73, am_s208_74, am_s208_77, am_s208_79, am_s208_82, am_s208_83, am_s208_84, am_s208_87, am_s208_88, am_s208_89, am_s208_91, am_s208_92, am_s208_95, am_s208_97, am_s208_98, am_s208_101, am_s208_102, am_s208_103, am_s208_105, am_s208_106, d1, d2, not_true_eq_false, not_false_eq_true, eq_self, am_os_some, Option.toList_some, Option.toList_none, List.cons_append, List.nil_append, if_true, if_false, true_and, am_nw1_i, am_nw1_r, am_nw1_n, cond_true]
                exact ho
              · by_cases d3 : k < 0
                · have hf : (am_hol z1 i n && am_hol z2 k n) = false := by rw [am_hol_f1 (i := k) d3, Bool.and_false]
                  rw [if_pos hf]
                  refine err hf fun X q G hc o ho => ?_
                  simp only [am_s208_68, am_s208_70, am_s208_73, am_s208_74, am_s208_77, am_s208_79, am_s208_82, am_s208_83, am_s208_84, am_s208_87, am_s208_88, am_s208_89, am_s208_91, am_s208_92, am_s208_95, am_s208_97, am_s208_98, am_s208_101, am_s208_102, am_s208_103, am_s208_105, am_s208_106, d1, d2, d3, not_true_eq_false, not_false_eq_true, eq_self, am_os_some, Option.toList_some, Option.toList_none, List.cons_append, List.nil_append, if_true, if_false, true_and, am_nw1_i, am_nw1_r, am_nw1_n, cond_true]
                  exact ho
                · obtain ⟨c, hcl, rfl⟩ := nI_of d1
                  obtain ⟨u, hul, rfl⟩ := nI_of d2
                  obtain ⟨e, hel, rfl⟩ := nI_of d3
                  rw [nI_clamp hcl, nI_clamp hul, nI_clamp hel, am_hol_e hul hcl hz1, am_hol_e hel hcl hz2]
                  rw [am_hol_e hul hcl hz1, am_hol_e hel hcl hz2] at err
                  by_cases d4 : u + c ≤ z1
                  · by_cases d5 : e + c ≤ z2
                    · rw [decide_eq_true d4, decide_eq_true d5, if_neg (by decide)]
                      intro N xs q G hc
                      have hn : G 115 2 = nI (s.1.1 13 0) := hc.1.1.2.1
                      have h1s := hc.2.2.2.2.2.2.2 j hj
                      rw [hx] at h1s
                      have h2s := hc.2.2.2.2.2.2.2 r hr
                      rw [hy] at h2s
                      have kb : G 120 j = b1 := h1s.1
                      have kz : G 121 j = nI z1 := h1s.2.1
                      have lb : G 120 r = b1 := h2s.1
                      have lz : G 121 r = nI z2 := h2s.2.1
                      obtain ⟨G1, f1, t1, g1⟩ := am_l208a (X := am_X0 N xs) (q := q) (r := r) (e := e) (c := c) (a := u) hj (by omega) c 0 G (by omega) (fun t ht => absurd ht (Nat.not_lt_zero t))
                      obtain ⟨G2, f2, t2, g2⟩ := am_l208b (X := am_X0 N xs) (q := q) (j := j) (a := u) (c := c) hr (show e + c ≤ 40 by omega) c 0 G1 (by omega)
                      have F : ∀ i x, i ≠ 122 → i ≠ 123 → G2 i x = G i x := fun i x a b => by rw [f2 i x a, f1 i x b]
                      have T : ∀ x, G2 122 x = if 40 * r + e ≤ x ∧ x < 40 * r + e + c then G 122 (40 * j + u + (x - (40 * r + e))) else G 122 x := fun x => by
                        rw [t2 x, Nat.add_zero]
                        by_cases cc : 40 * r + e ≤ x ∧ x < 40 * r + e + c
                        · rw [if_pos cc, if_pos cc]
                          exact t1 _ (by omega)
                        · rw [if_neg cc, if_neg cc, f1 122 x (by decide)]
                      refine ⟨G2, fun i x hi => F i x (by omega) (by omega), am_rfl_H hc (fun i x _ _ _ a _ _ _ c => F i x c a) (fun i hi hij => ⟨F 120 i (by decide) (by decide), F 121 i (by decide) (by decide), fun x hx => by rw [T, if_neg (by omega)]⟩) ⟨(F 120 r (by decide) (by decide)).trans lb, (F 121 r (by decide) (by decide)).trans lz, fun x hx => ?_⟩, am_CD_of (M := am_N208) rfl rfl ?_⟩
                      · dsimp only
                        rw [T]
                        by_cases cc : e ≤ x ∧ x < e + c
                        · rw [if_pos (by omega), if_pos cc, show 40 * j + u + (40 * r + x - (40 * r + e)) = 40 * j + (u + (x - e)) by omega]
                          exact h1s.2.2 _ (by omega)
                        · rw [if_neg (by omega), if_neg cc]
                          exact h2s.2.2 x hx
                      · show am_Rn _ _ ((Option.some FieldType.int)) am_J208 0 [some (.ref 114), some (.int (nI j)), some (.int (nI u)), some (.int (nI r)), some (.int (nI e)), some (.int (nI c)), none] [] (am_L0 q, G) _
                        simp only [am_s208_0, am_s208_1, am_s208_4, am_s208_7, am_s208_8, am_s208_11, am_s208_14, am_s208_15, am_s208_17, am_s208_20, am_s208_21, am_s208_22, am_s208_25, am_s208_26, am_s208_27, am_s208_30, am_s208_31, am_s208_34, am_s208_35, am_s208_36, am_s208_39, am_s208_40, am_s208_42, am_s208_45, am_s208_46, am_s208_47, am_s208_50, am_s208_51, am_s208_52, am_s208_53, am_s208_56, am_s208_57, am_s208_58, am_s208_61, am_s208_62, am_s208_64, am_s208_67, am_s208_68, am_s208_70, am_s208_73, am_s208_74, am_s208_77, am_s208_79, am_s208_82, am_s208_83, am_s208_84, am_s208_87, am_s208_88, am_s208_89, am_s208_91, am_s208_92, am_s208_95, am_s208_97, am_s208_98, am_s208_101, am_s208_102, am_s208_103, am_s208_105, am_s208_106, am_s208_109, am_s208_110, am_s208_112, am_s208_115, am_s208_116, am_s208_117, am_cal_ok am_cat_0 am_rcv_f (am_m183 (D := 97) _), h1, h2, am_f114_19, am_f114_20, am_r120 hj, am_r120 hr, am_r121 hj, am_r121 hr, kb, kz, lb, lz, c1, c2, d1, d2, d3, am_le_sub hul hcl hz1, am_le_sub hel hcl hz2, d4, d5, not_true_eq_false, not_false_eq_true, am_cal_ok am_cat_0 am_v114 (am_d1 (D := 98)), am_cal_ok am_cat_0 am_v114 (am_d2 (D := 98)), am_cal_ok am_cat_0 am_v114 (am_d3 (D := 98)), am_cal_ok am_cat_0 am_v114 (am_d4 (D := 98)), am_cal_ok am_cat_0 am_v114 (am_d5 (D := 98)), am_cal_ok am_cat_0 am_rcv_f (am_y125 _ _), am_cal_ok am_cat_0 am_rcv_f (am_m183 (D := 97) _), am_bI0, am_f114_0, am_er_f, am_sy_f, Bool.false_and, Bool.and_false, reduceCtorEq, not_false_eq_true, not_true_eq_false, eq_self, am_os_some, Option.toList_some, Option.toList_none, List.cons_append, List.nil_append, if_true, if_false, true_and, am_nw1_i, am_nw1_r, am_nw1_n, cond_true]
                        rw [nI_0] at g1 g2
                        rw [g1]
                        simp only [am_s208_153, am_s208_154, eq_self, am_os_some, Option.toList_some, Option.toList_none, List.cons_append, List.nil_append, if_true, if_false, true_and, am_nw1_i, am_nw1_r, am_nw1_n, cond_true]
                        exact g2
                    · rw [decide_eq_true d4, decide_eq_false d5, if_pos (by decide)]
                      refine err (by rw [decide_eq_false d5, Bool.and_false]) fun X q G hc o ho => ?_
                      have h1s := hc.2.2.2.2.2.2.2 j hj
                      rw [hx] at h1s
                      have h2s := hc.2.2.2.2.2.2.2 r hr
                      rw [hy] at h2s
                      have kb : G 120 j = b1 := h1s.1
                      have kz : G 121 j = nI z1 := h1s.2.1
                      have lb : G 120 r = b1 := h2s.1
                      have lz : G 121 r = nI z2 := h2s.2.1
                      simp only [am_s208_68, am_s208_70, am_s208_73, am_s208_74, am_s208_77, am_s208_79, am_s208_82, am_s208_83, am_s208_84, am_s208_87, am_s208_88, am_s208_89, am_s208_91, am_s208_92, am_s208_95, am_s208_97, am_s208_98, am_s208_101, am_s208_102, am_s208_103, am_s208_105, am_s208_106, am_f114_19, am_f114_20, am_r120 hj, am_r120 hr, am_r121 hj, am_r121 hr, kb, kz, lb, lz, d1, d2, d3, am_le_sub hul hcl hz1, am_le_sub hel hcl hz2, d4, d5, not_true_eq_false, not_false_eq_true, eq_self, am_os_some, Option.toList_some, Option.toList_none, List.cons_append, List.nil_append, if_true, if_false, true_and, am_nw1_i, am_nw1_r, am_nw1_n, cond_true]
                      exact ho
                  · rw [decide_eq_false d4, Bool.false_and, if_pos rfl]
                    refine err (by rw [decide_eq_false d4, Bool.false_and]) fun X q G hc o ho => ?_
                    have h1s := hc.2.2.2.2.2.2.2 j hj
                    rw [hx] at h1s
                    have h2s := hc.2.2.2.2.2.2.2 r hr
                    rw [hy] at h2s
                    have kb : G 120 j = b1 := h1s.1
                    have kz : G 121 j = nI z1 := h1s.2.1
                    have lb : G 120 r = b1 := h2s.1
                    have lz : G 121 r = nI z2 := h2s.2.1
                    simp only [am_s208_68, am_s208_70, am_s208_73, am_s208_74, am_s208_77, am_s208_79, am_s208_82, am_s208_83, am_s208_84, am_s208_87, am_s208_88, am_s208_89, am_s208_91, am_s208_92, am_s208_95, am_s208_97, am_s208_98, am_s208_101, am_s208_102, am_s208_103, am_s208_105, am_s208_106, am_f114_19, am_f114_20, am_r120 hj, am_r120 hr, am_r121 hj, am_r121 hr, kb, kz, lb, lz, d1, d2, d3, am_le_sub hul hcl hz1, d4, not_true_eq_false, not_false_eq_true, eq_self, am_os_some, Option.toList_some, Option.toList_none, List.cons_append, List.nil_append, if_true, if_false, true_and, am_nw1_i, am_nw1_r, am_nw1_n, cond_true]
                    exact ho
          · rw [if_pos c3]
            refine am_rO_err (k := 5) (r := -1000000005) (by decide) am_ec5.symm fun X q G hc => am_CD_of (M := am_N208) rfl rfl ?_
            have hn : G 115 2 = nI (s.1.1 13 0) := hc.1.1.2.1
            have h1s := hc.2.2.2.2.2.2.2 j hj
            rw [hx] at h1s
            have h2s := hc.2.2.2.2.2.2.2 r hr
            rw [hy] at h2s
            have kb : G 120 j = b1 := h1s.1
            have kz : G 121 j = nI z1 := h1s.2.1
            have lb : G 120 r = b2 := h2s.1
            have lz : G 121 r = nI z2 := h2s.2.1
            show am_Rn _ _ ((Option.some FieldType.int)) am_J208 0 [some (.ref 114), some (.int (nI j)), some (.int i), some (.int (nI r)), some (.int k), some (.int n), none] [] (am_L0 q, G) _
            simp only [am_s208_0, am_s208_1, am_s208_4, am_s208_7, am_s208_8, am_s208_11, am_s208_14, am_s208_15, am_s208_17, am_s208_20, am_s208_21, am_s208_22, am_s208_25, am_s208_26, am_s208_27, am_s208_30, am_s208_31, am_s208_34, am_s208_35, am_s208_36, am_s208_39, am_s208_40, am_s208_42, am_s208_45, am_s208_46, am_s208_47, am_s208_50, am_s208_51, am_s208_52, am_s208_53, am_s208_56, am_s208_57, am_s208_58, am_s208_61, am_s208_62, am_s208_64, am_s208_67, am_cal_ok am_cat_0 am_rcv_f (am_m183 (D := 97) _), h1, h2, am_f114_19, am_r120 hj, am_r120 hr, kb, lb, c1, c2, c3, not_true_eq_false, not_false_eq_true, am_cal_ok am_cat_0 am_v114 (am_d1 (D := 98)), am_cal_ok am_cat_0 am_v114 (am_d2 (D := 98)), am_cal_ok am_cat_0 am_v114 (am_d3 (D := 98)), am_cal_ok am_cat_0 am_v114 (am_d4 (D := 98)), am_cal_ok am_cat_0 am_v114 (am_d5 (D := 98)), am_cal_ok am_cat_0 am_rcv_f (am_y125 _ _), am_cal_ok am_cat_0 am_rcv_f (am_m183 (D := 97) _), am_bI0, am_f114_0, am_er_f, am_sy_f, Bool.false_and, Bool.and_false, reduceCtorEq, not_false_eq_true, not_true_eq_false, eq_self, am_os_some, Option.toList_some, Option.toList_none, List.cons_append, List.nil_append, if_true, if_false, true_and, am_nw1_i, am_nw1_r, am_nw1_n, cond_true]
end AMRS2
