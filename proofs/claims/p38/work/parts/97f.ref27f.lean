/-! THE REFERENCE: traits, judge -/
section AMRS3
variable {X : am_X} {D q : Nat}
theorem am_l209 {j z n : Nat} {b : Int32} {V : Nat → Int32} (hj : j < 4) (hn8 : n ≤ 8) (hz : z ≤ 40) (hv : ∀ i, am_vok b (V i)) : ∀ (d k : Nat) (S : am_S) (G : am_G), k + d = min z n → S 13 0 = n → am_rp (G 115) S → am_rsh G j (b, z, V) → ∃ G' : am_G, am_frs G G' ∧ am_rp (G' 115) (am_trs V d k S).1 ∧ am_Rn X 99 (some .int) am_J209 32 [some (.ref 114), some (.int (nI j)), some (.int (nI k))] [] (am_L0 q, G) (some (.int (nI (am_trs V d k S).2)), (am_L0 q, G')) := by
  intro d
  induction d with
  | zero =>
    intro k S G hk hn h hsh
    have kz : G 121 j = nI z := hsh.2.1
    have k2 : G 115 2 = nI n := by rw [← hn]; exact h.2.1
    refine ⟨G, (am_frw.rf G).s, h, ?_⟩
    unfold am_trs
    by_cases c : k < z
    · have h1 : nI k < nI z := nI_lt c (by omega)
      have h2 : am_ip n (nI k) = false := by
        unfold am_ip
        rw [decide_eq_false (show ¬ nI k < nI n from nI_nlt (by omega) (by omega)), Bool.and_false]
      simp only [am_s209_32, am_s209_33, am_s209_34, am_s209_37, am_s209_38, am_s209_39, am_s209_42, am_s209_43, am_s209_44, am_s209_47, am_s209_50, am_s209_51, am_s209_54, am_s209_56, am_s209_57, am_s209_58, am_s209_59, am_s209_60, am_s209_61, am_s209_62, am_s209_64, am_s209_67, am_s209_93, am_s209_94, am_f114_20, am_r121 hj, kz, h1, am_cal_ok am_cat_0 am_v114 (am_y132 (D := 97) hn8 k2 _), h2, am_bI0, not_true_eq_false, not_false_eq_true, eq_self, am_os_some, Option.toList_some, Option.toList_none, List.cons_append, List.nil_append, if_true, if_false, true_and, am_nw1_i, am_nw1_r, am_nw1_n, cond_true]
    · have h1 : ¬ nI k < nI z := nI_nlt (by omega) (by omega)
      simp only [am_s209_32, am_s209_33, am_s209_34, am_s209_37, am_s209_38, am_s209_39, am_s209_42, am_s209_43, am_s209_44, am_s209_47, am_s209_50, am_s209_51, am_s209_54, am_s209_56, am_s209_57, am_s209_58, am_s209_59, am_s209_60, am_s209_61, am_s209_62, am_s209_64, am_s209_67, am_s209_93, am_s209_94, am_f114_20, am_r121 hj, kz, h1, not_true_eq_false, not_false_eq_true, eq_self, am_os_some, Option.toList_some, Option.toList_none, List.cons_append, List.nil_append, if_true, if_false, true_and, am_nw1_i, am_nw1_r, am_nw1_n, cond_true]
  | succ d ih =>
    intro k S G hk hn h hsh
    have kz : G 121 j = nI z := hsh.2.1
    have k2 : G 115 2 = nI n := by rw [← hn]; exact h.2.1
    have kv := hsh.2.2 k (by omega)
    dsimp only at kv
    have h1 : nI k < nI z := nI_lt (by omega) (by omega)
    have k8 : k < 8 := by omega
    have hi : nI k + 1 = nI (k + 1) := nI_add k 1
    have h2 : am_ip n (nI k) = true := by
      unfold am_ip
      rw [decide_eq_true (show ¬ nI k < 0 from nI_pos (by omega)), decide_eq_true (show nI k < nI n from nI_lt (by omega) (by omega))]
      rfl
    obtain ⟨s1, s2⟩ := am_sgn_wi (M := 15) (hv k) (by decide)
    have g125 := am_m125 (X := X) (D := 98) (w := (am_L0 q, G)) (am_sgn b (V k)) 0 15
    have s1' : (decide (¬ am_sgn b (V k) < 0) && decide (am_sgn b (V k) ≤ 15)) = am_wi (V k) 15 := s1
    rw [s1'] at g125
    unfold am_trs
    cases hw : am_wi (V k) 15 with
    | false =>
      rw [hw] at g125
      rw [if_neg (by decide)]
      refine ⟨G, (am_frw.rf G).s, h, ?_⟩
      simp only [am_s209_32, am_s209_33, am_s209_34, am_s209_37, am_s209_38, am_s209_39, am_s209_42, am_s209_43, am_s209_44, am_s209_47, am_s209_50, am_s209_51, am_s209_54, am_s209_56, am_s209_57, am_s209_58, am_s209_59, am_s209_60, am_s209_61, am_s209_62, am_s209_64, am_s209_67, am_s209_93, am_s209_94, am_f114_20, am_f114_21, am_r121 hj, kz, h1, am_cal_ok am_cat_0 am_v114 (am_y132 (D := 97) hn8 k2 _), h2, am_mul40, nI_add, am_r122 (show 40 * j + k < 160 by omega), kv, am_cal_ok am_cat_0 am_rcv_f (g125), am_bI0, reduceCtorEq, not_true_eq_false, not_false_eq_true, eq_self, am_os_some, Option.toList_some, Option.toList_none, List.cons_append, List.nil_append, if_true, if_false, true_and, am_nw1_i, am_nw1_r, am_nw1_n, cond_true]
    | true =>
      rw [hw] at g125
      rw [if_pos rfl]
      have es := s2 hw
      rw [es] at g125 kv
      obtain ⟨a1, a2⟩ := am_wi_nI (n := 15) (by decide) hw
      have fs : am_frs G (am_up G 115 (7 + 5 * k + 2) (V k)) := am_frs_up _ _ (by omega)
      obtain ⟨G', f, c, g⟩ := ih (k + 1) (am_su S 2 k (V k).toNatClampNeg) (am_up G 115 (7 + 5 * k + 2) (V k)) (by omega) hn (by
        rw [am_up_row, show am_ru (G 115) (7 + 5 * k + 2) (V k) = am_ru (G 115) (7 + 5 * k + 2) (nI (V k).toNatClampNeg) by rw [← a2]]
        exact am_rp_up h (by decide) k8) (am_rsh_fr hsh (fs.1 120 j (by omega) (by decide)) (fs.1 121 j (by omega) (by decide)) fun x _ => fs.1 122 _ (by omega) (by decide))
      refine ⟨G', fs.tr f, c, ?_⟩
      simp only [am_s209_32, am_s209_33, am_s209_34, am_s209_37, am_s209_38, am_s209_39, am_s209_42, am_s209_43, am_s209_44, am_s209_47, am_s209_50, am_s209_51, am_s209_54, am_s209_56, am_s209_57, am_s209_58, am_s209_59, am_s209_60, am_s209_61, am_s209_62, am_s209_64, am_s209_67, am_s209_70, am_s209_71, am_s209_72, am_s209_73, am_s209_74, am_s209_77, am_s209_79, am_s209_80, am_s209_81, am_s209_82, am_s209_83, am_s209_84, am_s209_87, am_f114_20, am_f114_21, am_r121 hj, kz, h1, am_cal_ok am_cat_0 am_v114 (am_y132 (D := 97) hn8 k2 _), h2, am_mul40, nI_add, am_r122 (show 40 * j + k < 160 by omega), kv, am_cal_ok am_cat_0 am_rcv_f (g125), am_bI0, am_cal_ok am_cat_0 am_v114 (am_i131_2 (D := 98) k8), reduceCtorEq, not_true_eq_false, not_false_eq_true, eq_self, am_os_some, Option.toList_some, Option.toList_none, List.cons_append, List.nil_append, if_true, if_false, true_and, am_nw1_i, am_nw1_r, am_nw1_n, cond_true]
      rw [am_s209_90, hi]
      exact g
theorem am_r209 {a : Int32} {s : am_St} (hs : am_oks s) : am_rO 209 [.int a] s (am_O110 a s) := by
  unfold am_O110
  cases h1 : am_wi a 3 with
  | false =>
    rw [if_pos rfl]
    refine am_rO_err (k := 1) (r := -1000000001) (by decide) am_ec1.symm fun X q G hc => am_CD_of (M := am_N209) rfl rfl ?_
    have hn : G 115 2 = nI (s.1.1 13 0) := hc.1.1.2.1
    show am_Rn _ _ ((Option.some FieldType.int)) am_J209 0 [some (.ref 114), some (.int a), none] [] (am_L0 q, G) _
    simp only [am_s209_0, am_s209_1, am_s209_4, am_s209_7, am_s209_8, am_s209_10, am_s209_13, am_s209_14, am_s209_15, am_s209_18, am_s209_19, am_s209_20, am_s209_23, am_s209_24, am_s209_26, am_s209_29, am_cal_ok am_cat_0 am_rcv_f (am_m183 (D := 97) _), h1, am_cal_ok am_cat_0 am_v114 (am_d1 (D := 98)), am_cal_ok am_cat_0 am_v114 (am_d2 (D := 98)), am_cal_ok am_cat_0 am_v114 (am_d3 (D := 98)), am_cal_ok am_cat_0 am_v114 (am_d4 (D := 98)), am_cal_ok am_cat_0 am_v114 (am_d5 (D := 98)), am_cal_ok am_cat_0 am_rcv_f (am_y125 _ _), am_cal_ok am_cat_0 am_rcv_f (am_m183 (D := 97) _), am_bI0, am_f114_0, am_er_f, am_sy_f, Bool.false_and, Bool.and_false, reduceCtorEq, not_false_eq_true, not_true_eq_false, eq_self, am_os_some, Option.toList_some, Option.toList_none, List.cons_append, List.nil_append, if_true, if_false, true_and, am_nw1_i, am_nw1_r, am_nw1_n, cond_true]
  | true =>
    rw [if_neg (by decide)]
    obtain ⟨a1, a2⟩ := am_wi_nI (n := 3) (by decide) h1
    generalize a.toNatClampNeg = j at a1 a2
    subst a2
    have hj : j < 4 := by omega
    have ho := hs.2.2.2 j hj
    rcases hx : s.2.2.2.2.2 j with ⟨b, z, V⟩
    rw [hx] at ho
    obtain ⟨hz, -, hv⟩ := ho
    dsimp only at hz hv ⊢
    by_cases hb : b = 0
    · rw [if_pos hb]
      refine am_rO_err (k := 2) (r := -1000000002) (by decide) am_ec2.symm fun X q G hc => am_CD_of (M := am_N209) rfl rfl ?_
      have hn : G 115 2 = nI (s.1.1 13 0) := hc.1.1.2.1
      have hsh := hc.2.2.2.2.2.2.2 j hj
      rw [hx] at hsh
      have kb : G 120 j = 0 := hsh.1.trans hb
      show am_Rn _ _ ((Option.some FieldType.int)) am_J209 0 [some (.ref 114), some (.int (nI j)), none] [] (am_L0 q, G) _
      simp only [am_s209_0, am_s209_1, am_s209_4, am_s209_7, am_s209_8, am_s209_10, am_s209_13, am_s209_14, am_s209_15, am_s209_18, am_s209_19, am_s209_20, am_s209_23, am_s209_24, am_s209_26, am_s209_29, am_cal_ok am_cat_0 am_rcv_f (am_m183 (D := 97) _), h1, am_f114_19, am_r120 hj, kb, not_true_eq_false, am_cal_ok am_cat_0 am_v114 (am_d1 (D := 98)), am_cal_ok am_cat_0 am_v114 (am_d2 (D := 98)), am_cal_ok am_cat_0 am_v114 (am_d3 (D := 98)), am_cal_ok am_cat_0 am_v114 (am_d4 (D := 98)), am_cal_ok am_cat_0 am_v114 (am_d5 (D := 98)), am_cal_ok am_cat_0 am_rcv_f (am_y125 _ _), am_cal_ok am_cat_0 am_rcv_f (am_m183 (D := 97) _), am_bI0, am_f114_0, am_er_f, am_sy_f, Bool.false_and, Bool.and_false, reduceCtorEq, not_false_eq_true, not_true_eq_false, eq_self, am_os_some, Option.toList_some, Option.toList_none, List.cons_append, List.nil_append, if_true, if_false, true_and, am_nw1_i, am_nw1_r, am_nw1_n, cond_true]
    · rw [if_neg hb]
      intro N xs q G hc
      have hn : G 115 2 = nI (s.1.1 13 0) := hc.1.1.2.1
      have hsh := hc.2.2.2.2.2.2.2 j hj
      rw [hx] at hsh
      have kb : G 120 j = b := hsh.1
      obtain ⟨G', f, c, g⟩ := am_l209 (X := am_X0 N xs) (q := q) hj hs.1.1.1 hz hv (min z (s.1.1 13 0)) 0 s.1.1 G (Nat.zero_add _) rfl hc.1.1 hsh
      refine ⟨G', fun i k hi => f.1 i k (by omega) (by omega), am_rfl_rS hc f c, am_CD_of (M := am_N209) rfl rfl ?_⟩
      show am_Rn _ _ ((Option.some FieldType.int)) am_J209 0 [some (.ref 114), some (.int (nI j)), none] [] (am_L0 q, G) _
      simp only [am_s209_0, am_s209_1, am_s209_4, am_s209_7, am_s209_8, am_s209_10, am_s209_13, am_s209_14, am_s209_15, am_s209_18, am_s209_19, am_s209_20, am_s209_23, am_s209_24, am_s209_26, am_s209_29, am_s209_30, am_s209_31, am_cal_ok am_cat_0 am_rcv_f (am_m183 (D := 97) _), h1, am_f114_19, am_r120 hj, kb, hb, not_false_eq_true, am_cal_ok am_cat_0 am_v114 (am_d1 (D := 98)), am_cal_ok am_cat_0 am_v114 (am_d2 (D := 98)), am_cal_ok am_cat_0 am_v114 (am_d3 (D := 98)), am_cal_ok am_cat_0 am_v114 (am_d4 (D := 98)), am_cal_ok am_cat_0 am_v114 (am_d5 (D := 98)), am_cal_ok am_cat_0 am_rcv_f (am_y125 _ _), am_cal_ok am_cat_0 am_rcv_f (am_m183 (D := 97) _), am_bI0, am_f114_0, am_er_f, am_sy_f, Bool.false_and, Bool.and_false, reduceCtorEq, not_false_eq_true, not_true_eq_false, eq_self, am_os_some, Option.toList_some, Option.toList_none, List.cons_append, List.nil_append, if_true, if_false, true_and, am_nw1_i, am_nw1_r, am_nw1_n, cond_true]
      exact g
/-- judge, by the numbers with their sign -/
def am_O111s (a : Int32) (s : am_St) : Int32 × am_St :=
  if am_wi a 3 = false then am_er 1 s
  else if (s.2.2.2.2.2 a.toNatClampNeg).1 = 0 then am_er 2 s
  else am_sy (if am_jdg s.1.1 (fun i => am_sgn (s.2.2.2.2.2 a.toNatClampNeg).1 ((s.2.2.2.2.2 a.toNatClampNeg).2.2 i)) (min (s.2.2.2.2.2 a.toNatClampNeg).2.1 (s.1.1 13 0)) 0 = s.1.1 13 0 ∧ am_jdg s.1.1 (fun i => am_sgn (s.2.2.2.2.2 a.toNatClampNeg).1 ((s.2.2.2.2.2 a.toNatClampNeg).2.2 i)) (min (s.2.2.2.2.2 a.toNatClampNeg).2.1 (s.1.1 13 0)) 0 = (s.2.2.2.2.2 a.toNatClampNeg).2.1 then -1 else nI (am_jdg s.1.1 (fun i => am_sgn (s.2.2.2.2.2 a.toNatClampNeg).1 ((s.2.2.2.2.2 a.toNatClampNeg).2.2 i)) (min (s.2.2.2.2.2 a.toNatClampNeg).2.1 (s.1.1 13 0)) 0)) s
theorem am_O111s_s (a : Int32) (s : am_St) : (am_O111s a s).2 = (am_O111 a s).2 := by
  unfold am_O111s am_O111
  split
  · rfl
  · split <;> rfl
theorem am_l210 {G : am_G} {S : am_S} {j z : Nat} {b : Int32} {V : Nat → Int32} (hj : j < 4) (hw : am_wf S) (hz : z ≤ 40) (h : am_rp (G 115) S) (hsh : am_rsh G j (b, z, V)) : ∀ (d k : Nat), k + d = min z (S 13 0) → ∀ o, am_Rn X 99 (some .int) am_J210 32 [some (.ref 114), some (.int (nI j)), some (.int (nI k))] [] (am_L0 q, G) o = am_Rn X 99 (some .int) am_J210 78 [some (.ref 114), some (.int (nI j)), some (.int (nI (am_jdg S (fun i => am_sgn b (V i)) d k)))] [] (am_L0 q, G) o := by
  have h8 := hw.1
  have kz : G 121 j = nI z := hsh.2.1
  have k2 : G 115 2 = nI (S 13 0) := h.2.1
  intro d
  induction d with
  | zero =>
    intro k hk o
    unfold am_jdg
    by_cases c : k < S 13 0
    · have h1 : nI k < nI (S 13 0) := nI_lt c (by omega)
      have h2 : ¬ nI k < nI z := nI_nlt (by omega) (by omega)
      simp only [am_s210_32, am_s210_33, am_s210_34, am_s210_37, am_s210_38, am_s210_39, am_s210_42, am_s210_43, am_s210_44, am_s210_47, am_s210_48, am_s210_49, am_f114_0, am_f114_20, am_r115_2, am_r121 hj, kz, k2, h1, h2, not_true_eq_false, not_false_eq_true, eq_self, am_os_some, Option.toList_some, Option.toList_none, List.cons_append, List.nil_append, if_true, if_false, true_and, am_nw1_i, am_nw1_r, am_nw1_n, cond_true]
    · have h1 : ¬ nI k < nI (S 13 0) := nI_nlt (by omega) (by omega)
      simp only [am_s210_32, am_s210_33, am_s210_34, am_s210_37, am_s210_38, am_s210_39, am_s210_42, am_s210_43, am_s210_44, am_s210_47, am_s210_48, am_s210_49, am_f114_0, am_r115_2, k2, h1, not_true_eq_false, not_false_eq_true, eq_self, am_os_some, Option.toList_some, Option.toList_none, List.cons_append, List.nil_append, if_true, if_false, true_and, am_nw1_i, am_nw1_r, am_nw1_n, cond_true]
  | succ d ih =>
    intro k hk o
    have k8 : k < 8 := by omega
    have h1 : nI k < nI (S 13 0) := nI_lt (by omega) (by omega)
    have h2 : nI k < nI z := nI_lt (by omega) (by omega)
    have hi : nI k + 1 = nI (k + 1) := nI_add k 1
    have kv := hsh.2.2 k (by omega)
    have kw := h.2.2.1 k 3 k8 (by decide)
    dsimp only at kv
    unfold am_jdg
    by_cases c : am_sgn b (V k) = nI (S 3 k)
    · rw [if_pos c]
      rw [c] at kv
      simp only [am_s210_32, am_s210_33, am_s210_34, am_s210_37, am_s210_38, am_s210_39, am_s210_42, am_s210_43, am_s210_44, am_s210_47, am_s210_48, am_s210_49, am_s210_52, am_s210_53, am_s210_56, am_s210_58, am_s210_59, am_s210_60, am_s210_61, am_s210_62, am_s210_63, am_s210_64, am_s210_65, am_s210_66, am_s210_69, am_s210_72, am_f114_0, am_f114_20, am_f114_21, am_r115_2, am_r121 hj, kz, k2, h1, h2, am_mul40, nI_add, am_r122 (show 40 * j + k < 160 by omega), kv, am_cal_ok (am_cat_1 _) am_v114 (am_i130_3 (D := 98) k8), kw, not_true_eq_false, not_false_eq_true, eq_self, am_os_some, Option.toList_some, Option.toList_none, List.cons_append, List.nil_append, if_true, if_false, true_and, am_nw1_i, am_nw1_r, am_nw1_n, cond_true]
      rw [am_s210_75, hi]
      exact ih (k + 1) (by omega) o
    · rw [if_neg c]
      simp only [am_s210_32, am_s210_33, am_s210_34, am_s210_37, am_s210_38, am_s210_39, am_s210_42, am_s210_43, am_s210_44, am_s210_47, am_s210_48, am_s210_49, am_s210_52, am_s210_53, am_s210_56, am_s210_58, am_s210_59, am_s210_60, am_s210_61, am_s210_62, am_s210_63, am_s210_64, am_s210_65, am_s210_66, am_s210_69, am_s210_72, am_f114_0, am_f114_20, am_f114_21, am_r115_2, am_r121 hj, kz, k2, h1, h2, am_mul40, nI_add, am_r122 (show 40 * j + k < 160 by omega), kv, am_cal_ok (am_cat_1 _) am_v114 (am_i130_3 (D := 98) k8), kw, c, not_true_eq_false, not_false_eq_true, eq_self, am_os_some, Option.toList_some, Option.toList_none, List.cons_append, List.nil_append, if_true, if_false, true_and, am_nw1_i, am_nw1_r, am_nw1_n, cond_true]
theorem am_r210 {a : Int32} {s : am_St} (hs : am_oks s) : am_rO 210 [.int a] s (am_O111s a s) := by
  unfold am_O111s
  have h8 := hs.1.1.1
  cases h1 : am_wi a 3 with
  | false =>
    rw [if_pos rfl]
    refine am_rO_err (k := 1) (r := -1000000001) (by decide) am_ec1.symm fun X q G hc => am_CD_of (M := am_N210) rfl rfl ?_
    have hn : G 115 2 = nI (s.1.1 13 0) := hc.1.1.2.1
    show am_Rn _ _ ((Option.some FieldType.int)) am_J210 0 [some (.ref 114), some (.int a), none] [] (am_L0 q, G) _
    simp only [am_s210_0, am_s210_1, am_s210_4, am_s210_7, am_s210_8, am_s210_10, am_s210_13, am_s210_14, am_s210_15, am_s210_18, am_s210_19, am_s210_20, am_s210_23, am_s210_24, am_s210_26, am_s210_29, am_cal_ok am_cat_0 am_rcv_f (am_m183 (D := 97) _), h1, am_cal_ok am_cat_0 am_v114 (am_d1 (D := 98)), am_cal_ok am_cat_0 am_v114 (am_d2 (D := 98)), am_cal_ok am_cat_0 am_v114 (am_d3 (D := 98)), am_cal_ok am_cat_0 am_v114 (am_d4 (D := 98)), am_cal_ok am_cat_0 am_v114 (am_d5 (D := 98)), am_cal_ok am_cat_0 am_rcv_f (am_y125 _ _), am_cal_ok am_cat_0 am_rcv_f (am_m183 (D := 97) _), am_bI0, am_f114_0, am_er_f, am_sy_f, Bool.false_and, Bool.and_false, reduceCtorEq, not_false_eq_true, not_true_eq_false, eq_self, am_os_some, Option.toList_some, Option.toList_none, List.cons_append, List.nil_append, if_true, if_false, true_and, am_nw1_i, am_nw1_r, am_nw1_n, cond_true]
  | true =>
    rw [if_neg (by decide)]
    obtain ⟨a1, a2⟩ := am_wi_nI (n := 3) (by decide) h1
    generalize a.toNatClampNeg = j at a1 a2
    subst a2
    have hj : j < 4 := by omega
    have ho := hs.2.2.2 j hj
    rcases hx : s.2.2.2.2.2 j with ⟨b, z, V⟩
    rw [hx] at ho
    obtain ⟨hz, -, -⟩ := ho
    dsimp only at hz ⊢
    by_cases hb : b = 0
    · rw [if_pos hb]
      refine am_rO_err (k := 2) (r := -1000000002) (by decide) am_ec2.symm fun X q G hc => am_CD_of (M := am_N210) rfl rfl ?_
      have hn : G 115 2 = nI (s.1.1 13 0) := hc.1.1.2.1
      have hsh := hc.2.2.2.2.2.2.2 j hj
      rw [hx] at hsh
      have kb : G 120 j = 0 := hsh.1.trans hb
      show am_Rn _ _ ((Option.some FieldType.int)) am_J210 0 [some (.ref 114), some (.int (nI j)), none] [] (am_L0 q, G) _
      simp only [am_s210_0, am_s210_1, am_s210_4, am_s210_7, am_s210_8, am_s210_10, am_s210_13, am_s210_14, am_s210_15, am_s210_18, am_s210_19, am_s210_20, am_s210_23, am_s210_24, am_s210_26, am_s210_29, am_cal_ok am_cat_0 am_rcv_f (am_m183 (D := 97) _), h1, am_f114_19, am_r120 hj, kb, not_true_eq_false, am_cal_ok am_cat_0 am_v114 (am_d1 (D := 98)), am_cal_ok am_cat_0 am_v114 (am_d2 (D := 98)), am_cal_ok am_cat_0 am_v114 (am_d3 (D := 98)), am_cal_ok am_cat_0 am_v114 (am_d4 (D := 98)), am_cal_ok am_cat_0 am_v114 (am_d5 (D := 98)), am_cal_ok am_cat_0 am_rcv_f (am_y125 _ _), am_cal_ok am_cat_0 am_rcv_f (am_m183 (D := 97) _), am_bI0, am_f114_0, am_er_f, am_sy_f, Bool.false_and, Bool.and_false, reduceCtorEq, not_false_eq_true, not_true_eq_false, eq_self, am_os_some, Option.toList_some, Option.toList_none, List.cons_append, List.nil_append, if_true, if_false, true_and, am_nw1_i, am_nw1_r, am_nw1_n, cond_true]
    · rw [if_neg hb]
      refine am_rO_same fun N xs q G hc => ?_
      have hn : G 115 2 = nI (s.1.1 13 0) := hc.1.1.2.1
      have hsh := hc.2.2.2.2.2.2.2 j hj
      rw [hx] at hsh
      have kb : G 120 j = b := hsh.1
      have kz : G 121 j = nI z := hsh.2.1
      have g := am_l210 (X := am_X0 N xs) (q := q) hj hs.1.1 hz hc.1.1 hsh (min z (s.1.1 13 0)) 0 (Nat.zero_add _)
      have hle := am_jdg_le (S := s.1.1) (V := fun i => am_sgn b (V i)) (min z (s.1.1 13 0)) 0
      rw [nI_0] at g
      generalize am_jdg s.1.1 (fun i => am_sgn b (V i)) (min z (s.1.1 13 0)) 0 = e at *
      refine ⟨G, fun _ _ _ => rfl, fun _ _ _ _ _ _ _ _ => rfl, am_CD_of (M := am_N210) rfl rfl ?_⟩
      show am_Rn _ _ ((Option.some FieldType.int)) am_J210 0 [some (.ref 114), some (.int (nI j)), none] [] (am_L0 q, G) _
      simp only [am_s210_0, am_s210_1, am_s210_4, am_s210_7, am_s210_8, am_s210_10, am_s210_13, am_s210_14, am_s210_15, am_s210_18, am_s210_19, am_s210_20, am_s210_23, am_s210_24, am_s210_26, am_s210_29, am_s210_30, am_s210_31, am_cal_ok am_cat_0 am_rcv_f (am_m183 (D := 97) _), h1, am_f114_19, am_r120 hj, kb, hb, not_false_eq_true, am_cal_ok am_cat_0 am_v114 (am_d1 (D := 98)), am_cal_ok am_cat_0 am_v114 (am_d2 (D := 98)), am_cal_ok am_cat_0 am_v114 (am_d3 (D := 98)), am_cal_ok am_cat_0 am_v114 (am_d4 (D := 98)), am_cal_ok am_cat_0 am_v114 (am_d5 (D := 98)), am_cal_ok am_cat_0 am_rcv_f (am_y125 _ _), am_cal_ok am_cat_0 am_rcv_f (am_m183 (D := 97) _), am_bI0, am_f114_0, am_er_f, am_sy_f, Bool.false_and, Bool.and_false, reduceCtorEq, not_false_eq_true, not_true_eq_false, eq_self, am_os_some, Option.toList_some, Option.toList_none, List.cons_append, List.nil_append, if_true, if_false, true_and, am_nw1_i, am_nw1_r, am_nw1_n, cond_true]
      refine (g _).mpr ?_
      have eqn : (nI e = nI (s.1.1 13 0)) = (e = s.1.1 13 0) := propext (nI_eq (by omega) (by omega))
      have eqz : (nI e = nI z) = (e = z) := propext (nI_eq (by omega) (by omega))
      by_cases d1 : e = s.1.1 13 0
      · by_cases d2 : e = z
        · rw [if_pos ⟨d1, d2⟩]
          have p1 : (nI e = nI (s.1.1 13 0)) = True := eqn.trans (eq_true d1)
          have p2 : (nI e = nI z) = True := eqz.trans (eq_true d2)
          simp only [am_s210_78, am_s210_79, am_s210_80, am_s210_83, am_s210_84, am_s210_85, am_s210_88, am_s210_89, am_s210_90, am_s210_93, am_s210_94, am_s210_95, am_s210_98, am_s210_99, am_s210_102, am_s210_103, am_f114_0, am_f114_20, am_r115_2, am_r121 hj, hn, kz, p1, p2, not_true_eq_false, not_false_eq_true, am_cal_ok am_cat_0 am_v114 (am_d1 (D := 98)), am_cal_ok am_cat_0 am_v114 (am_d2 (D := 98)), am_cal_ok am_cat_0 am_v114 (am_d3 (D := 98)), am_cal_ok am_cat_0 am_v114 (am_d4 (D := 98)), am_cal_ok am_cat_0 am_v114 (am_d5 (D := 98)), am_cal_ok am_cat_0 am_rcv_f (am_y125 _ _), am_cal_ok am_cat_0 am_rcv_f (am_m183 (D := 97) _), am_bI0, am_f114_0, am_er_f, am_sy_f, Bool.false_and, Bool.and_false, reduceCtorEq, not_false_eq_true, not_true_eq_false, eq_self, am_os_some, Option.toList_some, Option.toList_none, List.cons_append, List.nil_append, if_true, if_false, true_and, am_nw1_i, am_nw1_r, am_nw1_n, cond_true]
        · rw [if_neg (fun hh => d2 hh.2)]
          have p1 : (nI e = nI (s.1.1 13 0)) = True := eqn.trans (eq_true d1)
          have p2 : (nI e = nI z) = False := eqz.trans (eq_false d2)
          simp only [am_s210_78, am_s210_79, am_s210_80, am_s210_83, am_s210_84, am_s210_85, am_s210_88, am_s210_89, am_s210_90, am_s210_93, am_s210_94, am_s210_95, am_s210_98, am_s210_99, am_s210_102, am_s210_103, am_f114_0, am_f114_20, am_r115_2, am_r121 hj, hn, kz, p1, p2, not_true_eq_false, not_false_eq_true, am_cal_ok am_cat_0 am_v114 (am_d1 (D := 98)), am_cal_ok am_cat_0 am_v114 (am_d2 (D := 98)), am_cal_ok am_cat_0 am_v114 (am_d3 (D := 98)), am_cal_ok am_cat_0 am_v114 (am_d4 (D := 98)), am_cal_ok am_cat_0 am_v114 (am_d5 (D := 98)), am_cal_ok am_cat_0 am_rcv_f (am_y125 _ _), am_cal_ok am_cat_0 am_rcv_f (am_m183 (D := 97) _), am_bI0, am_f114_0, am_er_f, am_sy_f, Bool.false_and, Bool.and_false, reduceCtorEq, not_false_eq_true, not_true_eq_false, eq_self, am_os_some, Option.toList_some, Option.toList_none, List.cons_append, List.nil_append, if_true, if_false, true_and, am_nw1_i, am_nw1_r, am_nw1_n, cond_true]
      · rw [if_neg (fun hh => d1 hh.1)]
        simp only [am_s210_78, am_s210_79, am_s210_80, am_s210_83, am_s210_84, am_s210_85, am_s210_88, am_s210_89, am_s210_90, am_s210_93, am_s210_94, am_s210_95, am_s210_98, am_s210_99, am_s210_102, am_s210_103, am_f114_0, am_f114_20, am_r115_2, am_r121 hj, hn, kz, eqn, eqz, d1, not_true_eq_false, not_false_eq_true, am_cal_ok am_cat_0 am_v114 (am_d1 (D := 98)), am_cal_ok am_cat_0 am_v114 (am_d2 (D := 98)), am_cal_ok am_cat_0 am_v114 (am_d3 (D := 98)), am_cal_ok am_cat_0 am_v114 (am_d4 (D := 98)), am_cal_ok am_cat_0 am_v114 (am_d5 (D := 98)), am_cal_ok am_cat_0 am_rcv_f (am_y125 _ _), am_cal_ok am_cat_0 am_rcv_f (am_m183 (D := 97) _), am_bI0, am_f114_0, am_er_f, am_sy_f, Bool.false_and, Bool.and_false, reduceCtorEq, not_false_eq_true, not_true_eq_false, eq_self, am_os_some, Option.toList_some, Option.toList_none, List.cons_append, List.nil_append, if_true, if_false, true_and, am_nw1_i, am_nw1_r, am_nw1_n, cond_true]
end AMRS3
