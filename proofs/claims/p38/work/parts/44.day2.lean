/-! a DAY in the class: one goes, one drinks, all, n DAYS -/
theorem am_sub_le {a b : Nat} (h : a ≤ b) (hb : b < 2 ^ 31) : nI a - nI b ≤ 0 := by
  have e0 : (0 : Int32).toInt = 0 := by decide +kernel
  rw [Int32.le_iff_toInt_le, e0, Int32.toInt_sub, nI_toInt (by omega), nI_toInt (by omega), Int.bmod_def]
  split <;> omega
section AMDB
variable {X : am_X} {D q a : Nat} {S : am_S} {T U : am_T}
theorem am_m31 {G : am_G} (ha : am_ist a) (hS : am_cp a G S) (hw : am_wf S) (hT : am_cw 2 0 G T) (ht : am_wt T) (hU : am_cw 6 1 G U) (hu : am_wt U) (hd : S 13 1 < 2 ^ 31) {h p : Nat} {wh : Int32} (hh : ∀ k, k < 8 → (nI k = wh ↔ k = h)) (hp : p < S 13 0) : ∃ G' : am_G, (∀ i j, am_out a i → i ≠ 5 → i ≠ 9 → G' i j = G i j) ∧ am_cp a G' (am_g1 T U h S p) ∧ am_CD X (D + 5) 31 [.ref a, .int (nI p), .int wh] (am_L0 q, G) = some (none, (am_L0 q, G')) := by
  have hb := am_ist_p ha
  have h8 := hw.1
  have hp8 : p < 8 := by omega
  have hlo : ∀ i, i < 10 → am_out a i := fun i hi => by unfold am_out; rcases ha with rfl | rfl | rfl <;> omega
  have h10 : 10 ≤ a := by rcases ha with rfl | rfl | rfl <;> decide
  obtain ⟨G1, f1, g1⟩ := am_m26 (X := X) (D := D) (q := q) ha hS hT ht hd hp8
  have hS1 : am_cp a G1 S := am_cp_fr hS fun i j h1 h2 => f1 i j (by omega)
  unfold am_g1
  cases hg : am_gv T S p with
  | true =>
    rw [hg] at g1
    obtain ⟨-, -, -, kw, -⟩ := hS1.1 p hp8
    obtain ⟨b0, b1, -, b3, -⟩ := hw.2.1 p hp8
    have hf := am_fi_le b0 b1
    have h1 : nI (S 3 p) + nI (am_fil (S 0 p) (S 1 p)) = nI (S 3 p + am_fil (S 0 p) (S 1 p)) := nI_add _ _
    have hm : (if nI (S 3 p + am_fil (S 0 p) (S 1 p)) < 999 then nI (S 3 p + am_fil (S 0 p) (S 1 p)) else 999) = nI (min 999 (S 3 p + am_fil (S 0 p) (S 1 p))) := am_min (a := 999) (by decide) (by omega)
    refine ⟨am_up G1 (a + 4) p (nI (min 999 (S 3 p + am_fil (S 0 p) (S 1 p)))), fun i j h1 h2 h3 => ?_, ?_, ?_⟩
    · rw [am_up_get, if_neg (by unfold am_out at h1; omega)]
      exact f1 i j h2
    · rw [if_pos rfl]
      exact am_cp_up (f := 3) hS1 (by decide) hp8
    · refine am_CD_of (M := am_N31) rfl rfl ?_
      show am_Rn _ _ none am_J31 0 [some (.ref a), some (.int (nI p)), some (.int wh), none] [] (am_L0 q, G) _
      have e10 : ((1 : Int32) = 0) = False := by decide
      simp only [am_s31_0, am_s31_1, am_s31_2, am_s31_5, am_s31_8, am_s31_9, am_s31_12, am_s31_13, am_s31_16, am_s31_17, am_s31_20, am_s31_21, am_s31_22, am_s31_23, am_s31_24, am_s31_27, am_s31_28, am_s31_31, am_s31_32, am_cal_ok am_cat_0 (am_va hb) (g1), am_bI, e10, am_fa_5 hb, am_ap_4 hb hp8, am_tp_4 hb hp8, kw, am_cal_ok (am_cat_4 _ _ _ _) (am_va hb) (am_m24 (X := X) (D := D + 2) (q := q) hb hS1 hw hp8), h1, hm, am_cat_2, eq_self, am_os_some, Option.toList_some, Option.toList_none, List.cons_append, List.nil_append, if_true, if_false, true_and, am_nw1_i, am_nw1_r, am_nw1_n, cond_true]
  | false =>
    rw [hg] at g1
    have hU1 : am_cw 6 1 G1 U := am_cw_fr hU fun i j h1 h2 => f1 i j (by omega)
    obtain ⟨G2, f2, g2⟩ := am_m32 (X := X) (D := D) (q := q) ha hS1 hU1 hu hw hh hp8
    have hS2 : am_cp a G2 S := am_cp_fr hS1 fun i j h1 h2 => f2 i j (by omega)
    have f12 : ∀ i j, i ≠ 5 → i ≠ 9 → G2 i j = G i j := fun i j h1 h2 => by rw [f2 i j h2, f1 i j h1]
    have e01 : ((false : Bool) = true) = False := by simp
    unfold am_bg
    cases hl : am_lb U h S p (S 13 0) with
    | none =>
      rw [hl] at g2
      refine ⟨G2, fun i j _ h2 h3 => f12 i j h2 h3, ?_, ?_⟩
      · simp only [e01, if_false]
        exact hS2
      · have em : ((-1 : Int32) < 0) = True := by decide
        refine am_CD_of (M := am_N31) rfl rfl ?_
        show am_Rn _ _ none am_J31 0 [some (.ref a), some (.int (nI p)), some (.int wh), none] [] (am_L0 q, G) _
        simp only [am_s31_0, am_s31_1, am_s31_2, am_s31_5, am_s31_33, am_s31_34, am_s31_35, am_s31_36, am_s31_39, am_s31_40, am_s31_41, am_s31_44, am_cal_ok am_cat_0 (am_va hb) (g1), am_bI, e01, am_cal_ok am_cat_0 (am_va hb) (g2), am_oi, em, eq_self, am_os_some, Option.toList_some, Option.toList_none, List.cons_append, List.nil_append, if_true, if_false, true_and, am_nw1_i, am_nw1_r, am_nw1_n, cond_true]
    | some j =>
      rw [hl] at g2
      obtain ⟨j1, j2, -, j4⟩ := am_lb_lt hl
      have hj8 : j < 8 := by omega
      have hwj := (hw.2.1 j hj8).2.2.2.1
      have hwp := (hw.2.1 p hp8).2.2.2.1
      have hdb := hw.2.2.1 p j hp8 hj8
      obtain ⟨-, -, -, kwj, -⟩ := hS2.1 j hj8
      have s1 : nI (S 3 j) - 1 = nI (S 3 j - 1) := am_sub (b := 1) (by omega)
      have hS3 : am_cp a (am_up G2 (a + 4) j (nI (S 3 j - 1))) (am_su S 3 j (S 3 j - 1)) := am_cp_up (f := 3) hS2 (by decide) hj8
      obtain ⟨-, -, -, kwp, -⟩ := hS3.1 p hp8
      have e3p : am_su S 3 j (S 3 j - 1) 3 p = S 3 p := by rw [am_su_get, if_pos rfl, if_neg (by omega)]
      rw [e3p] at kwp
      have s2 : nI (S 3 p) + 1 = nI (S 3 p + 1) := nI_add _ 1
      have hm : (if nI (S 3 p + 1) < 999 then nI (S 3 p + 1) else 999) = nI (min 999 (S 3 p + 1)) := am_min (a := 999) (by decide) (by omega)
      have hS4 : am_cp a (am_up (am_up G2 (a + 4) j (nI (S 3 j - 1))) (a + 4) p (nI (min 999 (S 3 p + 1)))) (am_su (am_su S 3 j (S 3 j - 1)) 3 p (min 999 (S 3 p + 1))) := am_cp_up (f := 3) hS3 (by decide) hp8
      have ed : am_su (am_su S 3 j (S 3 j - 1)) 3 p (min 999 (S 3 p + 1)) (5 + p) j = S (5 + p) j := by
        rw [am_su_get, if_neg (by omega), am_su_get, if_neg (by omega)]
      have g3 := am_m3 (X := X) (D := D + 3) (q := q) hb hS4 hp8 hj8 (by rw [ed]; exact hdb)
      have hS5 := am_cp_upd (v := min 99 (S (5 + p) j + 1)) hS4 hp8 hj8
      rw [ed] at g3
      refine ⟨am_up (am_up (am_up G2 (a + 4) j (nI (S 3 j - 1))) (a + 4) p (nI (min 999 (S 3 p + 1)))) (a + 8 + p) j (nI (min 99 (S (5 + p) j + 1))), fun i k h1 h2 h3 => ?_, ?_, ?_⟩
      · unfold am_out at h1
        rw [am_up_get, if_neg (by omega), am_up_get, if_neg (by omega), am_up_get, if_neg (by omega)]
        exact f12 i k h2 h3
      · simp only [e01, if_false]
        exact hS5
      · have e5 : ¬ nI j < 0 := nI_pos (by omega)
        refine am_CD_of (M := am_N31) rfl rfl ?_
        show am_Rn _ _ none am_J31 0 [some (.ref a), some (.int (nI p)), some (.int wh), none] [] (am_L0 q, G) _
        simp only [am_s31_0, am_s31_1, am_s31_2, am_s31_5, am_s31_33, am_s31_34, am_s31_35, am_s31_36, am_s31_39, am_s31_40, am_s31_41, am_s31_44, am_s31_45, am_s31_46, am_s31_49, am_s31_50, am_s31_51, am_s31_52, am_s31_53, am_s31_54, am_s31_55, am_s31_56, am_s31_59, am_s31_60, am_s31_63, am_s31_64, am_s31_67, am_s31_68, am_s31_69, am_s31_70, am_s31_71, am_s31_74, am_s31_75, am_s31_76, am_s31_79, am_s31_80, am_s31_81, am_s31_84, am_cal_ok am_cat_0 (am_va hb) (g1), am_bI, e01, am_cal_ok am_cat_0 (am_va hb) (g2), am_oi, e5, am_fa_5 hb, am_fa_7 hb, am_ap_4 hb hj8, am_ap_4 hb hp8, am_tp_4 hb hj8, am_tp_4 hb hp8, kwj, kwp, s1, s2, hm, am_cat_2, am_cal_ok am_cat_0 (am_vd hb) g3, eq_self, am_os_some, Option.toList_some, Option.toList_none, List.cons_append, List.nil_append, if_true, if_false, true_and, am_nw1_i, am_nw1_r, am_nw1_n, cond_true]
theorem am_m33 {G : am_G} (hb : am_ispe a) (hS : am_cp a G S) (hw : am_wf S) {p : Nat} (hp : p < 8) : ∃ G' : am_G, (∀ i j, am_out a i → G' i j = G i j) ∧ am_cp a G' (am_dr1 S p) ∧ am_CD X (D + 3) 33 [.ref a, .int (nI p)] (am_L0 q, G) = some (none, (am_L0 q, G')) := by
  obtain ⟨-, -, -, kw, kt⟩ := hS.1 p hp
  obtain ⟨b0, b1, -, b3, b4⟩ := hw.2.1 p hp
  have hdr : am_dr (S 0 p) ≤ 3 := by
    unfold am_dr
    repeat' split
    all_goals omega
  unfold am_dr1
  by_cases c : S 3 p < am_dr (S 0 p)
  · rw [if_pos c]
    have s1 : nI (am_dr (S 0 p)) - nI (S 3 p) = nI (am_dr (S 0 p) - S 3 p) := am_sub (by omega)
    have e1 : ¬ nI (am_dr (S 0 p) - S 3 p) ≤ 0 := nI_nle (by omega) (by omega)
    have hS1 : am_cp a (am_up G (a + 4) p (nI 0)) (am_su S 3 p 0) := am_cp_up (f := 3) hS (by decide) hp
    obtain ⟨-, -, -, -, kt1⟩ := hS1.1 p hp
    have e4 : am_su S 3 p 0 4 p = S 4 p := by rw [am_su_get, if_neg (by decide)]
    rw [e4] at kt1
    have s2 : nI (S 4 p) + nI (am_dr (S 0 p) - S 3 p) = nI (S 4 p + (am_dr (S 0 p) - S 3 p)) := nI_add _ _
    have hm : (if nI (S 4 p + (am_dr (S 0 p) - S 3 p)) < 99 then nI (S 4 p + (am_dr (S 0 p) - S 3 p)) else 99) = nI (min 99 (S 4 p + (am_dr (S 0 p) - S 3 p))) := am_min (a := 99) (by decide) (by omega)
    refine ⟨am_up (am_up G (a + 4) p (nI 0)) (a + 5) p (nI (min 99 (S 4 p + (am_dr (S 0 p) - S 3 p)))), fun i j h1 => ?_, am_cp_up (f := 4) hS1 (by decide) hp, ?_⟩
    · unfold am_out at h1
      rw [am_up_get, if_neg (by omega), am_up_get, if_neg (by omega)]
    · refine am_CD_of (M := am_N33) rfl rfl ?_
      show am_Rn _ _ none am_J33 0 [some (.ref a), some (.int (nI p)), none] [] (am_L0 q, G) _
      have z0 : (0 : Int32) = nI 0 := rfl
      simp only [am_s33_0, am_s33_1, am_s33_2, am_s33_5, am_s33_6, am_s33_9, am_s33_10, am_s33_11, am_s33_12, am_s33_13, am_s33_14, am_s33_17, am_s33_18, am_s33_21, am_s33_22, am_s33_23, am_s33_24, am_s33_25, am_s33_28, am_s33_29, am_s33_31, am_s33_32, am_s33_35, am_s33_36, am_s33_37, am_s33_38, am_s33_39, am_s33_42, am_s33_43, am_s33_61, am_cal_ok am_cat_0 (am_va hb) (am_m25 (X := X) (D := D) (q := q) hb hS hw hp), am_fa_5 hb, am_fa_6 hb, am_ap_4 hb hp, am_tp_4 hb hp, am_tp_5 hb hp, kw, s1, e1, nI_0, am_cat_2, eq_self, am_os_some, Option.toList_some, Option.toList_none, List.cons_append, List.nil_append, if_true, if_false, true_and, am_nw1_i, am_nw1_r, am_nw1_n, cond_true]
      rw [nI_0] at kt1
      simp only [am_ap_5 hb hp, kt1, s2, hm, am_tp_5 hb hp, am_cat_2, eq_self, am_os_some, Option.toList_some, Option.toList_none, List.cons_append, List.nil_append, if_true, if_false, true_and, am_nw1_i, am_nw1_r, am_nw1_n, cond_true, am_s33_42, am_s33_43, am_s33_61]
  · rw [if_neg c]
    have s1 : -(nI (am_dr (S 0 p)) - nI (S 3 p)) = nI (S 3 p - am_dr (S 0 p)) := by rw [Int32.neg_sub]; exact am_sub (by omega)
    have e1 : nI (am_dr (S 0 p)) - nI (S 3 p) ≤ 0 := am_sub_le (by omega) (by omega)
    have hS1 : am_cp a (am_up G (a + 4) p (nI (S 3 p - am_dr (S 0 p)))) (am_su S 3 p (S 3 p - am_dr (S 0 p))) := am_cp_up (f := 3) hS (by decide) hp
    have hS2 := am_cp_up (f := 4) (v := 0) hS1 (by decide) hp
    refine ⟨_, fun i j h1 => ?_, hS2, ?_⟩
    · unfold am_out at h1
      rw [am_up_get, if_neg (by omega), am_up_get, if_neg (by omega)]
    · refine am_CD_of (M := am_N33) rfl rfl ?_
      show am_Rn _ _ none am_J33 0 [some (.ref a), some (.int (nI p)), none] [] (am_L0 q, G) _
      simp only [am_s33_0, am_s33_1, am_s33_2, am_s33_5, am_s33_6, am_s33_9, am_s33_10, am_s33_11, am_s33_12, am_s33_13, am_s33_14, am_s33_46, am_s33_47, am_s33_50, am_s33_51, am_s33_52, am_s33_53, am_s33_54, am_s33_55, am_s33_58, am_s33_59, am_s33_60, am_s33_61, am_cal_ok am_cat_0 (am_va hb) (am_m25 (X := X) (D := D) (q := q) hb hS hw hp), am_fa_5 hb, am_fa_6 hb, am_ap_4 hb hp, am_tp_4 hb hp, am_tp_5 hb hp, kw, s1, e1, nI_0, eq_self, am_os_some, Option.toList_some, Option.toList_none, List.cons_append, List.nil_append, if_true, if_false, true_and, am_nw1_i, am_nw1_r, am_nw1_n, cond_true]
theorem am_l30g (ha : am_ist a) (hw : am_wf S) (ht : am_wt T) (hu : am_wt U) (hd : S 13 1 < 2 ^ 31) {h : Nat} {wh n i : Int32} (hh : ∀ k, k < 8 → (nI k = wh ↔ k = h)) : ∀ (d k : Nat) (G : am_G), k + d = S 13 0 → am_cp a G (am_goes T U h S k) → am_cw 2 0 G T → am_cw 6 1 G U → ∃ G' : am_G, (∀ i j, am_out a i → i ≠ 5 → i ≠ 9 → G' i j = G i j) ∧ am_cp a G' (am_goes T U h S (S 13 0)) ∧ ∀ o, am_Rn X (D + 5) none am_J30 10 [some (.ref a), some (.int n), some (.int wh), some (.int i), some (.int (nI k))] [] (am_L0 q, G) o = am_Rn X (D + 5) none am_J30 32 [some (.ref a), some (.int n), some (.int wh), some (.int i), some (.int (nI (S 13 0)))] [] (am_L0 q, G') o := by
  have hb := am_ist_p ha
  have h10 : ∀ i, i < 10 → am_out a i := fun i hi => by unfold am_out; rcases ha with rfl | rfl | rfl <;> omega
  have h8 := hw.1
  intro d
  induction d with
  | zero =>
    intro k G hk hS _ _
    obtain rfl : k = S 13 0 := by omega
    have h1 : ¬ nI (S 13 0) < nI (S 13 0) := Int32.lt_irrefl
    have hz := hS.2.2.1
    rw [(am_wf_goes (T := T) (U := U) (h := h) hw (S 13 0) (Nat.le_refl _)).2] at hz
    refine ⟨G, fun _ _ _ _ _ => rfl, hS, fun o => ?_⟩
    simp only [am_s30_10, am_s30_12, am_s30_13, am_s30_16, am_fa_8 hb, hz, h1, eq_self, am_os_some, Option.toList_some, Option.toList_none, List.cons_append, List.nil_append, if_true, if_false, true_and, am_nw1_i, am_nw1_r, am_nw1_n, cond_true]
  | succ d ih =>
    intro k G hk hS hT hU
    have h1 : nI k < nI (S 13 0) := nI_lt (by omega) (by omega)
    have hi : nI k + 1 = nI (k + 1) := nI_add k 1
    have hz := hS.2.2.1
    have hwk := am_wf_goes (T := T) (U := U) (h := h) hw k (by omega)
    rw [hwk.2] at hz
    obtain ⟨G1, f1, c1, g1⟩ := am_m31 (X := X) (D := D) (q := q) (p := k) ha hS hwk.1 hT ht hU hu (by rw [hwk.2]; exact hd) hh (by rw [hwk.2]; omega)
    obtain ⟨G', f2, c2, g2⟩ := ih (k + 1) G1 (by omega) c1 (am_cw_fr hT fun i j a1 a2 => f1 i j (h10 i (by omega)) (by omega) (by omega)) (am_cw_fr hU fun i j a1 a2 => f1 i j (h10 i (by omega)) (by omega) (by omega))
    refine ⟨G', fun i j a1 a2 a3 => by rw [f2 i j a1 a2 a3, f1 i j a1 a2 a3], c2, fun o => ?_⟩
    simp only [am_s30_10, am_s30_12, am_s30_13, am_s30_16, am_s30_19, am_s30_20, am_s30_22, am_s30_23, am_s30_26, am_fa_8 hb, hz, h1, am_cal_ok am_cat_0 (am_va hb) (g1), eq_self, am_os_some, Option.toList_some, Option.toList_none, List.cons_append, List.nil_append, if_true, if_false, true_and, am_nw1_i, am_nw1_r, am_nw1_n, cond_true]
    rw [am_s30_29, hi]
    exact g2 o
theorem am_l30d (hb : am_ispe a) (hw : am_wf S) {wh n i : Int32} : ∀ (d k : Nat) (G : am_G), k + d = S 13 0 → am_cp a G (am_dk S k) → ∃ G' : am_G, (∀ i j, am_out a i → G' i j = G i j) ∧ am_cp a G' (am_dk S (S 13 0)) ∧ ∀ o, am_Rn X (D + 3) none am_J30 35 [some (.ref a), some (.int n), some (.int wh), some (.int i), some (.int (nI k))] [] (am_L0 q, G) o = am_Rn X (D + 3) none am_J30 56 [some (.ref a), some (.int n), some (.int wh), some (.int i), some (.int (nI (S 13 0)))] [] (am_L0 q, G') o := by
  have h8 := hw.1
  intro d
  induction d with
  | zero =>
    intro k G hk hS
    obtain rfl : k = S 13 0 := by omega
    have h1 : ¬ nI (S 13 0) < nI (S 13 0) := Int32.lt_irrefl
    have hz := hS.2.2.1
    rw [(am_wf_dk hw (S 13 0) (Nat.le_refl _)).2] at hz
    refine ⟨G, fun _ _ _ => rfl, hS, fun o => ?_⟩
    simp only [am_s30_35, am_s30_37, am_s30_38, am_s30_41, am_fa_8 hb, hz, h1, eq_self, am_os_some, Option.toList_some, Option.toList_none, List.cons_append, List.nil_append, if_true, if_false, true_and, am_nw1_i, am_nw1_r, am_nw1_n, cond_true]
  | succ d ih =>
    intro k G hk hS
    have h1 : nI k < nI (S 13 0) := nI_lt (by omega) (by omega)
    have hi : nI k + 1 = nI (k + 1) := nI_add k 1
    have hz := hS.2.2.1
    have hwk := am_wf_dk hw k (by omega)
    rw [hwk.2] at hz
    obtain ⟨G1, f1, c1, g1⟩ := am_m33 (X := X) (D := D) (q := q) (p := k) hb hS hwk.1 (by omega)
    obtain ⟨G', f2, c2, g2⟩ := ih (k + 1) G1 (by omega) c1
    refine ⟨G', fun i j a1 => by rw [f2 i j a1, f1 i j a1], c2, fun o => ?_⟩
    simp only [am_s30_35, am_s30_37, am_s30_38, am_s30_41, am_s30_44, am_s30_45, am_s30_47, am_s30_50, am_fa_8 hb, hz, h1, am_cal_ok am_cat_0 (am_va hb) (g1), eq_self, am_os_some, Option.toList_some, Option.toList_none, List.cons_append, List.nil_append, if_true, if_false, true_and, am_nw1_i, am_nw1_r, am_nw1_n, cond_true]
    rw [am_s30_53, hi]
    exact g2 o
theorem am_l30 (ha : am_ist a) (hw : am_wf S) (ht : am_wt T) (hu : am_wt U) {h n : Nat} {wh : Int32} (hd : S 13 1 + n < 2 ^ 30) (hh : ∀ k, k < 8 → (nI k = wh ↔ k = h)) : ∀ (d k : Nat) (G : am_G) (z : Option Value), k + d = n → am_cp a G (am_days T U h S k) → am_cw 2 0 G T → am_cw 6 1 G U → ∃ G' : am_G, (∀ i j, am_out a i → i ≠ 5 → i ≠ 9 → G' i j = G i j) ∧ am_cp a G' (am_days T U h S n) ∧ am_Rn X (D + 5) none am_J30 2 [some (.ref a), some (.int (nI n)), some (.int wh), some (.int (nI k)), z] [] (am_L0 q, G) (none, (am_L0 q, G')) := by
  have hb := am_ist_p ha
  have h10 : ∀ i, i < 10 → am_out a i := fun i hi => by unfold am_out; rcases ha with rfl | rfl | rfl <;> omega
  intro d
  induction d with
  | zero =>
    intro k G z hk hS _ _
    obtain rfl : k = n := by omega
    have h1 : ¬ nI k < nI k := Int32.lt_irrefl
    refine ⟨G, fun _ _ _ _ _ => rfl, hS, ?_⟩
    simp only [am_s30_2, am_s30_3, am_s30_4, am_s30_72, h1, eq_self, am_os_some, Option.toList_some, Option.toList_none, List.cons_append, List.nil_append, if_true, if_false, true_and, am_nw1_i, am_nw1_r, am_nw1_n, cond_true]
  | succ d ih =>
    intro k G z hk hS hT hU
    have h1 : nI k < nI n := nI_lt (by omega) (by omega)
    have hi : nI k + 1 = nI (k + 1) := nI_add k 1
    have hwk := am_wf_days (T := T) (U := U) (h := h) hw k
    generalize hS1 : am_days T U h S k = S1 at *
    have hd1 : S1 13 1 < 2 ^ 30 := by rw [hwk.2.2]; omega
    obtain ⟨G1, f1, c1, g1⟩ := am_l30g (X := X) (D := D) (q := q) (n := nI n) (i := nI k) ha hwk.1 ht hu (by omega) hh (S1 13 0) 0 G (by omega) hS hT hU
    have hgo := am_wf_goes (T := T) (U := U) (h := h) hwk.1 (S1 13 0) (Nat.le_refl _)
    generalize hS2 : am_goes T U h S1 (S1 13 0) = S2 at *
    have hz2 : S2 13 0 = S1 13 0 := by rw [hgo.2]
    obtain ⟨G2, f2, c2, g2⟩ := am_l30d (X := X) (D := D + 2) (q := q) (wh := wh) (n := nI n) (i := nI k) hb hgo.1 (S2 13 0) 0 G1 (by omega) c1
    have hdk := am_wf_dk hgo.1 (S2 13 0) (Nat.le_refl _)
    have hday : G2 a 9 = nI (S1 13 1) := by rw [c2.2.2.2, hdk.2, hgo.2]
    have c3 := am_cp_ups (k := 1) (v := S1 13 1 + 1) c2 (by decide)
    have hda : nI (S1 13 1) + 1 = nI (S1 13 1 + 1) := nI_add _ 1
    have ed : am_su (am_dk S2 (S2 13 0)) 13 1 (S1 13 1 + 1) = am_days T U h S (k + 1) := by
      show _ = am_day T U h (am_days T U h S k)
      rw [hS1]
      unfold am_day
      rw [hS2, hz2]
    rw [ed] at c3
    have f12 : ∀ i j, am_out a i → i ≠ 5 → i ≠ 9 → am_up G2 a (8 + 1) (nI (S1 13 1 + 1)) i j = G i j := fun i j a1 a2 a3 => by
      have a4 := a1
      unfold am_out at a4
      rw [am_up_get, if_neg (by omega), f2 i j a1, f1 i j a1 a2 a3]
    obtain ⟨G', f4, c4, g4⟩ := ih (k + 1) _ (some (.int (nI (S2 13 0)))) (by omega) c3 (am_cw_fr hT fun i j a1 a2 => f12 i j (h10 i (by omega)) (by omega) (by omega)) (am_cw_fr hU fun i j a1 a2 => f12 i j (h10 i (by omega)) (by omega) (by omega))
    refine ⟨G', fun i j a1 a2 a3 => by rw [f4 i j a1 a2 a3, f12 i j a1 a2 a3], c4, ?_⟩
    simp only [am_s30_2, am_s30_3, am_s30_4, am_s30_7, am_s30_8, h1, eq_self, am_os_some, Option.toList_some, Option.toList_none, List.cons_append, List.nil_append, if_true, if_false, true_and, am_nw1_i, am_nw1_r, am_nw1_n, cond_true]
    refine (g1 _).mpr ?_
    simp only [am_s30_32, am_s30_33, eq_self, am_os_some, Option.toList_some, Option.toList_none, List.cons_append, List.nil_append, if_true, if_false, true_and, am_nw1_i, am_nw1_r, am_nw1_n, cond_true]
    refine (g2 _).mpr ?_
    simp only [am_s30_56, am_s30_57, am_s30_57a, am_s30_58, am_s30_61, am_s30_62, am_s30_63, am_s30_66, am_fa_9 hb, am_pa_9 hb, hday, hda, hi, eq_self, am_os_some, Option.toList_some, Option.toList_none, List.cons_append, List.nil_append, if_true, if_false, true_and, am_nw1_i, am_nw1_r, am_nw1_n, cond_true]
    rw [am_s30_69]
    exact g4
theorem am_m30 {G : am_G} (ha : am_ist a) (hS : am_cp a G S) (hw : am_wf S) (hT : am_cw 2 0 G T) (ht : am_wt T) (hU : am_cw 6 1 G U) (hu : am_wt U) {h n : Nat} {wh : Int32} (hd : S 13 1 + n < 2 ^ 30) (hh : ∀ k, k < 8 → (nI k = wh ↔ k = h)) : ∃ G' : am_G, (∀ i j, am_out a i → i ≠ 5 → i ≠ 9 → G' i j = G i j) ∧ am_cp a G' (am_days T U h S n) ∧ am_CD X (D + 6) 30 [.ref a, .int (nI n), .int wh] (am_L0 q, G) = some (none, (am_L0 q, G')) := by
  obtain ⟨G', f, c, g⟩ := am_l30 (X := X) (D := D) (q := q) ha hw ht hu hd hh n 0 G none (by omega) hS hT hU
  refine ⟨G', f, c, ?_⟩
  refine am_CD_of (M := am_N30) rfl rfl ?_
  show am_Rn _ _ none am_J30 0 [some (.ref a), some (.int (nI n)), some (.int wh), none, none] [] (am_L0 q, G) _
  simp only [am_s30_0, am_s30_1, eq_self, am_os_some, Option.toList_some, Option.toList_none, List.cons_append, List.nil_append, if_true, if_false, true_and, am_nw1_i, am_nw1_r, am_nw1_n, cond_true]
  exact g
end AMDB
