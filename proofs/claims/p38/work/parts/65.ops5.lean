/-! seed, voice, trace, image, restore, tell, check, count, told -/
section AMOP5
variable {X : am_X} {D q : Nat} {G : am_G}
def am_O104 (v : Int32) (s : am_St) : Int32 × am_St := (s.1.2.2.2.2.2, am_sZ v s)
theorem am_c104 {v : Int32} {s : am_St} : am_cO 104 [.int v] s (am_O104 v s) := by
  intro N xs q G hc
  have ez : G 1 5 = s.1.2.2.2.2.2 := hc.1.2.2.2.2.2
  have f : ∀ i j, i ≠ 1 → am_up G 1 5 v i j = G i j := fun i j h => by rw [am_up_get, if_neg h]
  refine ⟨q, am_up G 1 5 v, fun i j hi => f i j (by omega), am_cfl_W hc (fun i j a b => f i j (by omega)) ⟨am_cp_fr hc.1.1 fun i j a b => f i j (by omega), am_cw_fr hc.1.2.1 fun i j a b => f i j (by omega), am_cw_fr hc.1.2.2.1 fun i j a b => f i j (by omega), am_tap_fr hc.1.2.2.2.1 fun j => ⟨f _ j (by omega), f _ j (by omega)⟩, am_wai_fr hc.1.2.2.2.2.1 fun j => ⟨f _ j (by omega), f _ j (by omega)⟩, by show am_up G 1 5 v 1 5 = v; rw [am_up_get, if_pos rfl, if_pos rfl]⟩, am_CD_of (M := am_N104) rfl rfl ?_⟩
  show am_Rn _ _ ((Option.some FieldType.int)) am_J104 0 [some (.ref 0), some (.int v), none] [] (am_L0 q, G) _
  simp only [am_s104_0, am_s104_1, am_s104_4, am_s104_7, am_s104_8, am_s104_9, am_s104_12, am_s104_13, am_s104_16, am_s104_17, am_f1_5, am_p1_5, ez, am_cal_ok am_cat_0 am_v0 (am_e1 (D := 98)), am_cal_ok am_cat_0 am_v0 (am_e2 (D := 98)), am_cal_ok am_cat_0 am_v0 (am_e3 (D := 98)), am_cal_ok am_cat_0 am_v0 (am_e4 (D := 98)), am_cal_ok am_cat_0 am_v0 (am_e5 (D := 98)), am_cal_ok am_cat_0 am_rcv_f (am_m123 (D := 98) _ _), am_cal_ok am_cat_0 am_rcv_f (am_m121 (D := 97) _), am_cal_ok am_cat_0 am_rcv_f (am_m122 (D := 97) _), am_bI0, am_f0_0, am_f0_1, am_f0_2, am_f0_3, am_f0_4, am_f0_5, am_f0_6, am_f0_7, am_f1_2, am_ec1, am_ec2, am_ec3, am_ec4, am_ec5, am_er_f, am_sy_f, Bool.false_and, Bool.and_false, reduceCtorEq, not_false_eq_true, not_true_eq_false, eq_self, am_os_some, Option.toList_some, Option.toList_none, List.cons_append, List.nil_append, if_true, if_false, true_and, am_nw1_i, am_nw1_r, am_nw1_n, cond_true]
  rfl
/-- voice -/
theorem am_cfl_L {G' : am_G} {W I : am_We} {c : Nat} {L L' : List Int32} {E : Nat → Int32} {H : am_Sh} (h : am_cfl G W I c L E H) (hf : ∀ i j, ¬ (101 ≤ i ∧ i < 104) → G' i j = G i j) (h1 : am_crw G' 102 L') : am_cfl G' W I c L' E H :=
  ⟨am_cwe_fr h.1 fun i j a b c d => hf i j (by omega), am_cwe_fr h.2.1 fun i j a b c d => hf i j (by omega), by rw [hf 0 8 (by omega)]; exact h.2.2.1, h1, fun k hk => by rw [hf 105 k (by omega)]; exact h.2.2.2.2.1 k hk, fun j hj => am_csh_fr (h.2.2.2.2.2 j hj) fun k => ⟨hf _ k (by omega), hf _ k (by omega)⟩⟩
def am_sT (L : List Int32) (s : am_St) : am_St := (s.1, s.2.1, s.2.2.1, L, s.2.2.2.2)
def am_O105 (a c x : Int32) (s : am_St) : Int32 × am_St :=
  if (am_ip (s.1.1 13 0) a && am_wi c 3) = false then am_er 1 s
  else ((am_vac (s.1.1 0 a.toNatClampNeg) c.toNatClampNeg x (nI a.toNatClampNeg) (nI (s.1.1 1 a.toNatClampNeg))).1, am_sT (am_vac (s.1.1 0 a.toNatClampNeg) c.toNatClampNeg x (nI a.toNatClampNeg) (nI (s.1.1 1 a.toNatClampNeg))).2 s)
theorem am_c105 {a c x : Int32} {s : am_St} (hs : am_oks s) : am_cO 105 [.int a, .int c, .int x] s (am_O105 a c x s) := by
  unfold am_O105
  have h8 := hs.1.1.1
  cases h1 : am_ip (s.1.1 13 0) a with
  | false =>
    refine am_cop_err (k := 1) (by decide) fun X q G hc => am_CD_of (M := am_N105) rfl rfl ?_
    have hn : G 10 8 = nI (s.1.1 13 0) := hc.1.1.2.2.1
    show am_Rn _ _ ((Option.some FieldType.int)) am_J105 0 [some (.ref 0), some (.int a), some (.int c), some (.int x)] [] (am_L0 q, G) _
    simp only [am_s105_0, am_s105_1, am_s105_2, am_s105_5, am_s105_8, am_s105_9, am_s105_10, am_s105_13, am_s105_16, am_s105_17, am_s105_18, am_s105_21, am_s105_22, am_s105_23, am_s105_26, am_s105_27, am_s105_30, am_s105_33, am_s105_34, am_s105_35, am_s105_36, am_s105_39, h1, am_cal_ok am_cat_0 am_v0 (am_y119 hn _), am_cal_ok am_cat_0 am_v0 (am_e1 (D := 98)), am_cal_ok am_cat_0 am_v0 (am_e2 (D := 98)), am_cal_ok am_cat_0 am_v0 (am_e3 (D := 98)), am_cal_ok am_cat_0 am_v0 (am_e4 (D := 98)), am_cal_ok am_cat_0 am_v0 (am_e5 (D := 98)), am_cal_ok am_cat_0 am_rcv_f (am_m123 (D := 98) _ _), am_cal_ok am_cat_0 am_rcv_f (am_m121 (D := 97) _), am_cal_ok am_cat_0 am_rcv_f (am_m122 (D := 97) _), am_bI0, am_f0_0, am_f0_1, am_f0_2, am_f0_3, am_f0_4, am_f0_5, am_f0_6, am_f0_7, am_f1_2, am_ec1, am_ec2, am_ec3, am_ec4, am_ec5, am_er_f, am_sy_f, Bool.false_and, Bool.and_false, reduceCtorEq, not_false_eq_true, not_true_eq_false, eq_self, am_os_some, Option.toList_some, Option.toList_none, List.cons_append, List.nil_append, if_true, if_false, true_and, am_nw1_i, am_nw1_r, am_nw1_n, cond_true]
  | true =>
    cases h2 : am_wi c 3 with
    | false =>
      refine am_cop_err (k := 1) (by decide) fun X q G hc => am_CD_of (M := am_N105) rfl rfl ?_
      have hn : G 10 8 = nI (s.1.1 13 0) := hc.1.1.2.2.1
      show am_Rn _ _ ((Option.some FieldType.int)) am_J105 0 [some (.ref 0), some (.int a), some (.int c), some (.int x)] [] (am_L0 q, G) _
      simp only [am_s105_0, am_s105_1, am_s105_2, am_s105_5, am_s105_8, am_s105_9, am_s105_10, am_s105_13, am_s105_16, am_s105_17, am_s105_18, am_s105_21, am_s105_22, am_s105_23, am_s105_26, am_s105_27, am_s105_30, am_s105_33, am_s105_34, am_s105_35, am_s105_36, am_s105_39, h1, h2, am_cal_ok am_cat_0 am_v0 (am_y119 hn _), am_cal_ok am_cat_0 am_v0 (am_e1 (D := 98)), am_cal_ok am_cat_0 am_v0 (am_e2 (D := 98)), am_cal_ok am_cat_0 am_v0 (am_e3 (D := 98)), am_cal_ok am_cat_0 am_v0 (am_e4 (D := 98)), am_cal_ok am_cat_0 am_v0 (am_e5 (D := 98)), am_cal_ok am_cat_0 am_rcv_f (am_m123 (D := 98) _ _), am_cal_ok am_cat_0 am_rcv_f (am_m121 (D := 97) _), am_cal_ok am_cat_0 am_rcv_f (am_m122 (D := 97) _), am_bI0, am_f0_0, am_f0_1, am_f0_2, am_f0_3, am_f0_4, am_f0_5, am_f0_6, am_f0_7, am_f1_2, am_ec1, am_ec2, am_ec3, am_ec4, am_ec5, am_er_f, am_sy_f, Bool.false_and, Bool.and_false, reduceCtorEq, not_false_eq_true, not_true_eq_false, eq_self, am_os_some, Option.toList_some, Option.toList_none, List.cons_append, List.nil_append, if_true, if_false, true_and, am_nw1_i, am_nw1_r, am_nw1_n, cond_true]
    | true =>
      rw [if_neg (by decide)]
      obtain ⟨a1, a2⟩ := am_ip_nI h8 h1
      obtain ⟨w1, w2⟩ := am_wi_nI (n := 3) (by decide) h2
      generalize a.toNatClampNeg = p at a1 a2
      generalize c.toNatClampNeg = c at w1 w2
      subst a2 w2
      intro N xs q G hc
      have hn : G 10 8 = nI (s.1.1 13 0) := hc.1.1.2.2.1
      obtain ⟨G1, f1, c1, g1⟩ := am_m69 (X := am_X0 N xs) (D := 90) (q := q) hc.1.1 hs.1.1 (show p < 8 by omega) (show c < 4 by omega) x
      refine ⟨q, G1, fun i j hi => f1 i j (by omega), am_cfl_L hc f1 c1, am_CD_of (M := am_N105) rfl rfl ?_⟩
      show am_Rn _ _ ((Option.some FieldType.int)) am_J105 0 [some (.ref 0), some (.int (nI p)), some (.int (nI c)), some (.int x)] [] (am_L0 q, G) _
      simp only [am_s105_0, am_s105_1, am_s105_2, am_s105_5, am_s105_8, am_s105_9, am_s105_10, am_s105_13, am_s105_16, am_s105_17, am_s105_18, am_s105_21, am_s105_22, am_s105_23, am_s105_26, am_s105_27, am_s105_30, am_s105_33, am_s105_34, am_s105_35, am_s105_36, am_s105_39, h1, h2, am_cal_ok am_cat_0 am_v0 (am_y119 hn _), am_cal_ok am_cat_0 am_v101 (g1), am_cal_ok am_cat_0 am_v0 (am_e1 (D := 98)), am_cal_ok am_cat_0 am_v0 (am_e2 (D := 98)), am_cal_ok am_cat_0 am_v0 (am_e3 (D := 98)), am_cal_ok am_cat_0 am_v0 (am_e4 (D := 98)), am_cal_ok am_cat_0 am_v0 (am_e5 (D := 98)), am_cal_ok am_cat_0 am_rcv_f (am_m123 (D := 98) _ _), am_cal_ok am_cat_0 am_rcv_f (am_m121 (D := 97) _), am_cal_ok am_cat_0 am_rcv_f (am_m122 (D := 97) _), am_bI0, am_f0_0, am_f0_1, am_f0_2, am_f0_3, am_f0_4, am_f0_5, am_f0_6, am_f0_7, am_f1_2, am_ec1, am_ec2, am_ec3, am_ec4, am_ec5, am_er_f, am_sy_f, Bool.false_and, Bool.and_false, reduceCtorEq, not_false_eq_true, not_true_eq_false, eq_self, am_os_some, Option.toList_some, Option.toList_none, List.cons_append, List.nil_append, if_true, if_false, true_and, am_nw1_i, am_nw1_r, am_nw1_n, cond_true]
/-- trace -/
def am_O106 (i : Int32) (s : am_St) : Int32 × am_St :=
  if i < 0 ∨ ¬ i < nI s.2.2.2.1.length then am_er 2 s
  else am_sy (s.2.2.2.1.getD i.toNatClampNeg 0) s
theorem am_c106 {i : Int32} {s : am_St} (hs : am_oks s) : am_cO 106 [.int i] s (am_O106 i s) := by
  unfold am_O106
  have hL := hs.2.2.1
  by_cases h1 : i < 0
  · rw [if_pos (Or.inl h1)]
    refine am_cop_err (k := 2) (by decide) fun X q G hc => am_CD_of (M := am_N106) rfl rfl ?_
    show am_Rn _ _ ((Option.some FieldType.int)) am_J106 0 [some (.ref 0), some (.int i)] [] (am_L0 q, G) _
    simp only [am_s106_0, am_s106_1, am_s106_4, am_s106_5, am_s106_6, am_s106_9, am_s106_12, am_s106_15, am_s106_18, am_s106_19, am_s106_20, am_s106_23, am_s106_24, am_s106_25, am_s106_28, am_s106_31, am_s106_34, am_s106_35, am_s106_36, h1, am_cal_ok am_cat_0 am_v0 (am_e1 (D := 98)), am_cal_ok am_cat_0 am_v0 (am_e2 (D := 98)), am_cal_ok am_cat_0 am_v0 (am_e3 (D := 98)), am_cal_ok am_cat_0 am_v0 (am_e4 (D := 98)), am_cal_ok am_cat_0 am_v0 (am_e5 (D := 98)), am_cal_ok am_cat_0 am_rcv_f (am_m123 (D := 98) _ _), am_cal_ok am_cat_0 am_rcv_f (am_m121 (D := 97) _), am_cal_ok am_cat_0 am_rcv_f (am_m122 (D := 97) _), am_bI0, am_f0_0, am_f0_1, am_f0_2, am_f0_3, am_f0_4, am_f0_5, am_f0_6, am_f0_7, am_f1_2, am_ec1, am_ec2, am_ec3, am_ec4, am_ec5, am_er_f, am_sy_f, Bool.false_and, Bool.and_false, reduceCtorEq, not_false_eq_true, not_true_eq_false, eq_self, am_os_some, Option.toList_some, Option.toList_none, List.cons_append, List.nil_append, if_true, if_false, true_and, am_nw1_i, am_nw1_r, am_nw1_n, cond_true]
  · by_cases h2 : i < nI s.2.2.2.1.length
    · rw [if_neg (by simp only [h1, h2]; simp)]
      obtain ⟨k, hk, rfl⟩ := nI_of h1
      have hlt : k < s.2.2.2.1.length := (nI_ltI hk (by omega)).mp h2
      rw [nI_clamp hk]
      refine am_cop_same fun N xs q G hc => ?_
      have e1 : G 102 1 = nI s.2.2.2.1.length := hc.2.2.2.1.1
      have e2 : G 103 k = s.2.2.2.1.getD k 0 := hc.2.2.2.1.2 k hlt
      refine ⟨q, G, fun _ _ _ => rfl, am_CD_of (M := am_N106) rfl rfl ?_⟩
      show am_Rn _ _ ((Option.some FieldType.int)) am_J106 0 [some (.ref 0), some (.int (nI k))] [] (am_L0 q, G) _
      simp only [am_s106_0, am_s106_1, am_s106_4, am_s106_5, am_s106_6, am_s106_9, am_s106_12, am_s106_15, am_s106_18, am_s106_19, am_s106_20, am_s106_23, am_s106_24, am_s106_25, am_s106_28, am_s106_31, am_s106_34, am_s106_35, am_s106_36, h1, h2, e1, e2, am_f101_0, am_f102_0, am_f102_1, am_a103, am_in_nI (show k < 40 by omega) (by decide), nI_clamp hk, am_cal_ok am_cat_0 am_v0 (am_e1 (D := 98)), am_cal_ok am_cat_0 am_v0 (am_e2 (D := 98)), am_cal_ok am_cat_0 am_v0 (am_e3 (D := 98)), am_cal_ok am_cat_0 am_v0 (am_e4 (D := 98)), am_cal_ok am_cat_0 am_v0 (am_e5 (D := 98)), am_cal_ok am_cat_0 am_rcv_f (am_m123 (D := 98) _ _), am_cal_ok am_cat_0 am_rcv_f (am_m121 (D := 97) _), am_cal_ok am_cat_0 am_rcv_f (am_m122 (D := 97) _), am_bI0, am_f0_0, am_f0_1, am_f0_2, am_f0_3, am_f0_4, am_f0_5, am_f0_6, am_f0_7, am_f1_2, am_ec1, am_ec2, am_ec3, am_ec4, am_ec5, am_er_f, am_sy_f, Bool.false_and, Bool.and_false, reduceCtorEq, not_false_eq_true, not_true_eq_false, eq_self, am_os_some, Option.toList_some, Option.toList_none, List.cons_append, List.nil_append, if_true, if_false, true_and, am_nw1_i, am_nw1_r, am_nw1_n, cond_true]
    · rw [if_pos (Or.inr h2)]
      refine am_cop_err (k := 2) (by decide) fun X q G hc => am_CD_of (M := am_N106) rfl rfl ?_
      have e1 : G 102 1 = nI s.2.2.2.1.length := hc.2.2.2.1.1
      show am_Rn _ _ ((Option.some FieldType.int)) am_J106 0 [some (.ref 0), some (.int i)] [] (am_L0 q, G) _
      simp only [am_s106_0, am_s106_1, am_s106_4, am_s106_5, am_s106_6, am_s106_9, am_s106_12, am_s106_15, am_s106_18, am_s106_19, am_s106_20, am_s106_23, am_s106_24, am_s106_25, am_s106_28, am_s106_31, am_s106_34, am_s106_35, am_s106_36, h1, h2, e1, am_f101_0, am_f102_0, am_f102_1, am_cal_ok am_cat_0 am_v0 (am_e1 (D := 98)), am_cal_ok am_cat_0 am_v0 (am_e2 (D := 98)), am_cal_ok am_cat_0 am_v0 (am_e3 (D := 98)), am_cal_ok am_cat_0 am_v0 (am_e4 (D := 98)), am_cal_ok am_cat_0 am_v0 (am_e5 (D := 98)), am_cal_ok am_cat_0 am_rcv_f (am_m123 (D := 98) _ _), am_cal_ok am_cat_0 am_rcv_f (am_m121 (D := 97) _), am_cal_ok am_cat_0 am_rcv_f (am_m122 (D := 97) _), am_bI0, am_f0_0, am_f0_1, am_f0_2, am_f0_3, am_f0_4, am_f0_5, am_f0_6, am_f0_7, am_f1_2, am_ec1, am_ec2, am_ec3, am_ec4, am_ec5, am_er_f, am_sy_f, Bool.false_and, Bool.and_false, reduceCtorEq, not_false_eq_true, not_true_eq_false, eq_self, am_os_some, Option.toList_some, Option.toList_none, List.cons_append, List.nil_append, if_true, if_false, true_and, am_nw1_i, am_nw1_r, am_nw1_n, cond_true]
/-- image, restore -/
def am_O112 (s : am_St) : Int32 × am_St := (nI (s.2.2.1 + 1), s.1, s.1, s.2.2.1 + 1, s.2.2.2)
theorem am_c112 {s : am_St} (hs : am_oks s) : am_cO 112 [] s (am_O112 s) := by
  intro N xs q G hc
  obtain ⟨G1, f1, c1, g1⟩ := am_m77 (X := am_X0 N xs) (D := 95) (q := q) (Or.inr rfl : am_isv 30) (Or.inl rfl : am_isv 1) (by decide) hc.1 hc.2.1 hs.1
  have e0 : G1 0 8 = nI s.2.2.1 := by rw [f1 0 8 (by omega)]; exact hc.2.2.1
  have hi : nI s.2.2.1 + 1 = nI (s.2.2.1 + 1) := nI_add _ 1
  have F : ∀ i j, i ≠ 0 → am_up G1 0 8 (nI (s.2.2.1 + 1)) i j = G1 i j := fun i j h => by rw [am_up_get, if_neg h]
  have F2 : ∀ i j, i ≠ 0 → (i < 30 ∨ 59 ≤ i) → am_up G1 0 8 (nI (s.2.2.1 + 1)) i j = G i j := fun i j h h2 => by rw [F i j h, f1 i j h2]
  refine ⟨q, am_up G1 0 8 (nI (s.2.2.1 + 1)), fun i j hi => F2 i j (by omega) (by omega), ⟨am_cwe_fr hc.1 fun i j a b c d => F2 i j (by omega) (by omega), am_cwe_fr c1 fun i j a b c d => F i j (by omega), by show am_up G1 0 8 _ 0 8 = _; rw [am_up_get, if_pos rfl, if_pos rfl]; rfl, am_crw_fr hc.2.2.2.1 fun j => ⟨F2 _ j (by omega) (by omega), F2 _ j (by omega) (by omega)⟩, fun k hk => (F2 105 k (by omega) (by omega)).trans (hc.2.2.2.2.1 k hk), fun j hj => am_csh_fr (hc.2.2.2.2.2 j hj) fun k => ⟨F2 _ k (by omega) (by omega), F2 _ k (by omega) (by omega)⟩⟩, am_CD_of (M := am_N112) rfl rfl ?_⟩
  have v30 : am_rcv true 9 [.ref 30, .ref 1] (am_L0 q, G) = true := rfl
  show am_Rn _ _ ((Option.some FieldType.int)) am_J112 0 [some (.ref 0)] [] (am_L0 q, G) _
  simp only [am_s112_0, am_s112_1, am_s112_4, am_s112_5, am_s112_8, am_s112_11, am_s112_12, am_s112_12a, am_s112_13, am_s112_16, am_s112_17, am_s112_18, am_s112_21, am_s112_22, am_s112_25, am_cal_ok am_cat_0 (v30) (g1), am_f0_8, am_p0_8, am_up_get, Nat.reduceEqDiff, e0, hi, am_cal_ok am_cat_0 am_v0 (am_e1 (D := 98)), am_cal_ok am_cat_0 am_v0 (am_e2 (D := 98)), am_cal_ok am_cat_0 am_v0 (am_e3 (D := 98)), am_cal_ok am_cat_0 am_v0 (am_e4 (D := 98)), am_cal_ok am_cat_0 am_v0 (am_e5 (D := 98)), am_cal_ok am_cat_0 am_rcv_f (am_m123 (D := 98) _ _), am_cal_ok am_cat_0 am_rcv_f (am_m121 (D := 97) _), am_cal_ok am_cat_0 am_rcv_f (am_m122 (D := 97) _), am_bI0, am_f0_0, am_f0_1, am_f0_2, am_f0_3, am_f0_4, am_f0_5, am_f0_6, am_f0_7, am_f1_2, am_ec1, am_ec2, am_ec3, am_ec4, am_ec5, am_er_f, am_sy_f, Bool.false_and, Bool.and_false, reduceCtorEq, not_false_eq_true, not_true_eq_false, eq_self, am_os_some, Option.toList_some, Option.toList_none, List.cons_append, List.nil_append, if_true, if_false, true_and, am_nw1_i, am_nw1_r, am_nw1_n, cond_true]
  rfl
def am_O113 (s : am_St) : Int32 × am_St := if s.2.2.1 = 0 then am_er 2 s else (nI (s.2.1.1 13 1), s.2.1, s.2)
theorem am_c113 {s : am_St} (hs : am_oks s) (hcn : s.2.2.1 < 2 ^ 31) : am_cO 113 [] s (am_O113 s) := by
  unfold am_O113
  by_cases h1 : s.2.2.1 = 0
  · rw [if_pos h1]
    refine am_cop_err (k := 2) (by decide) fun X q G hc => am_CD_of (M := am_N113) rfl rfl ?_
    have e0 : G 0 8 = 0 := hc.2.2.1.trans (by rw [h1]; rfl)
    show am_Rn _ _ ((Option.some FieldType.int)) am_J113 0 [some (.ref 0)] [] (am_L0 q, G) _
    simp only [am_s113_0, am_s113_1, am_s113_4, am_s113_7, am_s113_8, am_s113_9, am_s113_12, am_s113_13, am_s113_14, am_s113_17, am_s113_18, am_s113_21, am_s113_24, am_s113_25, am_s113_28, am_s113_31, am_s113_34, am_f0_8, e0, am_cal_ok am_cat_0 am_v0 (am_e1 (D := 98)), am_cal_ok am_cat_0 am_v0 (am_e2 (D := 98)), am_cal_ok am_cat_0 am_v0 (am_e3 (D := 98)), am_cal_ok am_cat_0 am_v0 (am_e4 (D := 98)), am_cal_ok am_cat_0 am_v0 (am_e5 (D := 98)), am_cal_ok am_cat_0 am_rcv_f (am_m123 (D := 98) _ _), am_cal_ok am_cat_0 am_rcv_f (am_m121 (D := 97) _), am_cal_ok am_cat_0 am_rcv_f (am_m122 (D := 97) _), am_bI0, am_f0_0, am_f0_1, am_f0_2, am_f0_3, am_f0_4, am_f0_5, am_f0_6, am_f0_7, am_f1_2, am_ec1, am_ec2, am_ec3, am_ec4, am_ec5, am_er_f, am_sy_f, Bool.false_and, Bool.and_false, reduceCtorEq, not_false_eq_true, not_true_eq_false, eq_self, am_os_some, Option.toList_some, Option.toList_none, List.cons_append, List.nil_append, if_true, if_false, true_and, am_nw1_i, am_nw1_r, am_nw1_n, cond_true]
  · rw [if_neg h1]
    intro N xs q G hc
    have e0 : G 0 8 = nI s.2.2.1 := hc.2.2.1
    have h2 : ¬ nI s.2.2.1 = 0 := nI_ne0 (by omega) hcn
    obtain ⟨G1, f1, c1, g1⟩ := am_m77 (X := am_X0 N xs) (D := 95) (q := q) (Or.inl rfl : am_isv 1) (Or.inr rfl : am_isv 30) (by decide) hc.2.1 hc.1 hs.2.1
    have hd : G1 10 9 = nI (s.2.1.1 13 1) := c1.1.2.2.2
    refine ⟨q, G1, fun i j hi => f1 i j (by omega), am_cfl_W hc (fun i j a b => f1 i j (by omega)) c1, am_CD_of (M := am_N113) rfl rfl ?_⟩
    show am_Rn _ _ ((Option.some FieldType.int)) am_J113 0 [some (.ref 0)] [] (am_L0 q, G) _
    simp only [am_s113_0, am_s113_1, am_s113_4, am_s113_7, am_s113_8, am_s113_9, am_s113_12, am_s113_13, am_s113_14, am_s113_17, am_s113_18, am_s113_21, am_s113_24, am_s113_25, am_s113_28, am_s113_31, am_s113_34, am_cal_ok am_cat_0 am_v1 (g1), am_f0_8, am_f10_9, e0, h2, hd, am_cal_ok am_cat_0 am_v0 (am_e1 (D := 98)), am_cal_ok am_cat_0 am_v0 (am_e2 (D := 98)), am_cal_ok am_cat_0 am_v0 (am_e3 (D := 98)), am_cal_ok am_cat_0 am_v0 (am_e4 (D := 98)), am_cal_ok am_cat_0 am_v0 (am_e5 (D := 98)), am_cal_ok am_cat_0 am_rcv_f (am_m123 (D := 98) _ _), am_cal_ok am_cat_0 am_rcv_f (am_m121 (D := 97) _), am_cal_ok am_cat_0 am_rcv_f (am_m122 (D := 97) _), am_bI0, am_f0_0, am_f0_1, am_f0_2, am_f0_3, am_f0_4, am_f0_5, am_f0_6, am_f0_7, am_f1_2, am_ec1, am_ec2, am_ec3, am_ec4, am_ec5, am_er_f, am_sy_f, Bool.false_and, Bool.and_false, reduceCtorEq, not_false_eq_true, not_true_eq_false, eq_self, am_os_some, Option.toList_some, Option.toList_none, List.cons_append, List.nil_append, if_true, if_false, true_and, am_nw1_i, am_nw1_r, am_nw1_n, cond_true]
/-- tell, check -/
theorem am_cfl_V {G' : am_G} {W I : am_We} {c : Nat} {L : List Int32} {E : Nat → Int32} {H : am_Sh} {V : (Nat → Int32) × Nat} (h : am_cfl G W I c L E H) (hf : ∀ i j, am_kee i → i ≠ 28 → i ≠ 29 → G' i j = G i j) (h1 : am_wai 1 G' V) : am_cfl G' (W.1, W.2.1, W.2.2.1, W.2.2.2.1, V, W.2.2.2.2.2) I c L E H :=
  am_cfl_W h (fun i j a b => hf i j a (by omega) (by omega)) ⟨am_cp_fr h.1.1 fun i j a b => hf i j (by unfold am_kee; omega) (by omega) (by omega), am_cw_fr h.1.2.1 fun i j a b => hf i j (by unfold am_kee; omega) (by omega) (by omega), am_cw_fr h.1.2.2.1 fun i j a b => hf i j (by unfold am_kee; omega) (by omega) (by omega), am_tap_fr h.1.2.2.2.1 fun j => ⟨hf _ j (by unfold am_kee; omega) (by omega) (by omega), hf _ j (by unfold am_kee; omega) (by omega) (by omega)⟩, h1, (hf 1 5 (by unfold am_kee; omega) (by decide) (by decide)).trans h.1.2.2.2.2.2⟩
def am_sV (V : (Nat → Int32) × Nat) (s : am_St) : am_St := ((s.1.1, s.1.2.1, s.1.2.2.1, s.1.2.2.2.1, V, s.1.2.2.2.2.2), s.2)
def am_O114 (v : Int32) (s : am_St) : Int32 × am_St :=
  if 20 ≤ s.1.2.2.2.2.1.2 then am_er 4 s
  else (nI (s.1.2.2.2.2.1.2 + 1), am_sV (fun j => if j = s.1.2.2.2.2.1.2 then v else s.1.2.2.2.2.1.1 j, s.1.2.2.2.2.1.2 + 1) s)
theorem am_c114 {v : Int32} {s : am_St} (hs : am_oks s) : am_cO 114 [.int v] s (am_O114 v s) := by
  unfold am_O114
  have hm := hs.1.2.2.2.2.2.2
  by_cases h1 : 20 ≤ s.1.2.2.2.2.1.2
  · rw [if_pos h1]
    have h2 : ¬ nI s.1.2.2.2.2.1.2 < 20 := nI_nlt (b := 20) h1 (by omega)
    refine am_cop_err (k := 4) (by decide) fun X q G hc => am_CD_of (M := am_N114) rfl rfl ?_
    have e : G 28 1 = nI s.1.2.2.2.2.1.2 := hc.1.2.2.2.2.1.1
    show am_Rn _ _ ((Option.some FieldType.int)) am_J114 0 [some (.ref 0), some (.int v)] [] (am_L0 q, G) _
    simp only [am_s114_0, am_s114_1, am_s114_4, am_s114_7, am_s114_10, am_s114_12, am_s114_15, am_s114_16, am_s114_17, am_s114_20, am_s114_21, am_s114_22, am_s114_25, am_s114_28, am_s114_29, am_s114_32, am_s114_33, am_s114_36, am_s114_39, am_s114_42, am_f1_4, am_f28_1, e, h2, am_cal_ok am_cat_0 am_v0 (am_e1 (D := 98)), am_cal_ok am_cat_0 am_v0 (am_e2 (D := 98)), am_cal_ok am_cat_0 am_v0 (am_e3 (D := 98)), am_cal_ok am_cat_0 am_v0 (am_e4 (D := 98)), am_cal_ok am_cat_0 am_v0 (am_e5 (D := 98)), am_cal_ok am_cat_0 am_rcv_f (am_m123 (D := 98) _ _), am_cal_ok am_cat_0 am_rcv_f (am_m121 (D := 97) _), am_cal_ok am_cat_0 am_rcv_f (am_m122 (D := 97) _), am_bI0, am_f0_0, am_f0_1, am_f0_2, am_f0_3, am_f0_4, am_f0_5, am_f0_6, am_f0_7, am_f1_2, am_ec1, am_ec2, am_ec3, am_ec4, am_ec5, am_er_f, am_sy_f, Bool.false_and, Bool.and_false, reduceCtorEq, not_false_eq_true, not_true_eq_false, eq_self, am_os_some, Option.toList_some, Option.toList_none, List.cons_append, List.nil_append, if_true, if_false, true_and, am_nw1_i, am_nw1_r, am_nw1_n, cond_true]
  · rw [if_neg h1]
    intro N xs q G hc
    have e : G 28 1 = nI s.1.2.2.2.2.1.2 := hc.1.2.2.2.2.1.1
    have h2 : nI s.1.2.2.2.2.1.2 < 20 := nI_lt (b := 20) (by omega) (by decide)
    have g := am_m49_28 (X := am_X0 N xs) (D := 98) (q := q) (v := v) (show s.1.2.2.2.2.1.2 < 20 by omega) e
    have f : ∀ i j, i ≠ 28 → i ≠ 29 → am_up (am_up G 29 s.1.2.2.2.2.1.2 v) 28 1 (nI (s.1.2.2.2.2.1.2 + 1)) i j = G i j := fun i j a b => by rw [am_up_get, if_neg a, am_up_get, if_neg b]
    refine ⟨q, _, fun i j hi => f i j (by omega) (by omega), am_cfl_V hc (fun i j _ a b => f i j a b) ⟨by show am_up _ 28 1 _ 28 1 = _; rw [am_up_get, if_pos rfl, if_pos rfl], fun j hj => ?_⟩, am_CD_of (M := am_N114) rfl rfl ?_⟩
    · show am_up _ 28 1 _ 29 j = if j = _ then v else _
      rw [am_up_get, if_neg (by decide), am_up_get, if_pos rfl]
      by_cases c : j = s.1.2.2.2.2.1.2
      · rw [if_pos c, if_pos c]
      · rw [if_neg c, if_neg c]
        exact hc.1.2.2.2.2.1.2 j (by have : j < s.1.2.2.2.2.1.2 + 1 := hj; omega)
    · show am_Rn _ _ ((Option.some FieldType.int)) am_J114 0 [some (.ref 0), some (.int v)] [] (am_L0 q, G) _
      simp only [am_s114_0, am_s114_1, am_s114_4, am_s114_7, am_s114_10, am_s114_12, am_s114_15, am_s114_16, am_s114_17, am_s114_20, am_s114_21, am_s114_22, am_s114_25, am_s114_28, am_s114_29, am_s114_32, am_s114_33, am_s114_36, am_s114_39, am_s114_42, am_f1_4, am_f28_1, e, h2, am_cal_ok am_cat_0 am_v28 (g), am_up_get, Nat.reduceEqDiff, am_cal_ok am_cat_0 am_v0 (am_e1 (D := 98)), am_cal_ok am_cat_0 am_v0 (am_e2 (D := 98)), am_cal_ok am_cat_0 am_v0 (am_e3 (D := 98)), am_cal_ok am_cat_0 am_v0 (am_e4 (D := 98)), am_cal_ok am_cat_0 am_v0 (am_e5 (D := 98)), am_cal_ok am_cat_0 am_rcv_f (am_m123 (D := 98) _ _), am_cal_ok am_cat_0 am_rcv_f (am_m121 (D := 97) _), am_cal_ok am_cat_0 am_rcv_f (am_m122 (D := 97) _), am_bI0, am_f0_0, am_f0_1, am_f0_2, am_f0_3, am_f0_4, am_f0_5, am_f0_6, am_f0_7, am_f1_2, am_ec1, am_ec2, am_ec3, am_ec4, am_ec5, am_er_f, am_sy_f, Bool.false_and, Bool.and_false, reduceCtorEq, not_false_eq_true, not_true_eq_false, eq_self, am_os_some, Option.toList_some, Option.toList_none, List.cons_append, List.nil_append, if_true, if_false, true_and, am_nw1_i, am_nw1_r, am_nw1_n, cond_true]
def am_O115 (s : am_St) : Int32 × am_St :=
  ((match am_fu s.1.2.1 s.1.2.2.1 s.1.1 s.1.2.2.2.2.1.1 s.1.2.2.2.2.1.2 0 with
    | none => 0
    | some i => 1 + nI i), am_sV (s.1.2.2.2.2.1.1, 0) s)
theorem am_fu_le {T U : am_T} {S : am_S} {V : Nat → Int32} : ∀ (d n : Nat) {j : Nat}, am_fu T U S V d n = some j → n ≤ j ∧ j < n + d
  | 0, _, _, h => by cases h
  | d + 1, n, j, h => by
    unfold am_fu at h
    split at h
    · have := am_fu_le d (n + 1) h; omega
    · cases h; omega
theorem am_c115 {s : am_St} (hs : am_oks s) : am_cO 115 [] s (am_O115 s) := by
  unfold am_O115
  have hm := hs.1.2.2.2.2.2.2
  intro N xs q G hc
  obtain ⟨G1, f, g⟩ := am_m67 (X := am_X0 N xs) (D := 92) (q := q) (am_cfl_cn hc hs.1) hm hc.1.2.2.2.2.1.1 hc.1.2.2.2.2.1.2
  have hc1 := am_cfl_fr hc fun i j hi => f i j (by unfold am_kee at hi; omega) (by unfold am_kee at hi; omega) (by unfold am_kee at hi; omega)
  have F : ∀ i j, i ≠ 28 → am_up G1 28 1 0 i j = G1 i j := fun i j h => by rw [am_up_get, if_neg h]
  refine ⟨q, am_up G1 28 1 0, fun i j hi => by rw [F i j (by omega), f i j (by omega) (by omega) (by omega)], am_cfl_V hc1 (fun i j _ a b => F i j a) ⟨by show am_up _ 28 1 _ 28 1 = _; rw [am_up_get, if_pos rfl, if_pos rfl]; rfl, fun j hj => absurd hj (Nat.not_lt_zero j)⟩, am_CD_of (M := am_N115) rfl rfl ?_⟩
  show am_Rn _ _ ((Option.some FieldType.int)) am_J115 0 [some (.ref 0), none] [] (am_L0 q, G) _
  cases hd : am_fu s.1.2.1 s.1.2.2.1 s.1.1 s.1.2.2.2.2.1.1 s.1.2.2.2.2.1.2 0 with
  | none =>
    rw [hd] at g
    have g' : am_CD (am_X0 N xs) 99 67 [.ref 59, .ref 28] (am_L0 q, G) = some (some (.int (-1)), (am_L0 q, G1)) := g
    have h5 : ((-1 : Int32) < 0) = True := by decide
    simp only [am_s115_0, am_s115_1, am_s115_4, am_s115_5, am_s115_8, am_s115_11, am_s115_14, am_s115_15, am_s115_16, am_s115_19, am_s115_22, am_s115_23, am_s115_26, am_s115_27, am_s115_30, am_s115_31, am_s115_34, am_s115_35, am_s115_36, am_s115_37, am_f1_4, am_p28_1, am_cal_ok am_cat_0 am_v59 (g'), h5, am_cal_ok am_cat_0 am_v0 (am_e1 (D := 98)), am_cal_ok am_cat_0 am_v0 (am_e2 (D := 98)), am_cal_ok am_cat_0 am_v0 (am_e3 (D := 98)), am_cal_ok am_cat_0 am_v0 (am_e4 (D := 98)), am_cal_ok am_cat_0 am_v0 (am_e5 (D := 98)), am_cal_ok am_cat_0 am_rcv_f (am_m123 (D := 98) _ _), am_cal_ok am_cat_0 am_rcv_f (am_m121 (D := 97) _), am_cal_ok am_cat_0 am_rcv_f (am_m122 (D := 97) _), am_bI0, am_f0_0, am_f0_1, am_f0_2, am_f0_3, am_f0_4, am_f0_5, am_f0_6, am_f0_7, am_f1_2, am_ec1, am_ec2, am_ec3, am_ec4, am_ec5, am_er_f, am_sy_f, Bool.false_and, Bool.and_false, reduceCtorEq, not_false_eq_true, not_true_eq_false, eq_self, am_os_some, Option.toList_some, Option.toList_none, List.cons_append, List.nil_append, if_true, if_false, true_and, am_nw1_i, am_nw1_r, am_nw1_n, cond_true]
  | some d =>
    rw [hd] at g
    have hd6 := am_fu_le _ _ hd
    have g' : am_CD (am_X0 N xs) 99 67 [.ref 59, .ref 28] (am_L0 q, G) = some (some (.int (nI d)), (am_L0 q, G1)) := g
    have h5 : ¬ nI d < 0 := nI_pos (by omega)
    simp only [am_s115_0, am_s115_1, am_s115_4, am_s115_5, am_s115_8, am_s115_11, am_s115_14, am_s115_15, am_s115_16, am_s115_19, am_s115_22, am_s115_23, am_s115_26, am_s115_27, am_s115_30, am_s115_31, am_s115_34, am_s115_35, am_s115_36, am_s115_37, am_f1_4, am_p28_1, am_cal_ok am_cat_0 am_v59 (g'), h5, am_cal_ok am_cat_0 am_v0 (am_e1 (D := 98)), am_cal_ok am_cat_0 am_v0 (am_e2 (D := 98)), am_cal_ok am_cat_0 am_v0 (am_e3 (D := 98)), am_cal_ok am_cat_0 am_v0 (am_e4 (D := 98)), am_cal_ok am_cat_0 am_v0 (am_e5 (D := 98)), am_cal_ok am_cat_0 am_rcv_f (am_m123 (D := 98) _ _), am_cal_ok am_cat_0 am_rcv_f (am_m121 (D := 97) _), am_cal_ok am_cat_0 am_rcv_f (am_m122 (D := 97) _), am_bI0, am_f0_0, am_f0_1, am_f0_2, am_f0_3, am_f0_4, am_f0_5, am_f0_6, am_f0_7, am_f1_2, am_ec1, am_ec2, am_ec3, am_ec4, am_ec5, am_er_f, am_sy_f, Bool.false_and, Bool.and_false, reduceCtorEq, not_false_eq_true, not_true_eq_false, eq_self, am_os_some, Option.toList_some, Option.toList_none, List.cons_append, List.nil_append, if_true, if_false, true_and, am_nw1_i, am_nw1_r, am_nw1_n, cond_true]
/-- count, told -/
def am_cnt (s : am_St) (w : Nat) : Int32 := if w = 0 then nI (s.1.1 13 0) else if w = 1 then nI (s.1.1 13 1) else if w = 2 then nI (am_sum s.1.1 3 (s.1.1 13 0)) else if w = 3 then nI (am_sum s.1.1 4 (s.1.1 13 0)) else if w = 4 then nI (am_al s.1.1 8) else if w = 5 then am_gs s.1.2.1 s.1.1 (s.1.1 13 0) else if w = 6 then nI s.1.2.2.2.1.2 else if w = 7 then nI s.1.2.2.2.2.1.2 else if w = 8 then nI s.2.2.2.1.length else s.1.2.2.2.2.2
def am_O116 (w : Int32) (s : am_St) : Int32 × am_St :=
  if am_wi w 9 = false then am_er 1 s else am_sy (am_cnt s w.toNatClampNeg) s
theorem am_c116 {w : Int32} {s : am_St} (hs : am_oks s) : am_cO 116 [.int w] s (am_O116 w s) := by
  unfold am_O116
  have hD := hs.1.2.1
  cases h1 : am_wi w 9 with
  | false =>
    refine am_cop_err (k := 1) (by decide) fun X q G hc => am_CD_of (M := am_N116) rfl rfl ?_
    show am_Rn _ _ ((Option.some FieldType.int)) am_J116 0 [some (.ref 0), some (.int w)] [] (am_L0 q, G) _
    simp only [am_s116_0, am_s116_1, am_s116_3, am_s116_6, am_s116_9, am_s116_10, am_s116_11, am_s116_14, am_s116_15, am_s116_16, am_s116_68, am_s116_69, am_s116_72, am_s116_75, am_s116_78, am_s116_79, am_s116_80, am_s116_83, am_s116_86, am_s116_89, am_s116_90, am_s116_91, am_s116_94, am_s116_97, am_s116_100, am_s116_101, am_s116_102, am_s116_105, am_s116_108, am_s116_111, am_s116_112, am_s116_113, am_s116_116, am_s116_119, am_s116_122, am_s116_125, am_s116_126, am_s116_127, am_s116_130, am_s116_133, am_s116_136, am_s116_137, am_s116_138, am_s116_141, am_s116_144, am_s116_147, am_s116_148, am_s116_149, am_s116_152, am_s116_155, am_s116_158, am_s116_159, am_s116_160, am_s116_163, am_s116_166, am_s116_169, am_s116_170, am_s116_171, am_s116_174, am_s116_177, h1, am_cal_ok am_cat_0 am_v0 (am_e1 (D := 98)), am_cal_ok am_cat_0 am_v0 (am_e2 (D := 98)), am_cal_ok am_cat_0 am_v0 (am_e3 (D := 98)), am_cal_ok am_cat_0 am_v0 (am_e4 (D := 98)), am_cal_ok am_cat_0 am_v0 (am_e5 (D := 98)), am_cal_ok am_cat_0 am_rcv_f (am_m123 (D := 98) _ _), am_cal_ok am_cat_0 am_rcv_f (am_m121 (D := 97) _), am_cal_ok am_cat_0 am_rcv_f (am_m122 (D := 97) _), am_bI0, am_f0_0, am_f0_1, am_f0_2, am_f0_3, am_f0_4, am_f0_5, am_f0_6, am_f0_7, am_f1_2, am_ec1, am_ec2, am_ec3, am_ec4, am_ec5, am_er_f, am_sy_f, Bool.false_and, Bool.and_false, reduceCtorEq, not_false_eq_true, not_true_eq_false, eq_self, am_os_some, Option.toList_some, Option.toList_none, List.cons_append, List.nil_append, if_true, if_false, true_and, am_nw1_i, am_nw1_r, am_nw1_n, cond_true]
  | true =>
    rw [if_neg (by decide)]
    obtain ⟨w1, w2⟩ := am_wi_nI (n := 9) (by decide) h1
    generalize w.toNatClampNeg = w at w1 w2
    subst w2
    refine am_cop_same fun N xs q G hc => ?_
    have hn : G 10 8 = nI (s.1.1 13 0) := hc.1.1.2.2.1
    have hd : G 10 9 = nI (s.1.1 13 1) := hc.1.1.2.2.2
    have pre : ∀ (t : Nat) (r : Value) (G1 : am_G), am_tsw 16 154 0 8 #[52, 63, 74, 85, 96, 110, 121, 132, 143] (nI w) = some t → am_Rn (am_X0 N xs) 99 (some .int) am_J116 t [some (.ref 0), some (.int (nI w))] [] (am_L0 q, G) (some r, (am_L0 q, G1)) → am_CD (am_X0 N xs) 100 116 [.ref 0, .int (nI w)] (am_L0 q, G) = some (some r, (am_L0 q, G1)) := fun t r G1 ht h => by
      refine am_CD_of (M := am_N116) rfl rfl ?_
      show am_Rn _ _ ((Option.some FieldType.int)) am_J116 0 [some (.ref 0), some (.int (nI w))] [] (am_L0 q, G) _
      simp only [am_s116_0, am_s116_1, am_s116_3, am_s116_6, am_s116_9, am_s116_10, am_s116_11, am_s116_14, am_s116_15, am_s116_16, h1, ht, am_cal_ok am_cat_0 am_v0 (am_e1 (D := 98)), am_cal_ok am_cat_0 am_v0 (am_e2 (D := 98)), am_cal_ok am_cat_0 am_v0 (am_e3 (D := 98)), am_cal_ok am_cat_0 am_v0 (am_e4 (D := 98)), am_cal_ok am_cat_0 am_v0 (am_e5 (D := 98)), am_cal_ok am_cat_0 am_rcv_f (am_m123 (D := 98) _ _), am_cal_ok am_cat_0 am_rcv_f (am_m121 (D := 97) _), am_cal_ok am_cat_0 am_rcv_f (am_m122 (D := 97) _), am_bI0, am_f0_0, am_f0_1, am_f0_2, am_f0_3, am_f0_4, am_f0_5, am_f0_6, am_f0_7, am_f1_2, am_ec1, am_ec2, am_ec3, am_ec4, am_ec5, am_er_f, am_sy_f, Bool.false_and, Bool.and_false, reduceCtorEq, not_false_eq_true, not_true_eq_false, eq_self, am_os_some, Option.toList_some, Option.toList_none, List.cons_append, List.nil_append, if_true, if_false, true_and, am_nw1_i, am_nw1_r, am_nw1_n, cond_true]
      exact h
    match w, w1, pre with
    | 0, _, pre =>
      refine ⟨q, G, fun _ _ _ => rfl, pre 68 _ _ (by decide +kernel) ?_⟩
      simp only [am_s116_68, am_s116_69, am_s116_72, am_s116_75, am_s116_78, am_f10_8, hn, am_cal_ok am_cat_0 am_v0 (am_e1 (D := 98)), am_cal_ok am_cat_0 am_v0 (am_e2 (D := 98)), am_cal_ok am_cat_0 am_v0 (am_e3 (D := 98)), am_cal_ok am_cat_0 am_v0 (am_e4 (D := 98)), am_cal_ok am_cat_0 am_v0 (am_e5 (D := 98)), am_cal_ok am_cat_0 am_rcv_f (am_m123 (D := 98) _ _), am_cal_ok am_cat_0 am_rcv_f (am_m121 (D := 97) _), am_cal_ok am_cat_0 am_rcv_f (am_m122 (D := 97) _), am_bI0, am_f0_0, am_f0_1, am_f0_2, am_f0_3, am_f0_4, am_f0_5, am_f0_6, am_f0_7, am_f1_2, am_ec1, am_ec2, am_ec3, am_ec4, am_ec5, am_er_f, am_sy_f, Bool.false_and, Bool.and_false, reduceCtorEq, not_false_eq_true, not_true_eq_false, eq_self, am_os_some, Option.toList_some, Option.toList_none, List.cons_append, List.nil_append, if_true, if_false, true_and, am_nw1_i, am_nw1_r, am_nw1_n, cond_true]; rfl
    | 1, _, pre =>
      refine ⟨q, G, fun _ _ _ => rfl, pre 79 _ _ (by decide +kernel) ?_⟩
      simp only [am_s116_79, am_s116_80, am_s116_83, am_s116_86, am_s116_89, am_f10_9, hd, am_cal_ok am_cat_0 am_v0 (am_e1 (D := 98)), am_cal_ok am_cat_0 am_v0 (am_e2 (D := 98)), am_cal_ok am_cat_0 am_v0 (am_e3 (D := 98)), am_cal_ok am_cat_0 am_v0 (am_e4 (D := 98)), am_cal_ok am_cat_0 am_v0 (am_e5 (D := 98)), am_cal_ok am_cat_0 am_rcv_f (am_m123 (D := 98) _ _), am_cal_ok am_cat_0 am_rcv_f (am_m121 (D := 97) _), am_cal_ok am_cat_0 am_rcv_f (am_m122 (D := 97) _), am_bI0, am_f0_0, am_f0_1, am_f0_2, am_f0_3, am_f0_4, am_f0_5, am_f0_6, am_f0_7, am_f1_2, am_ec1, am_ec2, am_ec3, am_ec4, am_ec5, am_er_f, am_sy_f, Bool.false_and, Bool.and_false, reduceCtorEq, not_false_eq_true, not_true_eq_false, eq_self, am_os_some, Option.toList_some, Option.toList_none, List.cons_append, List.nil_append, if_true, if_false, true_and, am_nw1_i, am_nw1_r, am_nw1_n, cond_true]; rfl
    | 2, _, pre =>
      refine ⟨q, G, fun _ _ _ => rfl, pre 90 _ _ (by decide +kernel) ?_⟩
      simp only [am_s116_90, am_s116_91, am_s116_94, am_s116_97, am_s116_100, am_cal_ok am_cat_0 am_v10 (am_m28 (D := 98) (am_ist_p am_10) hc.1.1 hs.1.1), am_cal_ok am_cat_0 am_v0 (am_e1 (D := 98)), am_cal_ok am_cat_0 am_v0 (am_e2 (D := 98)), am_cal_ok am_cat_0 am_v0 (am_e3 (D := 98)), am_cal_ok am_cat_0 am_v0 (am_e4 (D := 98)), am_cal_ok am_cat_0 am_v0 (am_e5 (D := 98)), am_cal_ok am_cat_0 am_rcv_f (am_m123 (D := 98) _ _), am_cal_ok am_cat_0 am_rcv_f (am_m121 (D := 97) _), am_cal_ok am_cat_0 am_rcv_f (am_m122 (D := 97) _), am_bI0, am_f0_0, am_f0_1, am_f0_2, am_f0_3, am_f0_4, am_f0_5, am_f0_6, am_f0_7, am_f1_2, am_ec1, am_ec2, am_ec3, am_ec4, am_ec5, am_er_f, am_sy_f, Bool.false_and, Bool.and_false, reduceCtorEq, not_false_eq_true, not_true_eq_false, eq_self, am_os_some, Option.toList_some, Option.toList_none, List.cons_append, List.nil_append, if_true, if_false, true_and, am_nw1_i, am_nw1_r, am_nw1_n, cond_true]; rfl
    | 3, _, pre =>
      refine ⟨q, G, fun _ _ _ => rfl, pre 101 _ _ (by decide +kernel) ?_⟩
      simp only [am_s116_101, am_s116_102, am_s116_105, am_s116_108, am_s116_111, am_cal_ok am_cat_0 am_v10 (am_m29 (D := 98) (am_ist_p am_10) hc.1.1 hs.1.1), am_cal_ok am_cat_0 am_v0 (am_e1 (D := 98)), am_cal_ok am_cat_0 am_v0 (am_e2 (D := 98)), am_cal_ok am_cat_0 am_v0 (am_e3 (D := 98)), am_cal_ok am_cat_0 am_v0 (am_e4 (D := 98)), am_cal_ok am_cat_0 am_v0 (am_e5 (D := 98)), am_cal_ok am_cat_0 am_rcv_f (am_m123 (D := 98) _ _), am_cal_ok am_cat_0 am_rcv_f (am_m121 (D := 97) _), am_cal_ok am_cat_0 am_rcv_f (am_m122 (D := 97) _), am_bI0, am_f0_0, am_f0_1, am_f0_2, am_f0_3, am_f0_4, am_f0_5, am_f0_6, am_f0_7, am_f1_2, am_ec1, am_ec2, am_ec3, am_ec4, am_ec5, am_er_f, am_sy_f, Bool.false_and, Bool.and_false, reduceCtorEq, not_false_eq_true, not_true_eq_false, eq_self, am_os_some, Option.toList_some, Option.toList_none, List.cons_append, List.nil_append, if_true, if_false, true_and, am_nw1_i, am_nw1_r, am_nw1_n, cond_true]; rfl
    | 4, _, pre =>
      refine ⟨q, G, fun _ _ _ => rfl, pre 112 _ _ (by decide +kernel) ?_⟩
      have g := am_m4 (X := am_X0 N xs) (D := 98) (q := q) (am_ist_p am_10) hc.1.1
      simp only [am_s116_112, am_s116_113, am_s116_116, am_s116_119, am_s116_122, am_s116_125, am_f10_7, am_cal_ok am_cat_0 am_v16 (g), am_cal_ok am_cat_0 am_v0 (am_e1 (D := 98)), am_cal_ok am_cat_0 am_v0 (am_e2 (D := 98)), am_cal_ok am_cat_0 am_v0 (am_e3 (D := 98)), am_cal_ok am_cat_0 am_v0 (am_e4 (D := 98)), am_cal_ok am_cat_0 am_v0 (am_e5 (D := 98)), am_cal_ok am_cat_0 am_rcv_f (am_m123 (D := 98) _ _), am_cal_ok am_cat_0 am_rcv_f (am_m121 (D := 97) _), am_cal_ok am_cat_0 am_rcv_f (am_m122 (D := 97) _), am_bI0, am_f0_0, am_f0_1, am_f0_2, am_f0_3, am_f0_4, am_f0_5, am_f0_6, am_f0_7, am_f1_2, am_ec1, am_ec2, am_ec3, am_ec4, am_ec5, am_er_f, am_sy_f, Bool.false_and, Bool.and_false, reduceCtorEq, not_false_eq_true, not_true_eq_false, eq_self, am_os_some, Option.toList_some, Option.toList_none, List.cons_append, List.nil_append, if_true, if_false, true_and, am_nw1_i, am_nw1_r, am_nw1_n, cond_true]; rfl
    | 5, _, pre =>
      obtain ⟨G1, f1, g⟩ := am_m27 (X := am_X0 N xs) (D := 94) (q := q) am_10 hc.1.1 hs.1.1 hc.1.2.1 hs.1.2.2.1 (by omega)
      refine ⟨q, G1, fun i j h => f1 i j h.1, pre 126 _ _ (by decide +kernel) ?_⟩
      simp only [am_s116_126, am_s116_127, am_s116_130, am_s116_133, am_s116_136, am_cal_ok am_cat_0 am_v10 (g), am_cal_ok am_cat_0 am_v0 (am_e1 (D := 98)), am_cal_ok am_cat_0 am_v0 (am_e2 (D := 98)), am_cal_ok am_cat_0 am_v0 (am_e3 (D := 98)), am_cal_ok am_cat_0 am_v0 (am_e4 (D := 98)), am_cal_ok am_cat_0 am_v0 (am_e5 (D := 98)), am_cal_ok am_cat_0 am_rcv_f (am_m123 (D := 98) _ _), am_cal_ok am_cat_0 am_rcv_f (am_m121 (D := 97) _), am_cal_ok am_cat_0 am_rcv_f (am_m122 (D := 97) _), am_bI0, am_f0_0, am_f0_1, am_f0_2, am_f0_3, am_f0_4, am_f0_5, am_f0_6, am_f0_7, am_f1_2, am_ec1, am_ec2, am_ec3, am_ec4, am_ec5, am_er_f, am_sy_f, Bool.false_and, Bool.and_false, reduceCtorEq, not_false_eq_true, not_true_eq_false, eq_self, am_os_some, Option.toList_some, Option.toList_none, List.cons_append, List.nil_append, if_true, if_false, true_and, am_nw1_i, am_nw1_r, am_nw1_n, cond_true]; rfl
    | 6, _, pre =>
      have e : G 26 1 = nI s.1.2.2.2.1.2 := hc.1.2.2.2.1.1
      refine ⟨q, G, fun _ _ _ => rfl, pre 137 _ _ (by decide +kernel) ?_⟩
      simp only [am_s116_137, am_s116_138, am_s116_141, am_s116_144, am_s116_147, am_f1_3, am_f26_1, e, am_cal_ok am_cat_0 am_v0 (am_e1 (D := 98)), am_cal_ok am_cat_0 am_v0 (am_e2 (D := 98)), am_cal_ok am_cat_0 am_v0 (am_e3 (D := 98)), am_cal_ok am_cat_0 am_v0 (am_e4 (D := 98)), am_cal_ok am_cat_0 am_v0 (am_e5 (D := 98)), am_cal_ok am_cat_0 am_rcv_f (am_m123 (D := 98) _ _), am_cal_ok am_cat_0 am_rcv_f (am_m121 (D := 97) _), am_cal_ok am_cat_0 am_rcv_f (am_m122 (D := 97) _), am_bI0, am_f0_0, am_f0_1, am_f0_2, am_f0_3, am_f0_4, am_f0_5, am_f0_6, am_f0_7, am_f1_2, am_ec1, am_ec2, am_ec3, am_ec4, am_ec5, am_er_f, am_sy_f, Bool.false_and, Bool.and_false, reduceCtorEq, not_false_eq_true, not_true_eq_false, eq_self, am_os_some, Option.toList_some, Option.toList_none, List.cons_append, List.nil_append, if_true, if_false, true_and, am_nw1_i, am_nw1_r, am_nw1_n, cond_true]; rfl
    | 7, _, pre =>
      have e : G 28 1 = nI s.1.2.2.2.2.1.2 := hc.1.2.2.2.2.1.1
      refine ⟨q, G, fun _ _ _ => rfl, pre 148 _ _ (by decide +kernel) ?_⟩
      simp only [am_s116_148, am_s116_149, am_s116_152, am_s116_155, am_s116_158, am_f1_4, am_f28_1, e, am_cal_ok am_cat_0 am_v0 (am_e1 (D := 98)), am_cal_ok am_cat_0 am_v0 (am_e2 (D := 98)), am_cal_ok am_cat_0 am_v0 (am_e3 (D := 98)), am_cal_ok am_cat_0 am_v0 (am_e4 (D := 98)), am_cal_ok am_cat_0 am_v0 (am_e5 (D := 98)), am_cal_ok am_cat_0 am_rcv_f (am_m123 (D := 98) _ _), am_cal_ok am_cat_0 am_rcv_f (am_m121 (D := 97) _), am_cal_ok am_cat_0 am_rcv_f (am_m122 (D := 97) _), am_bI0, am_f0_0, am_f0_1, am_f0_2, am_f0_3, am_f0_4, am_f0_5, am_f0_6, am_f0_7, am_f1_2, am_ec1, am_ec2, am_ec3, am_ec4, am_ec5, am_er_f, am_sy_f, Bool.false_and, Bool.and_false, reduceCtorEq, not_false_eq_true, not_true_eq_false, eq_self, am_os_some, Option.toList_some, Option.toList_none, List.cons_append, List.nil_append, if_true, if_false, true_and, am_nw1_i, am_nw1_r, am_nw1_n, cond_true]; rfl
    | 8, _, pre =>
      have e : G 102 1 = nI s.2.2.2.1.length := hc.2.2.2.1.1
      refine ⟨q, G, fun _ _ _ => rfl, pre 159 _ _ (by decide +kernel) ?_⟩
      simp only [am_s116_159, am_s116_160, am_s116_163, am_s116_166, am_s116_169, am_f101_0, am_f102_1, e, am_cal_ok am_cat_0 am_v0 (am_e1 (D := 98)), am_cal_ok am_cat_0 am_v0 (am_e2 (D := 98)), am_cal_ok am_cat_0 am_v0 (am_e3 (D := 98)), am_cal_ok am_cat_0 am_v0 (am_e4 (D := 98)), am_cal_ok am_cat_0 am_v0 (am_e5 (D := 98)), am_cal_ok am_cat_0 am_rcv_f (am_m123 (D := 98) _ _), am_cal_ok am_cat_0 am_rcv_f (am_m121 (D := 97) _), am_cal_ok am_cat_0 am_rcv_f (am_m122 (D := 97) _), am_bI0, am_f0_0, am_f0_1, am_f0_2, am_f0_3, am_f0_4, am_f0_5, am_f0_6, am_f0_7, am_f1_2, am_ec1, am_ec2, am_ec3, am_ec4, am_ec5, am_er_f, am_sy_f, Bool.false_and, Bool.and_false, reduceCtorEq, not_false_eq_true, not_true_eq_false, eq_self, am_os_some, Option.toList_some, Option.toList_none, List.cons_append, List.nil_append, if_true, if_false, true_and, am_nw1_i, am_nw1_r, am_nw1_n, cond_true]; rfl
    | 9, _, pre =>
      have e : G 1 5 = s.1.2.2.2.2.2 := hc.1.2.2.2.2.2
      refine ⟨q, G, fun _ _ _ => rfl, pre 170 _ _ (by decide +kernel) ?_⟩
      simp only [am_s116_170, am_s116_171, am_s116_174, am_s116_177, am_f1_5, e, am_cal_ok am_cat_0 am_v0 (am_e1 (D := 98)), am_cal_ok am_cat_0 am_v0 (am_e2 (D := 98)), am_cal_ok am_cat_0 am_v0 (am_e3 (D := 98)), am_cal_ok am_cat_0 am_v0 (am_e4 (D := 98)), am_cal_ok am_cat_0 am_v0 (am_e5 (D := 98)), am_cal_ok am_cat_0 am_rcv_f (am_m123 (D := 98) _ _), am_cal_ok am_cat_0 am_rcv_f (am_m121 (D := 97) _), am_cal_ok am_cat_0 am_rcv_f (am_m122 (D := 97) _), am_bI0, am_f0_0, am_f0_1, am_f0_2, am_f0_3, am_f0_4, am_f0_5, am_f0_6, am_f0_7, am_f1_2, am_ec1, am_ec2, am_ec3, am_ec4, am_ec5, am_er_f, am_sy_f, Bool.false_and, Bool.and_false, reduceCtorEq, not_false_eq_true, not_true_eq_false, eq_self, am_os_some, Option.toList_some, Option.toList_none, List.cons_append, List.nil_append, if_true, if_false, true_and, am_nw1_i, am_nw1_r, am_nw1_n, cond_true]; rfl
def am_O117 (k : Int32) (s : am_St) : Int32 × am_St :=
  if k < 1 ∨ ¬ k ≤ 5 then am_er 1 s else am_sy (s.2.2.2.2.1 k.toNatClampNeg) s
theorem am_c117 {k : Int32} {s : am_St} : am_cO 117 [.int k] s (am_O117 k s) := by
  unfold am_O117
  by_cases h1 : k < 1
  · rw [if_pos (Or.inl h1)]
    refine am_cop_err (k := 1) (by decide) fun X q G hc => am_CD_of (M := am_N117) rfl rfl ?_
    show am_Rn _ _ ((Option.some FieldType.int)) am_J117 0 [some (.ref 0), some (.int k)] [] (am_L0 q, G) _
    simp only [am_s117_0, am_s117_1, am_s117_2, am_s117_5, am_s117_6, am_s117_7, am_s117_10, am_s117_11, am_s117_12, am_s117_15, am_s117_16, am_s117_17, am_s117_20, am_s117_21, am_s117_22, h1, am_cal_ok am_cat_0 am_v0 (am_e1 (D := 98)), am_cal_ok am_cat_0 am_v0 (am_e2 (D := 98)), am_cal_ok am_cat_0 am_v0 (am_e3 (D := 98)), am_cal_ok am_cat_0 am_v0 (am_e4 (D := 98)), am_cal_ok am_cat_0 am_v0 (am_e5 (D := 98)), am_cal_ok am_cat_0 am_rcv_f (am_m123 (D := 98) _ _), am_cal_ok am_cat_0 am_rcv_f (am_m121 (D := 97) _), am_cal_ok am_cat_0 am_rcv_f (am_m122 (D := 97) _), am_bI0, am_f0_0, am_f0_1, am_f0_2, am_f0_3, am_f0_4, am_f0_5, am_f0_6, am_f0_7, am_f1_2, am_ec1, am_ec2, am_ec3, am_ec4, am_ec5, am_er_f, am_sy_f, Bool.false_and, Bool.and_false, reduceCtorEq, not_false_eq_true, not_true_eq_false, eq_self, am_os_some, Option.toList_some, Option.toList_none, List.cons_append, List.nil_append, if_true, if_false, true_and, am_nw1_i, am_nw1_r, am_nw1_n, cond_true]
  · by_cases h2 : k ≤ 5
    · rw [if_neg (by simp only [h1, h2]; simp)]
      have h0 : ¬ k < 0 := fun h => h1 (Int32.lt_trans h (by decide))
      obtain ⟨m, hm, rfl⟩ := nI_of2 (n := 5) (by decide) h0 h2
      rw [nI_clamp (show m < 2 ^ 31 by omega)]
      refine am_cop_same fun N xs q G hc => ?_
      have e := hc.2.2.2.2.1 m (by omega)
      refine ⟨q, G, fun _ _ _ => rfl, am_CD_of (M := am_N117) rfl rfl ?_⟩
      show am_Rn _ _ ((Option.some FieldType.int)) am_J117 0 [some (.ref 0), some (.int (nI m))] [] (am_L0 q, G) _
      simp only [am_s117_0, am_s117_1, am_s117_2, am_s117_5, am_s117_6, am_s117_7, am_s117_10, am_s117_11, am_s117_12, am_s117_15, am_s117_16, am_s117_17, am_s117_20, am_s117_21, am_s117_22, h1, h2, am_a105, am_in_nI (show m < 6 by omega) (by decide), nI_clamp (show m < 2 ^ 31 by omega), e, am_cal_ok am_cat_0 am_v0 (am_e1 (D := 98)), am_cal_ok am_cat_0 am_v0 (am_e2 (D := 98)), am_cal_ok am_cat_0 am_v0 (am_e3 (D := 98)), am_cal_ok am_cat_0 am_v0 (am_e4 (D := 98)), am_cal_ok am_cat_0 am_v0 (am_e5 (D := 98)), am_cal_ok am_cat_0 am_rcv_f (am_m123 (D := 98) _ _), am_cal_ok am_cat_0 am_rcv_f (am_m121 (D := 97) _), am_cal_ok am_cat_0 am_rcv_f (am_m122 (D := 97) _), am_bI0, am_f0_0, am_f0_1, am_f0_2, am_f0_3, am_f0_4, am_f0_5, am_f0_6, am_f0_7, am_f1_2, am_ec1, am_ec2, am_ec3, am_ec4, am_ec5, am_er_f, am_sy_f, Bool.false_and, Bool.and_false, reduceCtorEq, not_false_eq_true, not_true_eq_false, eq_self, am_os_some, Option.toList_some, Option.toList_none, List.cons_append, List.nil_append, if_true, if_false, true_and, am_nw1_i, am_nw1_r, am_nw1_n, cond_true]
    · rw [if_pos (Or.inr h2)]
      refine am_cop_err (k := 1) (by decide) fun X q G hc => am_CD_of (M := am_N117) rfl rfl ?_
      show am_Rn _ _ ((Option.some FieldType.int)) am_J117 0 [some (.ref 0), some (.int k)] [] (am_L0 q, G) _
      simp only [am_s117_0, am_s117_1, am_s117_2, am_s117_5, am_s117_6, am_s117_7, am_s117_10, am_s117_11, am_s117_12, am_s117_15, am_s117_16, am_s117_17, am_s117_20, am_s117_21, am_s117_22, h1, h2, am_cal_ok am_cat_0 am_v0 (am_e1 (D := 98)), am_cal_ok am_cat_0 am_v0 (am_e2 (D := 98)), am_cal_ok am_cat_0 am_v0 (am_e3 (D := 98)), am_cal_ok am_cat_0 am_v0 (am_e4 (D := 98)), am_cal_ok am_cat_0 am_v0 (am_e5 (D := 98)), am_cal_ok am_cat_0 am_rcv_f (am_m123 (D := 98) _ _), am_cal_ok am_cat_0 am_rcv_f (am_m121 (D := 97) _), am_cal_ok am_cat_0 am_rcv_f (am_m122 (D := 97) _), am_bI0, am_f0_0, am_f0_1, am_f0_2, am_f0_3, am_f0_4, am_f0_5, am_f0_6, am_f0_7, am_f1_2, am_ec1, am_ec2, am_ec3, am_ec4, am_ec5, am_er_f, am_sy_f, Bool.false_and, Bool.and_false, reduceCtorEq, not_false_eq_true, not_true_eq_false, eq_self, am_os_some, Option.toList_some, Option.toList_none, List.cons_append, List.nil_append, if_true, if_false, true_and, am_nw1_i, am_nw1_r, am_nw1_n, cond_true]
end AMOP5
