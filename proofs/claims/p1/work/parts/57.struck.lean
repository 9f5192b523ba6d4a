/-! struck(1): both sides -/
theorem am_op63 : (match am_call am_none 100000 40 63 [.ref 59, .int 0] am_W0 with
  | some (some (.ref r), w1) => decide (r = 60) && (decide (w1.1 = am_L0 1000) && (((List.range 8).all fun i => (List.range 8).all fun j => decide (w1.2 (68 + i) j = 0)) && (decide (w1.2 115 2 = 0) && (List.range 64).all fun k => decide (w1.2 115 (47 + k) = 0))))
  | _ => false) = true := by decide +kernel
section AMSTR
variable {X : am_X} {D q : Nat}
theorem am_m63 : ∃ G' : am_G, am_Z G' ∧ G' 115 2 = 0 ∧ (∀ k, k < 64 → G' 115 (47 + k) = 0) ∧ am_CD X (D + 40) 63 [.ref 59, .int 0] (am_L0 1000, am_g0) = some (some (.ref 60), (am_L0 1000, G')) := by
  have h := am_op63
  generalize e : am_call am_none 100000 40 63 [.ref 59, .int 0] am_W0 = z at h
  rcases z with _ | ⟨v, w1⟩
  · cases h
  rcases v with _ | v
  · cases h
  cases v with
  | ref r =>
    simp only [Bool.and_eq_true, decide_eq_true_eq, List.all_eq_true, List.mem_range] at h
    obtain ⟨a, b, c, d, f⟩ := h
    have h1 := am_CD_up (X := X) (X' := X) (fun _ _ hh => hh) 40 (D + 40) 63 _ _ _ (by omega) (am_call_CD (X' := X) (fun i q hh => by cases hh) 40 63 _ _ _ e)
    have e3 : w1 = (am_L0 1000, w1.2) := by rw [← b]
    rw [e3] at h1
    subst a
    exact ⟨w1.2, fun i j hi hj => c i hi j hj, d, f, h1⟩
  | _ => cases h
theorem am_o101b : ∃ G' : am_G, G' 115 2 = 0 ∧ (∀ k, k < 64 → G' 115 (47 + k) = 0) ∧ am_CD X (D + 44) 101 [.ref 0, .int 1] (am_L0 1000, am_g0) = some (some (.int 0), (am_L0 1000, G')) := by
  obtain ⟨G1, z1, a1, b1, g1⟩ := am_m63 (X := X) (D := D + 3)
  obtain ⟨G2, e2, z2, g2⟩ := am_m6z (X := X) (D := D + 41) (q := 1000) z1
  refine ⟨G2, by rw [e2 115 2 (by decide), a1], fun k hk => by rw [e2 115 (47 + k) (by decide)]; exact b1 k hk, ?_⟩
  refine am_CD_of (M := am_N101) rfl rfl ?_
  show am_Rn _ _ ((Option.some FieldType.int)) am_J101 0 [some (.ref 0), some (.int 1), none, none] [] (am_L0 1000, am_g0) _
  have hw : am_wi 1 1 = true := by decide +kernel
  have h10 : ((1 : Int32) = 0) = False := by decide
  simp only [am_s101_0, am_s101_1, am_s101_2, am_s101_5, am_s101_8, am_s101_9, am_s101_10, am_s101_13, am_s101_14, am_s101_15, am_s101_18, am_s101_19, am_s101_22, am_s101_25, am_s101_26, am_s101_27, am_s101_30, am_s101_31, am_s101_32, am_s101_35, am_s101_36, am_s101_39, am_s101_40, am_s101_43, am_cal_ok am_cat_0 am_rcv_f (am_m123 _ _), hw, h10, am_f0_2, am_cal_ok am_cat_0 am_v59 g1, am_f60_7, am_cal_ok am_cat_0 am_v66 g2, am_cal_ok am_cat_0 am_v66 (am_m4z z2), am_os_some, Option.toList_some, List.cons_append, List.nil_append, am_bI0, reduceCtorEq, if_true, if_false, true_and, am_nw1_i, am_nw1_r, am_nw1_n]
theorem am_m173z {G : am_G} (hs : G 115 2 = 0) : am_CD X (D + 1) 173 [.ref 114] (am_L0 q, G) = some (some (.int 0), (am_L0 q, G)) := by
  have e2 : (2 : Int32).toNatClampNeg = 2 := by decide +kernel
  have h2 : am_in 2 281 = true := by decide +kernel
  have e0 : ((0 : Int32) < 0 * 0) = False := by decide
  refine am_CD_of (M := am_N173) rfl rfl ?_
  show am_Rn _ _ ((Option.some FieldType.boolean)) am_J173 0 [some (.ref 114), none] [] (am_L0 q, G) _
  simp only [am_s173_0, am_s173_1, am_s173_2, am_s173_3, am_s173_4, am_s173_7, am_s173_8, am_s173_9, am_s173_10, am_s173_13, am_s173_14, am_s173_15, am_s173_16, am_s173_97, am_s173_98, am_f114_0, am_a115, h2, e2, hs, e0, cond_true, am_os_some, if_false, true_and, true_or, am_nw1_i, am_nw1_r, am_nw1_n]
theorem am_m174z {G : am_G} (hs : G 115 2 = 0) : am_CD X (D + 1) 174 [.ref 114] (am_L0 q, G) = some (some (.int 0), (am_L0 q, G)) := by
  have e2 : (2 : Int32).toNatClampNeg = 2 := by decide +kernel
  have h2 : am_in 2 281 = true := by decide +kernel
  have e0 : ((0 : Int32) < 0 * 0 * 0) = False := by decide
  refine am_CD_of (M := am_N174) rfl rfl ?_
  show am_Rn _ _ ((Option.some FieldType.boolean)) am_J174 0 [some (.ref 114), none, none] [] (am_L0 q, G) _
  simp only [am_s174_0, am_s174_1, am_s174_4, am_s174_5, am_s174_6, am_s174_7, am_s174_8, am_s174_9, am_s174_10, am_s174_11, am_s174_12, am_s174_13, am_s174_14, am_s174_15, am_s174_118, am_s174_119, am_f114_0, am_a115, h2, e2, hs, e0, cond_true, am_os_some, if_false, true_and, true_or, am_nw1_i, am_nw1_r, am_nw1_n]
theorem am_m176z {G : am_G} (hs : G 115 2 = 0) : am_CD X (D + 2) 176 [.ref 114] (am_L0 q, G) = some (some (.int 0), (am_L0 q, G)) := by
  refine am_CD_of (M := am_N176) rfl rfl ?_
  show am_Rn _ _ ((Option.some FieldType.int)) am_J176 0 [some (.ref 114), none, none, none] [] (am_L0 q, G) _
  simp only [am_s176_0, am_s176_1, am_s176_2, am_s176_3, am_s176_6, am_s176_9, am_s176_10, am_s176_13, am_s176_166, am_s176_167, am_cal_ok am_cat_0 am_v114 (am_m173z hs), am_cal_ok am_cat_0 am_v114 (am_m174z hs), am_os_some, Option.toList_some, List.cons_append, List.nil_append, if_true, true_and, am_nw1_i, am_nw1_r, am_nw1_n]
theorem am_l178 {G : am_G} (h : ∀ k, k < 64 → G 115 (47 + k) = 0) : ∀ (d k : Nat), k + d = 64 → ∀ o, am_Rn X D (some .int) am_J178 4 [some (.ref 114), some (.int 0), some (.int (nI k))] [] (am_L0 q, G) o = am_Rn X D (some .int) am_J178 28 [some (.ref 114), some (.int 0), some (.int (nI 64))] [] (am_L0 q, G) o := by
  intro d
  induction d with
  | zero =>
    intro k hk o
    obtain rfl : k = 64 := by omega
    have h8 : ¬ nI 64 < 64 := by decide +kernel
    simp only [am_s178_4, am_s178_5, am_s178_7, h8, if_false]
  | succ d ih =>
    intro k hk o
    have h8 : nI k < 64 := nI_lt (show k < 64 by omega) (by decide)
    have hi : nI k + 1 = nI (k + 1) := nI_add k 1
    have h47 : (47 : Int32) + nI k = nI (47 + k) := nI_add 47 k
    have hc : (nI (47 + k)).toNatClampNeg = 47 + k := nI_clamp (by omega)
    have e0 : (0 : Int32) + 0 = 0 := by decide
    simp only [am_s178_4, am_s178_5, am_s178_7, am_s178_10, am_s178_11, am_s178_12, am_s178_15, am_s178_17, am_s178_18, am_s178_19, am_s178_20, am_s178_21, am_s178_22, h8, h47, hc, am_f114_0, am_a115, am_in_nI (show 47 + k < 281 by omega) (by decide), h k (by omega), e0, cond_true, am_os_some, if_true, true_and, am_nw1_i, am_nw1_r, am_nw1_n]
    rw [am_s178_25, hi]
    exact ih (k + 1) (by omega) o
theorem am_m178z {G : am_G} (h : ∀ k, k < 64 → G 115 (47 + k) = 0) : am_CD X (D + 1) 178 [.ref 114] (am_L0 q, G) = some (some (.int 0), (am_L0 q, G)) := by
  refine am_CD_of (M := am_N178) rfl rfl ?_
  show am_Rn _ _ ((Option.some FieldType.int)) am_J178 0 [some (.ref 114), none, none] [] (am_L0 q, G) _
  simp only [am_s178_0, am_s178_1, am_s178_2, am_s178_3, true_and, am_nw1_i, am_nw1_r, am_nw1_n]
  have := am_l178 (X := X) (D := D) (q := q) h 64 0 rfl (some (.int 0), (am_L0 q, G))
  rw [nI_0] at this
  refine this.mpr ?_
  simp only [am_s178_28, am_s178_29, true_and]
theorem am_o179b {G : am_G} (hs : G 115 2 = 0) (h : ∀ k, k < 64 → G 115 (47 + k) = 0) : ∃ G' : am_G, am_CD X (D + 4) 179 [.ref 114, .int 1] (am_L0 q, G) = some (some (.int 0), (am_L0 q, G')) := by
  obtain ⟨G1, e1, g1⟩ := am_m128g (X := X) (D := D + 2) (q := q) (G := G) (a := 115) (b := 117) (fun _ _ => rfl) (fun _ _ _ => rfl)
  have s1 : G1 115 2 = 0 := by rw [e1 115 2 (by decide), hs]
  have h1 : ∀ k, k < 64 → G1 115 (47 + k) = 0 := fun k hk => by rw [e1 115 _ (by decide)]; exact h k hk
  obtain ⟨G2, e2, g2⟩ := am_m128g (X := X) (D := D + 2) (q := q) (G := G1) (a := 117) (b := 115) (fun _ _ => rfl) (fun _ _ _ => rfl)
  refine ⟨G2, ?_⟩
  refine am_CD_of (M := am_N179) rfl rfl ?_
  show am_Rn _ _ ((Option.some FieldType.int)) am_J179 0 [some (.ref 114), some (.int 1), none, none] [] (am_L0 q, G) _
  have hw : am_wi 1 1 = true := by decide +kernel
  have h10 : ((1 : Int32) = 0) = False := by decide
  simp only [am_s179_0, am_s179_1, am_s179_2, am_s179_3, am_s179_6, am_s179_9, am_s179_10, am_s179_12, am_s179_15, am_s179_16, am_s179_17, am_s179_18, am_s179_21, am_s179_22, am_s179_25, am_s179_28, am_s179_29, am_s179_32, am_s179_33, am_s179_34, am_s179_37, am_s179_38, am_s179_39, am_s179_40, am_s179_43, am_s179_44, am_s179_47, am_s179_50, am_s179_51, am_s179_54, am_s179_55, am_s179_58, am_s179_59, am_cal_ok am_cat_0 am_rcv_f (am_m125z _ _), hw, h10, am_f114_0, am_f114_2, am_cal_ok am_cat_0 am_v114 g1, am_cal_ok am_cat_0 am_v114 g2, am_cal_ok am_cat_0 am_v114 (am_m176z s1), am_cal_ok am_cat_0 am_v114 (am_m178z h1), am_os_some, Option.toList_some, Option.toList_none, List.cons_append, List.nil_append, am_bI0, reduceCtorEq, if_true, if_false, true_and, am_nw1_i, am_nw1_r, am_nw1_n]
end AMSTR
theorem am_p20c : am_G2 101 179 [.int 1] := by
  intro X
  obtain ⟨G1, a1, b1, g1⟩ := am_o101b (X := X) (D := 6)
  obtain ⟨G2, g2⟩ := am_o179b (X := X) (D := 46) (q := 1000) a1 b1
  exact ⟨_, _, _, _, g1, g2⟩
