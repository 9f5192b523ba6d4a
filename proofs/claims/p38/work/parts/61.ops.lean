/-! the class's calls as functions of the state -/
abbrev am_St : Type := am_We × am_We × Nat × List Int32 × (Nat → Int32) × am_Sh
def am_cO (t : Nat) (as : List Value) (s : am_St) (r : Int32 × am_St) : Prop := am_cop t as s.1 s.2.1 s.2.2.1 s.2.2.2.1 s.2.2.2.2.1 s.2.2.2.2.2 r.1 r.2.1 r.2.2.1 r.2.2.2.1 r.2.2.2.2.1 r.2.2.2.2.2.1 r.2.2.2.2.2.2
def am_ec (k : Nat) : Int32 := -1000000000 - nI k
theorem am_ec1 : am_ec 1 = -1000000001 := by decide +kernel
theorem am_ec2 : am_ec 2 = -1000000002 := by decide +kernel
theorem am_ec3 : am_ec 3 = -1000000003 := by decide +kernel
theorem am_ec4 : am_ec 4 = -1000000004 := by decide +kernel
theorem am_ec5 : am_ec 5 = -1000000005 := by decide +kernel
def am_er (k : Nat) (s : am_St) : Int32 × am_St := (am_ec k, s.1, s.2.1, s.2.2.1, s.2.2.2.1, am_ue s.2.2.2.2.1 k, s.2.2.2.2.2)
theorem am_er_f (k : Nat) (s : am_St) : (am_er k s).1 = am_ec k := rfl
def am_sy (v : Int32) (s : am_St) : Int32 × am_St := (v, s)
theorem am_sy_f (v : Int32) (s : am_St) : (am_sy v s).1 = v := rfl
def am_sS (S : am_S) (s : am_St) : am_St := ((S, s.1.2), s.2)
/-- what a state keeps to -/
def am_oks (s : am_St) : Prop := am_wwf s.1 ∧ am_wwf s.2.1 ∧ s.2.2.2.1.length ≤ 40 ∧ ∀ j, j < 4 → (s.2.2.2.2.2 j).2.1 ≤ 40 ∧ ((s.2.2.2.2.2 j).1 = 0 ∨ (s.2.2.2.2.2 j).1 = 8 ∨ (s.2.2.2.2.2 j).1 = 16 ∨ (s.2.2.2.2.2 j).1 = 32) ∧ ∀ i, am_vok (s.2.2.2.2.2 j).1 ((s.2.2.2.2.2 j).2.2 i)
theorem am_oks_er {s : am_St} {k : Nat} (h : am_oks s) : am_oks (am_er k s).2 := h
theorem am_oks_sS {s : am_St} {S : am_S} (h : am_oks s) (hw : am_wf S) (hd : S 13 1 ≤ 9999) : am_oks (am_sS S s) := ⟨⟨hw, hd, h.1.2.2⟩, h.2⟩
def am_ip (n : Nat) (v : Int32) : Bool := decide (¬ v < 0) && decide (v < nI n)
theorem am_ip_nI {n : Nat} {v : Int32} (hn : n ≤ 8) (h : am_ip n v = true) : v.toNatClampNeg < n ∧ v = nI v.toNatClampNeg := by
  unfold am_ip at h
  rw [Bool.and_eq_true] at h
  obtain ⟨j, hj, rfl⟩ := nI_of (of_decide_eq_true h.1)
  rw [nI_clamp hj]
  exact ⟨(nI_ltI hj (by omega)).mp (of_decide_eq_true h.2), rfl⟩
theorem am_wi_nI {v M : Int32} {n : Nat} (hM : M.toInt = n) (h : am_wi v M = true) : v.toNatClampNeg ≤ n ∧ v = nI v.toNatClampNeg := by
  unfold am_wi at h
  rw [Bool.and_eq_true] at h
  obtain ⟨j, hj, rfl⟩ := nI_of2 hM (of_decide_eq_true h.1) (of_decide_eq_true h.2)
  have := M.toInt_lt
  rw [nI_clamp (by omega)]
  exact ⟨hj, rfl⟩
section AMOP
variable {X : am_X} {q : Nat} {G : am_G}
theorem am_y119 {n : Nat} (h : G 10 8 = nI n) (v : Int32) : am_CD X 99 119 [.ref 0, .int v] (am_L0 q, G) = some (some (.int (am_bI (am_ip n v))), (am_L0 q, G)) := by
  rw [am_m119 (D := 98), h]
  rfl
def am_ipp (n : Nat) (a b : Int32) : Bool := am_ip n a && (am_ip n b && decide (¬ a = b))
theorem am_y120 {n : Nat} (h : G 10 8 = nI n) (a b : Int32) : am_CD X 99 120 [.ref 0, .int a, .int b] (am_L0 q, G) = some (some (.int (am_bI (am_ipp n a b))), (am_L0 q, G)) := by
  rw [am_m120 (D := 97), h]
  rfl
theorem am_y58 {j : Nat} (hj : j < 4) {b : Int32} (h : G (106 + 2 * j) 1 = b) : am_CD X 99 58 [.ref (106 + 2 * j)] (am_L0 q, G) = some (some (.int (am_bI (decide (b = 0)))), (am_L0 q, G)) := by
  rw [am_m58 (D := 98) hj, h]
theorem am_cfl_S {G' : am_G} {W I : am_We} {c : Nat} {L : List Int32} {E : Nat → Int32} {H : am_Sh} {S' : am_S} (h : am_cfl G W I c L E H) (hf : ∀ i j, am_kee i → ¬ (10 ≤ i ∧ i < 26) → i ≠ 1 → G' i j = G i j) (h1 : am_cp 10 G' S') (hz : G' 1 5 = G 1 5) : am_cfl G' (S', W.2) I c L E H :=
  am_cfl_W h (fun i j a b => hf i j a (by omega) (by omega)) ⟨h1, am_cw_fr h.1.2.1 fun i j a b => hf i j (by unfold am_kee; omega) (by omega) (by omega), am_cw_fr h.1.2.2.1 fun i j a b => hf i j (by unfold am_kee; omega) (by omega) (by omega), am_tap_fr h.1.2.2.2.1 fun j => ⟨hf _ j (by unfold am_kee; omega) (by omega) (by omega), hf _ j (by unfold am_kee; omega) (by omega) (by omega)⟩, am_wai_fr h.1.2.2.2.2.1 fun j => ⟨hf _ j (by unfold am_kee; omega) (by omega) (by omega), hf _ j (by unfold am_kee; omega) (by omega) (by omega)⟩, hz.trans h.1.2.2.2.2.2⟩
/-- person -/
def am_O81 (a b : Int32) (s : am_St) : Int32 × am_St :=
  if (am_wi a 69 && am_wi b 15) = false then am_er 1 s
  else if 8 ≤ s.1.1 13 0 then am_er 4 s
  else (nI (s.1.1 13 0), am_sS (am_jo s.1.1 a.toNatClampNeg b.toNatClampNeg) s)
theorem am_c81 {a b : Int32} {s : am_St} (hs : am_oks s) : am_cO 81 [.int a, .int b] s (am_O81 a b s) := by
  unfold am_O81
  have h8 := hs.1.1.1
  cases h1 : am_wi a 69 with
  | false =>
    refine am_cop_err (k := 1) (by decide) fun X q G hc => am_CD_of (M := am_N81) rfl rfl ?_
    show am_Rn _ _ ((Option.some FieldType.int)) am_J81 0 [some (.ref 0), some (.int a), some (.int b)] [] (am_L0 q, G) _
    simp only [am_s81_0, am_s81_1, am_s81_4, am_s81_7, am_s81_8, am_s81_10, am_s81_13, am_s81_16, am_s81_17, am_s81_18, am_s81_21, am_s81_22, am_s81_23, am_s81_26, am_s81_29, am_s81_32, am_s81_34, am_s81_37, am_s81_38, am_s81_39, am_s81_42, am_s81_43, am_s81_44, am_s81_47, am_s81_50, am_s81_51, am_s81_52, am_s81_55, h1, Bool.false_and, am_cal_ok am_cat_0 am_v0 (am_e1 (D := 98)), am_cal_ok am_cat_0 am_v0 (am_e2 (D := 98)), am_cal_ok am_cat_0 am_v0 (am_e3 (D := 98)), am_cal_ok am_cat_0 am_v0 (am_e4 (D := 98)), am_cal_ok am_cat_0 am_v0 (am_e5 (D := 98)), am_cal_ok am_cat_0 am_rcv_f (am_m123 (D := 98) _ _), am_cal_ok am_cat_0 am_rcv_f (am_m121 (D := 97) _), am_cal_ok am_cat_0 am_rcv_f (am_m122 (D := 97) _), am_bI0, am_f0_0, am_f0_1, am_f0_2, am_f0_3, am_f0_4, am_f0_5, am_f0_6, am_f0_7, am_f1_2, am_ec1, am_ec2, am_ec3, am_ec4, am_ec5, am_er_f, am_sy_f, reduceCtorEq, not_false_eq_true, not_true_eq_false, eq_self, am_os_some, Option.toList_some, Option.toList_none, List.cons_append, List.nil_append, if_true, if_false, true_and, am_nw1_i, am_nw1_r, am_nw1_n, cond_true]
  | true =>
    cases h2 : am_wi b 15 with
    | false =>
      refine am_cop_err (k := 1) (by decide) fun X q G hc => am_CD_of (M := am_N81) rfl rfl ?_
      show am_Rn _ _ ((Option.some FieldType.int)) am_J81 0 [some (.ref 0), some (.int a), some (.int b)] [] (am_L0 q, G) _
      simp only [am_s81_0, am_s81_1, am_s81_4, am_s81_7, am_s81_8, am_s81_10, am_s81_13, am_s81_16, am_s81_17, am_s81_18, am_s81_21, am_s81_22, am_s81_23, am_s81_26, am_s81_29, am_s81_32, am_s81_34, am_s81_37, am_s81_38, am_s81_39, am_s81_42, am_s81_43, am_s81_44, am_s81_47, am_s81_50, am_s81_51, am_s81_52, am_s81_55, h1, h2, Bool.and_false, am_cal_ok am_cat_0 am_v0 (am_e1 (D := 98)), am_cal_ok am_cat_0 am_v0 (am_e2 (D := 98)), am_cal_ok am_cat_0 am_v0 (am_e3 (D := 98)), am_cal_ok am_cat_0 am_v0 (am_e4 (D := 98)), am_cal_ok am_cat_0 am_v0 (am_e5 (D := 98)), am_cal_ok am_cat_0 am_rcv_f (am_m123 (D := 98) _ _), am_cal_ok am_cat_0 am_rcv_f (am_m121 (D := 97) _), am_cal_ok am_cat_0 am_rcv_f (am_m122 (D := 97) _), am_bI0, am_f0_0, am_f0_1, am_f0_2, am_f0_3, am_f0_4, am_f0_5, am_f0_6, am_f0_7, am_f1_2, am_ec1, am_ec2, am_ec3, am_ec4, am_ec5, am_er_f, am_sy_f, reduceCtorEq, not_false_eq_true, not_true_eq_false, eq_self, am_os_some, Option.toList_some, Option.toList_none, List.cons_append, List.nil_append, if_true, if_false, true_and, am_nw1_i, am_nw1_r, am_nw1_n, cond_true]
    | true =>
      rw [if_neg (by decide)]
      by_cases h3 : 8 ≤ s.1.1 13 0
      · rw [if_pos h3]
        refine am_cop_err (k := 4) (by decide) fun X q G hc => am_CD_of (M := am_N81) rfl rfl ?_
        have hn : G 10 8 = nI (s.1.1 13 0) := hc.1.1.2.2.1
        have h4 : ¬ nI (s.1.1 13 0) < 8 := nI_nlt (b := 8) h3 (by omega)
        show am_Rn _ _ ((Option.some FieldType.int)) am_J81 0 [some (.ref 0), some (.int a), some (.int b)] [] (am_L0 q, G) _
        simp only [am_s81_0, am_s81_1, am_s81_4, am_s81_7, am_s81_8, am_s81_10, am_s81_13, am_s81_16, am_s81_17, am_s81_18, am_s81_21, am_s81_22, am_s81_23, am_s81_26, am_s81_29, am_s81_32, am_s81_34, am_s81_37, am_s81_38, am_s81_39, am_s81_42, am_s81_43, am_s81_44, am_s81_47, am_s81_50, am_s81_51, am_s81_52, am_s81_55, h1, h2, am_f10_8, hn, h4, am_cal_ok am_cat_0 am_v0 (am_e1 (D := 98)), am_cal_ok am_cat_0 am_v0 (am_e2 (D := 98)), am_cal_ok am_cat_0 am_v0 (am_e3 (D := 98)), am_cal_ok am_cat_0 am_v0 (am_e4 (D := 98)), am_cal_ok am_cat_0 am_v0 (am_e5 (D := 98)), am_cal_ok am_cat_0 am_rcv_f (am_m123 (D := 98) _ _), am_cal_ok am_cat_0 am_rcv_f (am_m121 (D := 97) _), am_cal_ok am_cat_0 am_rcv_f (am_m122 (D := 97) _), am_bI0, am_f0_0, am_f0_1, am_f0_2, am_f0_3, am_f0_4, am_f0_5, am_f0_6, am_f0_7, am_f1_2, am_ec1, am_ec2, am_ec3, am_ec4, am_ec5, am_er_f, am_sy_f, reduceCtorEq, not_false_eq_true, not_true_eq_false, eq_self, am_os_some, Option.toList_some, Option.toList_none, List.cons_append, List.nil_append, if_true, if_false, true_and, am_nw1_i, am_nw1_r, am_nw1_n, cond_true]
      · rw [if_neg h3]
        intro N xs q G hc
        obtain ⟨a1, a2⟩ := am_wi_nI (n := 69) (by decide) h1
        obtain ⟨b1, b2⟩ := am_wi_nI (n := 15) (by decide) h2
        have hn : G 10 8 = nI (s.1.1 13 0) := hc.1.1.2.2.1
        have h4 : nI (s.1.1 13 0) < 8 := nI_lt (b := 8) (by omega) (by decide)
        obtain ⟨G1, f1, c1, g1⟩ := am_m22 (X := am_X0 N xs) (D := 97) (q := q) (t := b.toNatClampNeg) hc.1.1 (by omega) a1
        rw [← a2, ← b2] at g1
        refine ⟨q, G1, fun i j hi => f1 i j (by omega) (by omega) (by omega) (by omega), am_cfl_S hc (fun i j _ hi hi1 => f1 i j (by omega) (by omega) (by omega) (by omega)) c1 (f1 1 5 (by decide) (by decide) (by decide) (by decide)), am_CD_of (M := am_N81) rfl rfl ?_⟩
        show am_Rn _ _ ((Option.some FieldType.int)) am_J81 0 [some (.ref 0), some (.int a), some (.int b)] [] (am_L0 q, G) _
        simp only [am_s81_0, am_s81_1, am_s81_4, am_s81_7, am_s81_8, am_s81_10, am_s81_13, am_s81_16, am_s81_17, am_s81_18, am_s81_21, am_s81_22, am_s81_23, am_s81_26, am_s81_29, am_s81_32, am_s81_34, am_s81_37, am_s81_38, am_s81_39, am_s81_42, am_s81_43, am_s81_44, am_s81_47, am_s81_50, am_s81_51, am_s81_52, am_s81_55, h1, h2, am_f10_8, hn, h4, am_cal_ok am_cat_0 am_v10 (g1), am_cal_ok am_cat_0 am_v0 (am_e1 (D := 98)), am_cal_ok am_cat_0 am_v0 (am_e2 (D := 98)), am_cal_ok am_cat_0 am_v0 (am_e3 (D := 98)), am_cal_ok am_cat_0 am_v0 (am_e4 (D := 98)), am_cal_ok am_cat_0 am_v0 (am_e5 (D := 98)), am_cal_ok am_cat_0 am_rcv_f (am_m123 (D := 98) _ _), am_cal_ok am_cat_0 am_rcv_f (am_m121 (D := 97) _), am_cal_ok am_cat_0 am_rcv_f (am_m122 (D := 97) _), am_bI0, am_f0_0, am_f0_1, am_f0_2, am_f0_3, am_f0_4, am_f0_5, am_f0_6, am_f0_7, am_f1_2, am_ec1, am_ec2, am_ec3, am_ec4, am_ec5, am_er_f, am_sy_f, reduceCtorEq, not_false_eq_true, not_true_eq_false, eq_self, am_os_some, Option.toList_some, Option.toList_none, List.cons_append, List.nil_append, if_true, if_false, true_and, am_nw1_i, am_nw1_r, am_nw1_n, cond_true]
/-- ofPerson -/
def am_ofp (S : am_S) (T : am_T) (p w : Nat) : Int32 := if w < 5 then nI (S w p) else if w = 5 then nI (am_fil (S 0 p) (S 1 p)) else if w = 6 then nI (am_dr (S 0 p)) else am_bI (am_gv T S p)
def am_O82 (a b : Int32) (s : am_St) : Int32 × am_St :=
  if (am_ip (s.1.1 13 0) a && am_wi b 7) = false then am_er 1 s
  else am_sy (am_ofp s.1.1 s.1.2.1 a.toNatClampNeg b.toNatClampNeg) s
theorem am_c82 {a b : Int32} {s : am_St} (hs : am_oks s) : am_cO 82 [.int a, .int b] s (am_O82 a b s) := by
  unfold am_O82
  have h8 := hs.1.1.1
  cases h1 : am_ip (s.1.1 13 0) a with
  | false =>
    refine am_cop_err (k := 1) (by decide) fun X q G hc => am_CD_of (M := am_N82) rfl rfl ?_
    have hn : G 10 8 = nI (s.1.1 13 0) := hc.1.1.2.2.1
    show am_Rn _ _ ((Option.some FieldType.int)) am_J82 0 [some (.ref 0), some (.int a), some (.int b), none] [] (am_L0 q, G) _
    simp only [am_s82_0, am_s82_1, am_s82_2, am_s82_5, am_s82_8, am_s82_9, am_s82_11, am_s82_14, am_s82_17, am_s82_18, am_s82_19, am_s82_22, am_s82_23, am_s82_24, am_s82_27, am_s82_30, am_s82_31, am_s82_32, am_s82_76, am_s82_77, am_s82_80, am_s82_81, am_s82_82, am_s82_83, am_s82_84, am_s82_87, am_s82_88, am_s82_89, am_s82_90, am_s82_91, am_s82_94, am_s82_95, am_s82_96, am_s82_97, am_s82_98, am_s82_101, am_s82_102, am_s82_103, am_s82_104, am_s82_105, am_s82_108, am_s82_109, am_s82_110, am_s82_111, am_s82_112, am_s82_113, am_s82_116, am_s82_117, am_s82_118, am_s82_119, am_s82_122, am_s82_123, am_s82_124, am_s82_125, am_s82_128, am_s82_131, am_s82_132, am_s82_135, am_s82_136, am_cal_ok am_cat_0 am_v0 (am_y119 hn _), h1, Bool.false_and, am_cal_ok am_cat_0 am_v0 (am_e1 (D := 98)), am_cal_ok am_cat_0 am_v0 (am_e2 (D := 98)), am_cal_ok am_cat_0 am_v0 (am_e3 (D := 98)), am_cal_ok am_cat_0 am_v0 (am_e4 (D := 98)), am_cal_ok am_cat_0 am_v0 (am_e5 (D := 98)), am_cal_ok am_cat_0 am_rcv_f (am_m123 (D := 98) _ _), am_cal_ok am_cat_0 am_rcv_f (am_m121 (D := 97) _), am_cal_ok am_cat_0 am_rcv_f (am_m122 (D := 97) _), am_bI0, am_f0_0, am_f0_1, am_f0_2, am_f0_3, am_f0_4, am_f0_5, am_f0_6, am_f0_7, am_f1_2, am_ec1, am_ec2, am_ec3, am_ec4, am_ec5, am_er_f, am_sy_f, reduceCtorEq, not_false_eq_true, not_true_eq_false, eq_self, am_os_some, Option.toList_some, Option.toList_none, List.cons_append, List.nil_append, if_true, if_false, true_and, am_nw1_i, am_nw1_r, am_nw1_n, cond_true]
  | true =>
    cases h2 : am_wi b 7 with
    | false =>
      refine am_cop_err (k := 1) (by decide) fun X q G hc => am_CD_of (M := am_N82) rfl rfl ?_
      have hn : G 10 8 = nI (s.1.1 13 0) := hc.1.1.2.2.1
      show am_Rn _ _ ((Option.some FieldType.int)) am_J82 0 [some (.ref 0), some (.int a), some (.int b), none] [] (am_L0 q, G) _
      simp only [am_s82_0, am_s82_1, am_s82_2, am_s82_5, am_s82_8, am_s82_9, am_s82_11, am_s82_14, am_s82_17, am_s82_18, am_s82_19, am_s82_22, am_s82_23, am_s82_24, am_s82_27, am_s82_30, am_s82_31, am_s82_32, am_s82_76, am_s82_77, am_s82_80, am_s82_81, am_s82_82, am_s82_83, am_s82_84, am_s82_87, am_s82_88, am_s82_89, am_s82_90, am_s82_91, am_s82_94, am_s82_95, am_s82_96, am_s82_97, am_s82_98, am_s82_101, am_s82_102, am_s82_103, am_s82_104, am_s82_105, am_s82_108, am_s82_109, am_s82_110, am_s82_111, am_s82_112, am_s82_113, am_s82_116, am_s82_117, am_s82_118, am_s82_119, am_s82_122, am_s82_123, am_s82_124, am_s82_125, am_s82_128, am_s82_131, am_s82_132, am_s82_135, am_s82_136, am_cal_ok am_cat_0 am_v0 (am_y119 hn _), h1, h2, Bool.and_false, am_cal_ok am_cat_0 am_v0 (am_e1 (D := 98)), am_cal_ok am_cat_0 am_v0 (am_e2 (D := 98)), am_cal_ok am_cat_0 am_v0 (am_e3 (D := 98)), am_cal_ok am_cat_0 am_v0 (am_e4 (D := 98)), am_cal_ok am_cat_0 am_v0 (am_e5 (D := 98)), am_cal_ok am_cat_0 am_rcv_f (am_m123 (D := 98) _ _), am_cal_ok am_cat_0 am_rcv_f (am_m121 (D := 97) _), am_cal_ok am_cat_0 am_rcv_f (am_m122 (D := 97) _), am_bI0, am_f0_0, am_f0_1, am_f0_2, am_f0_3, am_f0_4, am_f0_5, am_f0_6, am_f0_7, am_f1_2, am_ec1, am_ec2, am_ec3, am_ec4, am_ec5, am_er_f, am_sy_f, reduceCtorEq, not_false_eq_true, not_true_eq_false, eq_self, am_os_some, Option.toList_some, Option.toList_none, List.cons_append, List.nil_append, if_true, if_false, true_and, am_nw1_i, am_nw1_r, am_nw1_n, cond_true]
    | true =>
      rw [if_neg (by decide)]
      obtain ⟨a1, a2⟩ := am_ip_nI h8 h1
      obtain ⟨b1, b2⟩ := am_wi_nI (n := 7) (by decide) h2
      generalize a.toNatClampNeg = p at a1 a2
      generalize b.toNatClampNeg = w at b1 b2
      subst a2 b2
      have p8 : p < 8 := by omega
      refine am_cop_same fun N xs q G hc => ?_
      have hn : G 10 8 = nI (s.1.1 13 0) := hc.1.1.2.2.1
      obtain ⟨k0, k1, k2, k3, k4⟩ := hc.1.1.1 p p8
      have k0' : G 11 p = nI (s.1.1 0 p) := k0
      have k1' : G 12 p = nI (s.1.1 1 p) := k1
      have k2' : G 13 p = nI (s.1.1 2 p) := k2
      have k3' : G 14 p = nI (s.1.1 3 p) := k3
      have k4' : G 15 p = nI (s.1.1 4 p) := k4
      have pre : ∀ (t : Nat) (r : Value) (G1 : am_G), am_tsw 32 91 0 6 #[44, 51, 58, 65, 72, 79, 85] (nI w) = some t → am_Rn (am_X0 N xs) 99 (some .int) am_J82 t [some (.ref 0), some (.int (nI p)), some (.int (nI w)), some (.ref 10)] [] (am_L0 q, G) (some r, (am_L0 q, G1)) → am_CD (am_X0 N xs) 100 82 [.ref 0, .int (nI p), .int (nI w)] (am_L0 q, G) = some (some r, (am_L0 q, G1)) := fun t r G1 ht h => by
        refine am_CD_of (M := am_N82) rfl rfl ?_
        show am_Rn _ _ ((Option.some FieldType.int)) am_J82 0 [some (.ref 0), some (.int (nI p)), some (.int (nI w)), none] [] (am_L0 q, G) _
        simp only [am_s82_0, am_s82_1, am_s82_2, am_s82_5, am_s82_8, am_s82_9, am_s82_11, am_s82_14, am_s82_17, am_s82_18, am_s82_19, am_s82_22, am_s82_23, am_s82_24, am_s82_27, am_s82_30, am_s82_31, am_s82_32, am_cal_ok am_cat_0 am_v0 (am_y119 hn _), h1, h2, ht, am_cal_ok am_cat_0 am_v0 (am_e1 (D := 98)), am_cal_ok am_cat_0 am_v0 (am_e2 (D := 98)), am_cal_ok am_cat_0 am_v0 (am_e3 (D := 98)), am_cal_ok am_cat_0 am_v0 (am_e4 (D := 98)), am_cal_ok am_cat_0 am_v0 (am_e5 (D := 98)), am_cal_ok am_cat_0 am_rcv_f (am_m123 (D := 98) _ _), am_cal_ok am_cat_0 am_rcv_f (am_m121 (D := 97) _), am_cal_ok am_cat_0 am_rcv_f (am_m122 (D := 97) _), am_bI0, am_f0_0, am_f0_1, am_f0_2, am_f0_3, am_f0_4, am_f0_5, am_f0_6, am_f0_7, am_f1_2, am_ec1, am_ec2, am_ec3, am_ec4, am_ec5, am_er_f, am_sy_f, reduceCtorEq, not_false_eq_true, not_true_eq_false, eq_self, am_os_some, Option.toList_some, Option.toList_none, List.cons_append, List.nil_append, if_true, if_false, true_and, am_nw1_i, am_nw1_r, am_nw1_n, cond_true]
        exact h
      have ix : am_in (nI p) 8 = true := am_in_nI p8 (by decide)
      have ic : (nI p).toNatClampNeg = p := nI_clamp (by omega)
      match w, b1, h2, pre with
      | 0, _, _, pre =>
        refine ⟨q, G, fun _ _ _ => rfl, pre 76 _ _ (by decide +kernel) ?_⟩
        simp only [am_s82_76, am_s82_77, am_s82_80, am_s82_81, am_s82_82, am_f10_2, am_a11, ix, ic, k0', eq_self, am_os_some, Option.toList_some, Option.toList_none, List.cons_append, List.nil_append, if_true, if_false, true_and, am_nw1_i, am_nw1_r, am_nw1_n, cond_true]; rfl
      | 1, _, _, pre =>
        refine ⟨q, G, fun _ _ _ => rfl, pre 83 _ _ (by decide +kernel) ?_⟩
        simp only [am_s82_83, am_s82_84, am_s82_87, am_s82_88, am_s82_89, am_f10_3, am_a12, ix, ic, k1', eq_self, am_os_some, Option.toList_some, Option.toList_none, List.cons_append, List.nil_append, if_true, if_false, true_and, am_nw1_i, am_nw1_r, am_nw1_n, cond_true]; rfl
      | 2, _, _, pre =>
        refine ⟨q, G, fun _ _ _ => rfl, pre 90 _ _ (by decide +kernel) ?_⟩
        simp only [am_s82_90, am_s82_91, am_s82_94, am_s82_95, am_s82_96, am_f10_4, am_a13, ix, ic, k2', eq_self, am_os_some, Option.toList_some, Option.toList_none, List.cons_append, List.nil_append, if_true, if_false, true_and, am_nw1_i, am_nw1_r, am_nw1_n, cond_true]; rfl
      | 3, _, _, pre =>
        refine ⟨q, G, fun _ _ _ => rfl, pre 97 _ _ (by decide +kernel) ?_⟩
        simp only [am_s82_97, am_s82_98, am_s82_101, am_s82_102, am_s82_103, am_f10_5, am_a14, ix, ic, k3', eq_self, am_os_some, Option.toList_some, Option.toList_none, List.cons_append, List.nil_append, if_true, if_false, true_and, am_nw1_i, am_nw1_r, am_nw1_n, cond_true]; rfl
      | 4, _, _, pre =>
        refine ⟨q, G, fun _ _ _ => rfl, pre 104 _ _ (by decide +kernel) ?_⟩
        simp only [am_s82_104, am_s82_105, am_s82_108, am_s82_109, am_s82_110, am_f10_6, am_a15, ix, ic, k4', eq_self, am_os_some, Option.toList_some, Option.toList_none, List.cons_append, List.nil_append, if_true, if_false, true_and, am_nw1_i, am_nw1_r, am_nw1_n, cond_true]; rfl
      | 5, _, _, pre =>
        refine ⟨q, G, fun _ _ _ => rfl, pre 111 _ _ (by decide +kernel) ?_⟩
        simp only [am_s82_111, am_s82_112, am_s82_113, am_s82_116, am_cal_ok am_cat_0 am_v10 (am_m24 (D := 97) (am_ist_p am_10) hc.1.1 hs.1.1 p8), eq_self, am_os_some, Option.toList_some, Option.toList_none, List.cons_append, List.nil_append, if_true, if_false, true_and, am_nw1_i, am_nw1_r, am_nw1_n, cond_true]; rfl
      | 6, _, _, pre =>
        refine ⟨q, G, fun _ _ _ => rfl, pre 117 _ _ (by decide +kernel) ?_⟩
        simp only [am_s82_117, am_s82_118, am_s82_119, am_s82_122, am_cal_ok am_cat_0 am_v10 (am_m25 (D := 97) (am_ist_p am_10) hc.1.1 hs.1.1 p8), eq_self, am_os_some, Option.toList_some, Option.toList_none, List.cons_append, List.nil_append, if_true, if_false, true_and, am_nw1_i, am_nw1_r, am_nw1_n, cond_true]; rfl
      | 7, _, _, pre =>
        obtain ⟨G1, f1, g1⟩ := am_m26 (X := am_X0 N xs) (D := 95) (q := q) am_10 hc.1.1 hc.1.2.1 hs.1.2.2.1 (by have := hs.1.2.1; omega) p8
        refine ⟨q, G1, fun i j h => f1 i j h.1, pre 123 _ _ (by decide +kernel) ?_⟩
        have e : am_ofp s.1.1 s.1.2.1 p 7 = am_bI (am_gv s.1.2.1 s.1.1 p) := rfl
        cases hv : am_gv s.1.2.1 s.1.1 p
        all_goals
          rw [hv] at g1
          simp only [am_s82_123, am_s82_124, am_s82_125, am_s82_128, am_s82_131, am_s82_132, am_s82_135, am_s82_136, am_cal_ok am_cat_0 am_v10 (g1), am_bI0, reduceCtorEq, e, hv, eq_self, am_os_some, Option.toList_some, Option.toList_none, List.cons_append, List.nil_append, if_true, if_false, true_and, am_nw1_i, am_nw1_r, am_nw1_n, cond_true]
          rfl
end AMOP
