/-! THE REFERENCE: feed -/
theorem am_low8 (x : BitVec 64) (n : Nat) (hn : n ≤ 56) : (x.sshiftRight n).signExtend 32 &&& 255#32 = (x >>> n).signExtend 32 &&& 255#32 := by
  refine BitVec.eq_of_getLsbD_eq fun i hi => ?_
  simp only [BitVec.getLsbD_and, BitVec.getLsbD_signExtend, BitVec.getLsbD_sshiftRight, BitVec.getLsbD_ushiftRight]
  by_cases c : i < 8
  · have h1 : i < 64 := by omega
    have h2 : n + i < 64 := by omega
    have h3 : ¬ 64 ≤ i := by omega
    simp only [h1, h2, h3, if_true, decide_false, Bool.not_false, Bool.true_and]
  · have e : (255#32).getLsbD i = false := by
      rw [BitVec.getLsbD_ofNat, show (255 : Nat) = 2 ^ 8 - 1 from rfl, Nat.testBit_two_pow_sub_one, decide_eq_false c, Bool.and_false]
    simp only [e, Bool.and_false]
theorem am_by8 (w : Int64) {k : Nat} (hk : k < 8) : ((w >>> ((8 * nI k).toInt64 &&& 63)) &&& 255).toInt32 = nI (am_by w k) := by
  have e : nI (am_by w k) = am_byl w k &&& 255 := (am_and_nI _ _).symm
  have e255 : (255 : Int64).toInt32 = 255 := by decide +kernel
  rw [e, Int64.toInt32_and, e255]
  refine Int32.toBitVec_inj.mp ?_
  unfold am_byl
  match k, hk with
  | 0, _ =>
    have c1 : (8 * nI 0).toInt64 &&& 63 = 0 := by decide +kernel
    have c2 : (8 * nI 0).toInt64.toUInt64 &&& Int64.toUInt64 63 = 0 := by decide +kernel
    have d1 : ((0 : Int64).toBitVec.smod 64).toNat = 0 := by decide +kernel
    have d2 : ((0 : UInt64).toBitVec % 64).toNat = 0 := by decide +kernel
    rw [c1, c2]
    show (w.toBitVec.sshiftRight ((0 : Int64).toBitVec.smod 64).toNat).signExtend 32 &&& 255#32 = (w.toBitVec >>> ((0 : UInt64).toBitVec % 64).toNat).signExtend 32 &&& 255#32
    rw [d1, d2]
    exact am_low8 _ _ (by decide)
  | 1, _ =>
    have c1 : (8 * nI 1).toInt64 &&& 63 = 8 := by decide +kernel
    have c2 : (8 * nI 1).toInt64.toUInt64 &&& Int64.toUInt64 63 = 8 := by decide +kernel
    have d1 : ((8 : Int64).toBitVec.smod 64).toNat = 8 := by decide +kernel
    have d2 : ((8 : UInt64).toBitVec % 64).toNat = 8 := by decide +kernel
    rw [c1, c2]
    show (w.toBitVec.sshiftRight ((8 : Int64).toBitVec.smod 64).toNat).signExtend 32 &&& 255#32 = (w.toBitVec >>> ((8 : UInt64).toBitVec % 64).toNat).signExtend 32 &&& 255#32
    rw [d1, d2]
    exact am_low8 _ _ (by decide)
  | 2, _ =>
    have c1 : (8 * nI 2).toInt64 &&& 63 = 16 := by decide +kernel
    have c2 : (8 * nI 2).toInt64.toUInt64 &&& Int64.toUInt64 63 = 16 := by decide +kernel
    have d1 : ((16 : Int64).toBitVec.smod 64).toNat = 16 := by decide +kernel
    have d2 : ((16 : UInt64).toBitVec % 64).toNat = 16 := by decide +kernel
    rw [c1, c2]
    show (w.toBitVec.sshiftRight ((16 : Int64).toBitVec.smod 64).toNat).signExtend 32 &&& 255#32 = (w.toBitVec >>> ((16 : UInt64).toBitVec % 64).toNat).signExtend 32 &&& 255#32
    rw [d1, d2]
    exact am_low8 _ _ (by decide)
  | 3, _ =>
    have c1 : (8 * nI 3).toInt64 &&& 63 = 24 := by decide +kernel
    have c2 : (8 * nI 3).toInt64.toUInt64 &&& Int64.toUInt64 63 = 24 := by decide +kernel
    have d1 : ((24 : Int64).toBitVec.smod 64).toNat = 24 := by decide +kernel
    have d2 : ((24 : UInt64).toBitVec % 64).toNat = 24 := by decide +kernel
    rw [c1, c2]
    show (w.toBitVec.sshiftRight ((24 : Int64).toBitVec.smod 64).toNat).signExtend 32 &&& 255#32 = (w.toBitVec >>> ((24 : UInt64).toBitVec % 64).toNat).signExtend 32 &&& 255#32
    rw [d1, d2]
    exact am_low8 _ _ (by decide)
  | 4, _ =>
    have c1 : (8 * nI 4).toInt64 &&& 63 = 32 := by decide +kernel
    have c2 : (8 * nI 4).toInt64.toUInt64 &&& Int64.toUInt64 63 = 32 := by decide +kernel
    have d1 : ((32 : Int64).toBitVec.smod 64).toNat = 32 := by decide +kernel
    have d2 : ((32 : UInt64).toBitVec % 64).toNat = 32 := by decide +kernel
    rw [c1, c2]
    show (w.toBitVec.sshiftRight ((32 : Int64).toBitVec.smod 64).toNat).signExtend 32 &&& 255#32 = (w.toBitVec >>> ((32 : UInt64).toBitVec % 64).toNat).signExtend 32 &&& 255#32
    rw [d1, d2]
    exact am_low8 _ _ (by decide)
  | 5, _ =>
    have c1 : (8 * nI 5).toInt64 &&& 63 = 40 := by decide +kernel
    have c2 : (8 * nI 5).toInt64.toUInt64 &&& Int64.toUInt64 63 = 40 := by decide +kernel
    have d1 : ((40 : Int64).toBitVec.smod 64).toNat = 40 := by decide +kernel
    have d2 : ((40 : UInt64).toBitVec % 64).toNat = 40 := by decide +kernel
    rw [c1, c2]
    show (w.toBitVec.sshiftRight ((40 : Int64).toBitVec.smod 64).toNat).signExtend 32 &&& 255#32 = (w.toBitVec >>> ((40 : UInt64).toBitVec % 64).toNat).signExtend 32 &&& 255#32
    rw [d1, d2]
    exact am_low8 _ _ (by decide)
  | 6, _ =>
    have c1 : (8 * nI 6).toInt64 &&& 63 = 48 := by decide +kernel
    have c2 : (8 * nI 6).toInt64.toUInt64 &&& Int64.toUInt64 63 = 48 := by decide +kernel
    have d1 : ((48 : Int64).toBitVec.smod 64).toNat = 48 := by decide +kernel
    have d2 : ((48 : UInt64).toBitVec % 64).toNat = 48 := by decide +kernel
    rw [c1, c2]
    show (w.toBitVec.sshiftRight ((48 : Int64).toBitVec.smod 64).toNat).signExtend 32 &&& 255#32 = (w.toBitVec >>> ((48 : UInt64).toBitVec % 64).toNat).signExtend 32 &&& 255#32
    rw [d1, d2]
    exact am_low8 _ _ (by decide)
  | 7, _ =>
    have c1 : (8 * nI 7).toInt64 &&& 63 = 56 := by decide +kernel
    have c2 : (8 * nI 7).toInt64.toUInt64 &&& Int64.toUInt64 63 = 56 := by decide +kernel
    have d1 : ((56 : Int64).toBitVec.smod 64).toNat = 56 := by decide +kernel
    have d2 : ((56 : UInt64).toBitVec % 64).toNat = 56 := by decide +kernel
    rw [c1, c2]
    show (w.toBitVec.sshiftRight ((56 : Int64).toBitVec.smod 64).toNat).signExtend 32 &&& 255#32 = (w.toBitVec >>> ((56 : UInt64).toBitVec % 64).toNat).signExtend 32 &&& 255#32
    rw [d1, d2]
    exact am_low8 _ _ (by decide)
theorem am_rw8_B {R R' : am_Ro} {W : am_We} {B : (Nat → Nat) × Nat} (h : am_rw8 R W) (hm : W.2.2.2.2.1.2 ≤ 20) (hf : ∀ k, k ≠ 3 → ¬ (111 ≤ k ∧ k < 161) → R' k = R k) (h3 : R' 3 = nI B.2) (hB : ∀ j, j < B.2 → R' (111 + j) = nI (B.1 j)) : am_rw8 R' (W.1, W.2.1, W.2.2.1, B, W.2.2.2.2) := by
  obtain ⟨a1, a2, a3, -, ⟨a6, a7⟩, a8⟩ := h
  have fx : ∀ u T, u < 2 → am_rx R u T → am_rx R' u T := fun u T hu h => by
    rcases h with ⟨h1, h2⟩ | ⟨B, n, h1, h2, h3, h4⟩
    · exact Or.inl ⟨h1, by rw [hf _ (by omega) (by omega)]; exact h2⟩
    · exact Or.inr ⟨B, n, h1, by rw [hf _ (by omega) (by omega)]; exact h2, fun j hj => by rw [hf _ (by omega) (by omega)]; exact h3 j hj, h4⟩
  exact ⟨⟨by rw [hf _ (by decide) (by decide)]; exact a1.1, by rw [hf _ (by decide) (by decide)]; exact a1.2.1, fun p g hp hg => by rw [hf _ (by omega) (by omega)]; exact a1.2.2.1 p g hp hg, fun a b ha hb => by rw [hf _ (by omega) (by omega)]; exact a1.2.2.2 a b ha hb⟩, fx 0 _ (by decide) a2, fx 1 _ (by decide) a3, ⟨h3, hB⟩, ⟨by rw [hf _ (by decide) (by decide)]; exact a6, fun j hj => by rw [hf _ (by omega) (by omega)]; exact a7 j hj⟩, by rw [hf _ (by decide) (by decide)]; exact a8⟩
section AMRT1
variable {X : am_X} {q : Nat}
theorem am_l158 {w : Int64} {B : (Nat → Nat) × Nat} {n : Nat} (hn : n ≤ 8) (hb : B.2 + n ≤ 50) : ∀ (d k : Nat) (G : am_G), k + d = n → G 115 3 = nI (B.2 + k) → (∀ j, j < B.2 + k → G 115 (111 + j) = nI ((am_fd w B n).1 j)) → ∃ G' : am_G, (∀ i x, i ≠ 115 → G' i x = G i x) ∧ (∀ x, x ≠ 3 → ¬ (111 ≤ x ∧ x < 161) → G' 115 x = G 115 x) ∧ G' 115 3 = nI (B.2 + n) ∧ (∀ j, j < B.2 + n → G' 115 (111 + j) = nI ((am_fd w B n).1 j)) ∧ am_Rn X 99 (some .int) am_J158 40 [some (.ref 114), some (.long w), none, some (.int (nI n)), some (.int (nI k))] [] (am_L0 q, G) (some (.int (nI (B.2 + n))), (am_L0 q, G')) := by
  intro d
  induction d with
  | zero =>
    intro k G hk h3 hB
    obtain rfl : k = n := by omega
    have h1 : ¬ nI k < nI k := Int32.lt_irrefl
    refine ⟨G, fun _ _ _ => rfl, fun _ _ _ => rfl, h3, hB, ?_⟩
    simp only [am_s158_40, am_s158_42, am_s158_43, am_s158_88, am_s158_89, am_s158_92, am_s158_93, am_s158_94, h1, am_f114_0, am_r115_3, h3, eq_self, am_os_some, Option.toList_some, Option.toList_none, List.cons_append, List.nil_append, if_true, if_false, true_and, am_nw1_i, am_nw1_r, am_nw1_n, cond_true]
  | succ d ih =>
    intro k G hk h3 hB
    have h1 : nI k < nI n := nI_lt (by omega) (by omega)
    have hi : nI k + 1 = nI (k + 1) := nI_add k 1
    have s111 : (111 : Int32) + nI (B.2 + k) = nI (111 + (B.2 + k)) := nI_add 111 _
    have s1 : nI (B.2 + k) + 1 = nI (B.2 + k + 1) := nI_add _ 1
    have hby : ((w >>> ((8 * nI k).toInt64 &&& 63)) &&& Int64.ofNat 255).toInt32 = nI (am_by w k) := am_by8 w (k := k) (by omega)
    have ev : (am_fd w B n).1 (B.2 + k) = am_by w k := by
      show (if B.2 + k < B.2 then B.1 (B.2 + k) else am_by w (B.2 + k - B.2)) = _
      rw [if_neg (by omega), Nat.add_sub_cancel_left]
    generalize hG1 : am_up G 115 (111 + (B.2 + k)) (nI (am_by w k)) = G1
    have f1 : ∀ i x, (i = 115 → x ≠ 111 + (B.2 + k)) → G1 i x = G i x := fun i x h => by
      rw [← hG1, am_up_get]
      split
      · rw [if_neg (h (by assumption))]
      · rfl
    have v1 : G1 115 (111 + (B.2 + k)) = nI (am_by w k) := by rw [← hG1, am_up_get, if_pos rfl, if_pos rfl]
    have h31 : G1 115 3 = nI (B.2 + k) := by rw [f1 115 3 (by omega)]; exact h3
    have f2 : ∀ i x, (i = 115 → x ≠ 3) → am_up G1 115 3 (nI (B.2 + k + 1)) i x = G1 i x := fun i x h => by
      rw [am_up_get]
      split
      · rw [if_neg (h (by assumption))]
      · rfl
    obtain ⟨G', g1, g2, g3, g4, g5⟩ := ih (k + 1) (am_up G1 115 3 (nI (B.2 + k + 1))) (by omega) (by rw [am_up_get, if_pos rfl, if_pos rfl]; rfl) (fun j hj => by
      rw [f2 115 _ (by omega)]
      by_cases e : j = B.2 + k
      · rw [e, v1, ev]
      · rw [f1 115 _ (by omega)]
        exact hB j (by omega))
    refine ⟨G', fun i x h => by rw [g1 i x h, f2 i x (by omega), f1 i x (by omega)], fun x h h' => by rw [g2 x h h', f2 115 x (by omega), f1 115 x (by omega)], g3, g4, ?_⟩
    have e811 : (8 : Int32) * nI k = 8 * nI k := rfl
    simp only [am_s158_40, am_s158_42, am_s158_43, am_s158_46, am_s158_47, am_s158_50, am_s158_52, am_s158_53, am_s158_56, am_s158_57, am_s158_58, am_s158_59, am_s158_60, am_s158_62, am_s158_64, am_s158_65, am_s158_66, am_s158_69, am_s158_70, am_s158_71, am_s158_72, am_s158_73, am_s158_76, am_s158_77, am_s158_78, am_s158_79, am_s158_80, am_s158_81, am_s158_82, h1, am_f114_0, am_r115_3, h3, s111, hby, am_w115 (show 111 + (B.2 + k) < 281 by omega), hG1, h31, s1, am_w115_3, eq_self, am_os_some, Option.toList_some, Option.toList_none, List.cons_append, List.nil_append, if_true, if_false, true_and, am_nw1_i, am_nw1_r, am_nw1_n, cond_true]
    rw [am_s158_85, hi]
    exact g5
theorem am_r158 {w : Int64} {n : Int32} {s : am_St} (hs : am_oks s) : am_rO 158 [.long w, .int n] s (am_O88 w n s) := by
  unfold am_O88
  have h50 := hs.1.2.2.2.2.1
  by_cases h : n < 1 ∨ ¬ n ≤ 8
  · rw [if_pos h]
    have h1 : (decide (¬ n < 1) && decide (n ≤ 8)) = false := by rcases h with h | h <;> simp [h]
    refine am_rO_err (k := 1) (r := -1000000001) (by decide) am_ec1.symm fun X q G hc => am_CD_of (M := am_N158) rfl rfl ?_
    have hn : G 115 2 = nI (s.1.1 13 0) := hc.1.1.2.1
    show am_Rn _ _ ((Option.some FieldType.int)) am_J158 0 [some (.ref 114), some (.long w), none, some (.int n), none] [] (am_L0 q, G) _
    simp only [am_s158_0, am_s158_1, am_s158_2, am_s158_4, am_s158_7, am_s158_10, am_s158_11, am_s158_13, am_s158_16, am_s158_17, am_s158_18, am_s158_21, am_s158_22, am_s158_23, am_s158_24, am_s158_25, am_s158_27, am_s158_30, am_s158_31, am_s158_33, am_s158_36, am_cal_ok am_cat_0 am_rcv_f (am_m125 (D := 98) _ _ _), h1, am_cal_ok am_cat_0 am_v114 (am_d1 (D := 98)), am_cal_ok am_cat_0 am_v114 (am_d2 (D := 98)), am_cal_ok am_cat_0 am_v114 (am_d3 (D := 98)), am_cal_ok am_cat_0 am_v114 (am_d4 (D := 98)), am_cal_ok am_cat_0 am_v114 (am_d5 (D := 98)), am_cal_ok am_cat_0 am_rcv_f (am_y125 _ _), am_cal_ok am_cat_0 am_rcv_f (am_m183 (D := 97) _), am_bI0, am_f114_0, am_er_f, am_sy_f, Bool.false_and, Bool.and_false, reduceCtorEq, not_false_eq_true, not_true_eq_false, eq_self, am_os_some, Option.toList_some, Option.toList_none, List.cons_append, List.nil_append, if_true, if_false, true_and, am_nw1_i, am_nw1_r, am_nw1_n, cond_true]
  · rw [if_neg h]
    have h' : ¬ n < 1 ∧ n ≤ 8 := ⟨fun e => h (Or.inl e), Decidable.not_not.mp fun e => h (Or.inr e)⟩
    have h1 : (decide (¬ n < 1) && decide (n ≤ 8)) = true := by simp [h'.1, h'.2]
    have h0 : ¬ n < 0 := fun h => h'.1 (Int32.lt_trans h (by decide))
    obtain ⟨m, hm, rfl⟩ := nI_of2 (n := 8) (by decide) h0 h'.2
    rw [nI_clamp (show m < 2 ^ 31 by omega)]
    have s1 : nI s.1.2.2.2.1.2 + nI m = nI (s.1.2.2.2.1.2 + m) := nI_add _ _
    by_cases h3 : 50 < s.1.2.2.2.1.2 + m
    · rw [if_pos h3]
      have h4 : ¬ nI (s.1.2.2.2.1.2 + m) ≤ 50 := nI_ge (a := 50) h3 (by omega)
      refine am_rO_err (k := 4) (r := -1000000004) (by decide) am_ec4.symm fun X q G hc => am_CD_of (M := am_N158) rfl rfl ?_
      have hn : G 115 2 = nI (s.1.1 13 0) := hc.1.1.2.1
      have k3 : G 115 3 = nI s.1.2.2.2.1.2 := hc.1.2.2.2.1.1
      show am_Rn _ _ ((Option.some FieldType.int)) am_J158 0 [some (.ref 114), some (.long w), none, some (.int (nI m)), none] [] (am_L0 q, G) _
      simp only [am_s158_0, am_s158_1, am_s158_2, am_s158_4, am_s158_7, am_s158_10, am_s158_11, am_s158_13, am_s158_16, am_s158_17, am_s158_18, am_s158_21, am_s158_22, am_s158_23, am_s158_24, am_s158_25, am_s158_27, am_s158_30, am_s158_31, am_s158_33, am_s158_36, am_cal_ok am_cat_0 am_rcv_f (am_m125 (D := 98) _ _ _), h1, am_r115_3, k3, s1, h4, am_cal_ok am_cat_0 am_v114 (am_d1 (D := 98)), am_cal_ok am_cat_0 am_v114 (am_d2 (D := 98)), am_cal_ok am_cat_0 am_v114 (am_d3 (D := 98)), am_cal_ok am_cat_0 am_v114 (am_d4 (D := 98)), am_cal_ok am_cat_0 am_v114 (am_d5 (D := 98)), am_cal_ok am_cat_0 am_rcv_f (am_y125 _ _), am_cal_ok am_cat_0 am_rcv_f (am_m183 (D := 97) _), am_bI0, am_f114_0, am_er_f, am_sy_f, Bool.false_and, Bool.and_false, reduceCtorEq, not_false_eq_true, not_true_eq_false, eq_self, am_os_some, Option.toList_some, Option.toList_none, List.cons_append, List.nil_append, if_true, if_false, true_and, am_nw1_i, am_nw1_r, am_nw1_n, cond_true]
    · rw [if_neg h3]
      have h4 : nI (s.1.2.2.2.1.2 + m) ≤ 50 := nI_le (b := 50) (by omega) (by decide)
      intro N xs q G hc
      have k3 : G 115 3 = nI s.1.2.2.2.1.2 := hc.1.2.2.2.1.1
      obtain ⟨G', g1, g2, g3, g4, g5⟩ := am_l158 (X := am_X0 N xs) (q := q) (w := w) (B := s.1.2.2.2.1) hm (by omega) m 0 G (by omega) k3 (fun j hj => by
        rw [hc.1.2.2.2.1.2 j hj]
        show _ = nI (if j < s.1.2.2.2.1.2 then s.1.2.2.2.1.1 j else am_by w (j - s.1.2.2.2.1.2))
        rw [if_pos (show j < s.1.2.2.2.1.2 from hj)])
      refine ⟨G', fun i x hi => g1 i x (by omega), am_rfl_W (s := s) hc (fun i x _ b _ _ _ _ _ => g1 i x b) (am_rw8_B (B := am_fd w s.1.2.2.2.1 m) hc.1 hs.1.2.2.2.2.2.2 g2 g3 g4), am_CD_of (M := am_N158) rfl rfl ?_⟩
      show am_Rn _ _ ((Option.some FieldType.int)) am_J158 0 [some (.ref 114), some (.long w), none, some (.int (nI m)), none] [] (am_L0 q, G) _
      simp only [am_s158_0, am_s158_1, am_s158_2, am_s158_4, am_s158_7, am_s158_10, am_s158_11, am_s158_13, am_s158_16, am_s158_17, am_s158_18, am_s158_21, am_s158_22, am_s158_23, am_s158_24, am_s158_25, am_s158_27, am_s158_30, am_s158_31, am_s158_33, am_s158_36, am_s158_37, am_s158_38, am_cal_ok am_cat_0 am_rcv_f (am_m125 (D := 98) _ _ _), h1, am_f114_0, am_r115_3, k3, s1, h4, am_cal_ok am_cat_0 am_v114 (am_d1 (D := 98)), am_cal_ok am_cat_0 am_v114 (am_d2 (D := 98)), am_cal_ok am_cat_0 am_v114 (am_d3 (D := 98)), am_cal_ok am_cat_0 am_v114 (am_d4 (D := 98)), am_cal_ok am_cat_0 am_v114 (am_d5 (D := 98)), am_cal_ok am_cat_0 am_rcv_f (am_y125 _ _), am_cal_ok am_cat_0 am_rcv_f (am_m183 (D := 97) _), am_bI0, am_f114_0, am_er_f, am_sy_f, Bool.false_and, Bool.and_false, reduceCtorEq, not_false_eq_true, not_true_eq_false, eq_self, am_os_some, Option.toList_some, Option.toList_none, List.cons_append, List.nil_append, if_true, if_false, true_and, am_nw1_i, am_nw1_r, am_nw1_n, cond_true]
      exact g5
end AMRT1
