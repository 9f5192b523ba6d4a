/-! feed, text, law, days, loose, strike -/
theorem am_and_nI (x m : Int32) : x &&& m = nI (x.toUInt32 &&& m.toUInt32).toNat := am_u2i (x.toUInt32 &&& m.toUInt32)
theorem am_and_le (x m : Int32) : (x.toUInt32 &&& m.toUInt32).toNat ≤ m.toUInt32.toNat := by
  rw [UInt32.toNat_and]
  exact Nat.and_le_right
def am_byl (w : Int64) (k : Nat) : Int32 := (w.toUInt64 >>> ((8 * nI k).toInt64.toUInt64 &&& Int64.toUInt64 63)).toInt64.toInt32
/-- byte k of a word -/
def am_by (w : Int64) (k : Nat) : Nat := ((am_byl w k).toUInt32 &&& (255 : Int32).toUInt32).toNat
theorem am_by_lt (w : Int64) (k : Nat) : am_by w k < 256 := Nat.lt_of_le_of_lt (am_and_le _ 255) (by decide)
/-- the tape after the first k bytes -/
def am_fd (w : Int64) (B : (Nat → Nat) × Nat) (k : Nat) : (Nat → Nat) × Nat := (fun j => if j < B.2 then B.1 j else am_by w (j - B.2), B.2 + k)
def am_sB (B : (Nat → Nat) × Nat) (s : am_St) : am_St := ((s.1.1, s.1.2.1, s.1.2.2.1, B, s.1.2.2.2.2), s.2)
section AMOP3
variable {X : am_X} {D q : Nat} {G : am_G}
theorem am_m49_26 {k : Nat} {v : Int32} (hk : k < 50) (hs : G 26 1 = nI k) : am_CD X (D + 1) 49 [.ref 26, .int v] (am_L0 q, G) = some (none, (am_L0 q, am_up (am_up G 27 k v) 26 1 (nI (k + 1)))) := by
  have hc : (nI k).toNatClampNeg = k := nI_clamp (by omega)
  have h0 : ¬ nI k < 0 := nI_pos (by omega)
  have h1 : nI k < Int32.ofNat 50 := nI_lt hk (by decide)
  have hi : nI k + 1 = nI (k + 1) := nI_add k 1
  refine am_CD_of (M := am_N49) rfl rfl ?_
  show am_Rn _ _ none am_J49 0 [some (.ref 26), some (.int v)] [] (am_L0 q, G) _
  simp only [am_s49_0, am_s49_1, am_s49_4, am_s49_7, am_s49_8, am_s49_11, am_s49_12, am_s49_15, am_s49_16, am_s49_19, am_s49_20, am_s49_21, am_s49_24, am_s49_25, am_s49_28, am_s49_29, am_s49_30, am_s49_31, am_s49_31a, am_s49_32, am_s49_35, am_s49_36, am_s49_37, am_s49_40, am_f26_0, am_f26_1, am_p26_1, am_n27, am_t27, am_in_nI hk (by decide), hc, hs, h0, h1, am_up_get, Nat.reduceEqDiff, hi, eq_self, am_os_some, Option.toList_some, Option.toList_none, List.cons_append, List.nil_append, if_true, if_false, true_and, am_nw1_i, am_nw1_r, am_nw1_n, cond_true]
theorem am_m49_28 {k : Nat} {v : Int32} (hk : k < 20) (hs : G 28 1 = nI k) : am_CD X (D + 1) 49 [.ref 28, .int v] (am_L0 q, G) = some (none, (am_L0 q, am_up (am_up G 29 k v) 28 1 (nI (k + 1)))) := by
  have hc : (nI k).toNatClampNeg = k := nI_clamp (by omega)
  have h0 : ¬ nI k < 0 := nI_pos (by omega)
  have h1 : nI k < Int32.ofNat 20 := nI_lt hk (by decide)
  have hi : nI k + 1 = nI (k + 1) := nI_add k 1
  refine am_CD_of (M := am_N49) rfl rfl ?_
  show am_Rn _ _ none am_J49 0 [some (.ref 28), some (.int v)] [] (am_L0 q, G) _
  simp only [am_s49_0, am_s49_1, am_s49_4, am_s49_7, am_s49_8, am_s49_11, am_s49_12, am_s49_15, am_s49_16, am_s49_19, am_s49_20, am_s49_21, am_s49_24, am_s49_25, am_s49_28, am_s49_29, am_s49_30, am_s49_31, am_s49_31a, am_s49_32, am_s49_35, am_s49_36, am_s49_37, am_s49_40, am_f28_0, am_f28_1, am_p28_1, am_n29, am_t29, am_in_nI hk (by decide), hc, hs, h0, h1, am_up_get, Nat.reduceEqDiff, hi, eq_self, am_os_some, Option.toList_some, Option.toList_none, List.cons_append, List.nil_append, if_true, if_false, true_and, am_nw1_i, am_nw1_r, am_nw1_n, cond_true]
def am_O88 (w : Int64) (n : Int32) (s : am_St) : Int32 × am_St :=
  if n < 1 ∨ ¬ n ≤ 8 then am_er 1 s
  else if 50 < s.1.2.2.2.1.2 + n.toNatClampNeg then am_er 4 s
  else (nI (s.1.2.2.2.1.2 + n.toNatClampNeg), am_sB (am_fd w s.1.2.2.2.1 n.toNatClampNeg) s)
theorem am_l88 {l : Int64} {B : (Nat → Nat) × Nat} {n : Nat} (hn : n ≤ 8) (hb : B.2 + n ≤ 50) : ∀ (d k : Nat) (G : am_G), k + d = n → am_tap 1 G (am_fd l B k) → ∃ G' : am_G, (∀ i j, i ≠ 26 → i ≠ 27 → G' i j = G i j) ∧ am_tap 1 G' (am_fd l B n) ∧ am_Rn X (D + 3) (some .int) am_J88 47 [some (.ref 0), some (.long l), none, some (.int (nI n)), some (.ref 26), some (.int (nI k))] [] (am_L0 q, G) (some (.int (nI (B.2 + n))), (am_L0 q, G')) := by
  intro d
  induction d with
  | zero =>
    intro k G hk hs
    obtain rfl : k = n := by omega
    refine ⟨G, fun _ _ _ _ => rfl, hs, ?_⟩
    have h : ¬ nI k < nI k := Int32.lt_irrefl
    have e : G 26 1 = nI (B.2 + k) := hs.1
    simp only [am_s88_47, am_s88_49, am_s88_50, am_s88_76, am_s88_78, am_s88_81, h, e, am_f26_1, eq_self, am_os_some, Option.toList_some, Option.toList_none, List.cons_append, List.nil_append, if_true, if_false, true_and, am_nw1_i, am_nw1_r, am_nw1_n, cond_true]
  | succ d ih =>
    intro k G hk hs
    have h : nI k < nI n := nI_lt (by omega) (by omega)
    have hi : nI k + 1 = nI (k + 1) := nI_add k 1
    have e : G 26 1 = nI (B.2 + k) := hs.1
    have eb : am_byl l k &&& 255 = nI (am_by l k) := am_and_nI _ _
    unfold am_byl at eb
    obtain ⟨G', h1, h2, h3⟩ := ih (k + 1) (am_up (am_up G 27 (B.2 + k) (nI (am_by l k))) 26 1 (nI (B.2 + k + 1))) (by omega) ⟨by show am_up _ 26 1 _ 26 1 = nI (B.2 + (k + 1)); rw [am_up_get, if_pos rfl, if_pos rfl, Nat.add_assoc], fun j hj => by
      show am_up _ 26 1 _ 27 j = nI (if j < B.2 then B.1 j else am_by l (j - B.2))
      rw [am_up_get, if_neg (by decide), am_up_get, if_pos rfl]
      by_cases c : j = B.2 + k
      · subst c
        rw [if_pos rfl, if_neg (by omega), Nat.add_sub_cancel_left]
      · rw [if_neg c]
        exact hs.2 j (by have : j < B.2 + (k + 1) := hj; show j < B.2 + k; omega)⟩
    refine ⟨G', fun i j h26 h27 => by rw [h1 i j h26 h27, am_up_get, if_neg h26, am_up_get, if_neg h27], h2, ?_⟩
    simp only [am_s88_47, am_s88_49, am_s88_50, am_s88_53, am_s88_55, am_s88_56, am_s88_58, am_s88_60, am_s88_61, am_s88_62, am_s88_63, am_s88_66, am_s88_67, am_s88_70, h, eb, am_cal_ok am_cat_0 am_v26 (am_m49_26 (D := D + 2) (show B.2 + k < 50 by omega) e), eq_self, am_os_some, Option.toList_some, Option.toList_none, List.cons_append, List.nil_append, if_true, if_false, true_and, am_nw1_i, am_nw1_r, am_nw1_n, cond_true]
    rw [am_s88_73, hi]
    exact h3
theorem am_cfl_B {G' : am_G} {W I : am_We} {c : Nat} {L : List Int32} {E : Nat → Int32} {H : am_Sh} {B : (Nat → Nat) × Nat} (h : am_cfl G W I c L E H) (hf : ∀ i j, i ≠ 26 → i ≠ 27 → G' i j = G i j) (h1 : am_tap 1 G' B) : am_cfl G' (W.1, W.2.1, W.2.2.1, B, W.2.2.2.2) I c L E H :=
  am_cfl_W h (fun i j a b => hf i j (by omega) (by omega)) ⟨am_cp_fr h.1.1 fun i j a b => hf i j (by omega) (by omega), am_cw_fr h.1.2.1 fun i j a b => hf i j (by omega) (by omega), am_cw_fr h.1.2.2.1 fun i j a b => hf i j (by omega) (by omega), h1, am_wai_fr h.1.2.2.2.2.1 fun j => ⟨hf _ j (by omega) (by omega), hf _ j (by omega) (by omega)⟩, (hf 1 5 (by decide) (by decide)).trans h.1.2.2.2.2.2⟩
theorem am_c88 {w : Int64} {n : Int32} {s : am_St} (hs : am_oks s) : am_cO 88 [.long w, .int n] s (am_O88 w n s) := by
  unfold am_O88
  have hB := hs.1.2.2.2.2.1
  by_cases h1 : n < 1
  · rw [if_pos (Or.inl h1)]
    refine am_cop_err (k := 1) (by decide) fun X q G hc => am_CD_of (M := am_N88) rfl rfl ?_
    show am_Rn _ _ ((Option.some FieldType.int)) am_J88 0 [some (.ref 0), some (.long w), none, some (.int n), none, none] [] (am_L0 q, G) _
    simp only [am_s88_0, am_s88_1, am_s88_2, am_s88_5, am_s88_6, am_s88_8, am_s88_11, am_s88_12, am_s88_13, am_s88_16, am_s88_17, am_s88_18, am_s88_21, am_s88_24, am_s88_26, am_s88_27, am_s88_29, am_s88_31, am_s88_34, am_s88_35, am_s88_38, am_s88_39, am_s88_40, am_s88_43, h1, am_cal_ok am_cat_0 am_v0 (am_e1 (D := 98)), am_cal_ok am_cat_0 am_v0 (am_e2 (D := 98)), am_cal_ok am_cat_0 am_v0 (am_e3 (D := 98)), am_cal_ok am_cat_0 am_v0 (am_e4 (D := 98)), am_cal_ok am_cat_0 am_v0 (am_e5 (D := 98)), am_cal_ok am_cat_0 am_rcv_f (am_m123 (D := 98) _ _), am_cal_ok am_cat_0 am_rcv_f (am_m121 (D := 97) _), am_cal_ok am_cat_0 am_rcv_f (am_m122 (D := 97) _), am_bI0, am_f0_0, am_f0_1, am_f0_2, am_f0_3, am_f0_4, am_f0_5, am_f0_6, am_f0_7, am_f1_2, am_ec1, am_ec2, am_ec3, am_ec4, am_ec5, am_er_f, am_sy_f, Bool.false_and, Bool.and_false, reduceCtorEq, not_false_eq_true, not_true_eq_false, eq_self, am_os_some, Option.toList_some, Option.toList_none, List.cons_append, List.nil_append, if_true, if_false, true_and, am_nw1_i, am_nw1_r, am_nw1_n, cond_true]
  · by_cases h2 : n ≤ 8
    · rw [if_neg (by simp only [h1, h2]; simp)]
      have h0 : ¬ n < 0 := fun h => h1 (Int32.lt_trans h (by decide))
      obtain ⟨m, hm, rfl⟩ := nI_of2 (n := 8) (by decide) h0 h2
      rw [nI_clamp (show m < 2 ^ 31 by omega)]
      have e50 : (50 : Int32) - nI s.1.2.2.2.1.2 = nI (50 - s.1.2.2.2.1.2) := am_sub (a := 50) hB
      by_cases h3 : 50 < s.1.2.2.2.1.2 + m
      · rw [if_pos h3]
        have h4 : ¬ nI m ≤ nI (50 - s.1.2.2.2.1.2) := nI_ge (by omega) (by omega)
        refine am_cop_err (k := 4) (by decide) fun X q G hc => am_CD_of (M := am_N88) rfl rfl ?_
        have e26 : G 26 1 = nI s.1.2.2.2.1.2 := hc.1.2.2.2.1.1
        show am_Rn _ _ ((Option.some FieldType.int)) am_J88 0 [some (.ref 0), some (.long w), none, some (.int (nI m)), none, none] [] (am_L0 q, G) _
        simp only [am_s88_0, am_s88_1, am_s88_2, am_s88_5, am_s88_6, am_s88_8, am_s88_11, am_s88_12, am_s88_13, am_s88_16, am_s88_17, am_s88_18, am_s88_21, am_s88_24, am_s88_26, am_s88_27, am_s88_29, am_s88_31, am_s88_34, am_s88_35, am_s88_38, am_s88_39, am_s88_40, am_s88_43, h1, h2, e26, e50, h4, am_f1_3, am_f26_1, am_cal_ok am_cat_0 am_v0 (am_e1 (D := 98)), am_cal_ok am_cat_0 am_v0 (am_e2 (D := 98)), am_cal_ok am_cat_0 am_v0 (am_e3 (D := 98)), am_cal_ok am_cat_0 am_v0 (am_e4 (D := 98)), am_cal_ok am_cat_0 am_v0 (am_e5 (D := 98)), am_cal_ok am_cat_0 am_rcv_f (am_m123 (D := 98) _ _), am_cal_ok am_cat_0 am_rcv_f (am_m121 (D := 97) _), am_cal_ok am_cat_0 am_rcv_f (am_m122 (D := 97) _), am_bI0, am_f0_0, am_f0_1, am_f0_2, am_f0_3, am_f0_4, am_f0_5, am_f0_6, am_f0_7, am_f1_2, am_ec1, am_ec2, am_ec3, am_ec4, am_ec5, am_er_f, am_sy_f, Bool.false_and, Bool.and_false, reduceCtorEq, not_false_eq_true, not_true_eq_false, eq_self, am_os_some, Option.toList_some, Option.toList_none, List.cons_append, List.nil_append, if_true, if_false, true_and, am_nw1_i, am_nw1_r, am_nw1_n, cond_true]
      · rw [if_neg h3]
        intro N xs q G hc
        have e26 : G 26 1 = nI s.1.2.2.2.1.2 := hc.1.2.2.2.1.1
        have h4 : nI m ≤ nI (50 - s.1.2.2.2.1.2) := nI_le (by omega) (by omega)
        obtain ⟨G', f, c, g⟩ := am_l88 (X := am_X0 N xs) (D := 96) (q := q) (l := w) (B := s.1.2.2.2.1) hm (by omega) m 0 G (by omega) ⟨e26, fun j hj => by
          show G 27 j = nI (if j < s.1.2.2.2.1.2 then s.1.2.2.2.1.1 j else _)
          rw [if_pos (show j < s.1.2.2.2.1.2 from hj)]
          exact hc.1.2.2.2.1.2 j hj⟩
        refine ⟨q, G', fun i j hi => f i j (by omega) (by omega), am_cfl_B hc f c, am_CD_of (M := am_N88) rfl rfl ?_⟩
        show am_Rn _ _ ((Option.some FieldType.int)) am_J88 0 [some (.ref 0), some (.long w), none, some (.int (nI m)), none, none] [] (am_L0 q, G) _
        simp only [am_s88_0, am_s88_1, am_s88_2, am_s88_5, am_s88_6, am_s88_8, am_s88_11, am_s88_12, am_s88_13, am_s88_16, am_s88_17, am_s88_18, am_s88_21, am_s88_24, am_s88_26, am_s88_27, am_s88_29, am_s88_31, am_s88_34, am_s88_35, am_s88_38, am_s88_39, am_s88_40, am_s88_43, am_s88_44, am_s88_45, h1, h2, e26, e50, h4, am_f1_3, am_f26_1, am_cal_ok am_cat_0 am_v0 (am_e1 (D := 98)), am_cal_ok am_cat_0 am_v0 (am_e2 (D := 98)), am_cal_ok am_cat_0 am_v0 (am_e3 (D := 98)), am_cal_ok am_cat_0 am_v0 (am_e4 (D := 98)), am_cal_ok am_cat_0 am_v0 (am_e5 (D := 98)), am_cal_ok am_cat_0 am_rcv_f (am_m123 (D := 98) _ _), am_cal_ok am_cat_0 am_rcv_f (am_m121 (D := 97) _), am_cal_ok am_cat_0 am_rcv_f (am_m122 (D := 97) _), am_bI0, am_f0_0, am_f0_1, am_f0_2, am_f0_3, am_f0_4, am_f0_5, am_f0_6, am_f0_7, am_f1_2, am_ec1, am_ec2, am_ec3, am_ec4, am_ec5, am_er_f, am_sy_f, Bool.false_and, Bool.and_false, reduceCtorEq, not_false_eq_true, not_true_eq_false, eq_self, am_os_some, Option.toList_some, Option.toList_none, List.cons_append, List.nil_append, if_true, if_false, true_and, am_nw1_i, am_nw1_r, am_nw1_n, cond_true]
        exact g
    · rw [if_pos (Or.inr h2)]
      refine am_cop_err (k := 1) (by decide) fun X q G hc => am_CD_of (M := am_N88) rfl rfl ?_
      show am_Rn _ _ ((Option.some FieldType.int)) am_J88 0 [some (.ref 0), some (.long w), none, some (.int n), none, none] [] (am_L0 q, G) _
      simp only [am_s88_0, am_s88_1, am_s88_2, am_s88_5, am_s88_6, am_s88_8, am_s88_11, am_s88_12, am_s88_13, am_s88_16, am_s88_17, am_s88_18, am_s88_21, am_s88_24, am_s88_26, am_s88_27, am_s88_29, am_s88_31, am_s88_34, am_s88_35, am_s88_38, am_s88_39, am_s88_40, am_s88_43, h1, h2, am_cal_ok am_cat_0 am_v0 (am_e1 (D := 98)), am_cal_ok am_cat_0 am_v0 (am_e2 (D := 98)), am_cal_ok am_cat_0 am_v0 (am_e3 (D := 98)), am_cal_ok am_cat_0 am_v0 (am_e4 (D := 98)), am_cal_ok am_cat_0 am_v0 (am_e5 (D := 98)), am_cal_ok am_cat_0 am_rcv_f (am_m123 (D := 98) _ _), am_cal_ok am_cat_0 am_rcv_f (am_m121 (D := 97) _), am_cal_ok am_cat_0 am_rcv_f (am_m122 (D := 97) _), am_bI0, am_f0_0, am_f0_1, am_f0_2, am_f0_3, am_f0_4, am_f0_5, am_f0_6, am_f0_7, am_f1_2, am_ec1, am_ec2, am_ec3, am_ec4, am_ec5, am_er_f, am_sy_f, Bool.false_and, Bool.and_false, reduceCtorEq, not_false_eq_true, not_true_eq_false, eq_self, am_os_some, Option.toList_some, Option.toList_none, List.cons_append, List.nil_append, if_true, if_false, true_and, am_nw1_i, am_nw1_r, am_nw1_n, cond_true]
/-- text -/
def am_sL (u : Nat) (T : am_T) (s : am_St) : am_St := ((s.1.1, (if u = 0 then T else s.1.2.1), (if u = 0 then s.1.2.2.1 else T), s.1.2.2.2), s.2)
def am_lwo (u : Nat) (s : am_St) : am_T := if u = 0 then s.1.2.1 else s.1.2.2.1
def am_O89 (a : Int32) (s : am_St) : Int32 × am_St :=
  if am_wi a 1 = false then am_er 1 s
  else ((if (am_rdt a.toNatClampNeg s.1.2.2.2.1.1 s.1.2.2.2.1.2).1.isSome = true then 1 else -10 - nI (am_rdt a.toNatClampNeg s.1.2.2.2.1.1 s.1.2.2.2.1.2).2), am_sB (s.1.2.2.2.1.1, 0) (am_sL a.toNatClampNeg ((am_rdt a.toNatClampNeg s.1.2.2.2.1.1 s.1.2.2.2.1.2).1.getD (am_lwo a.toNatClampNeg s)) s))
theorem am_c89 {a : Int32} {s : am_St} (hs : am_oks s) : am_cO 89 [.int a] s (am_O89 a s) := by
  unfold am_O89
  cases h1 : am_wi a 1 with
  | false =>
    refine am_cop_err (k := 1) (by decide) fun X q G hc => am_CD_of (M := am_N89) rfl rfl ?_
    show am_Rn _ _ ((Option.some FieldType.int)) am_J89 0 [some (.ref 0), some (.int a), none] [] (am_L0 q, G) _
    simp only [am_s89_0, am_s89_1, am_s89_2, am_s89_5, am_s89_8, am_s89_9, am_s89_10, am_s89_13, am_s89_14, am_s89_15, am_s89_18, am_s89_19, am_s89_22, am_s89_25, am_s89_26, am_s89_29, am_s89_30, am_s89_33, am_s89_36, am_s89_37, am_s89_38, am_s89_41, am_s89_44, am_s89_45, am_s89_48, am_s89_49, am_s89_52, am_s89_53, am_s89_56, am_s89_58, am_s89_59, am_s89_60, h1, am_cal_ok am_cat_0 am_v0 (am_e1 (D := 98)), am_cal_ok am_cat_0 am_v0 (am_e2 (D := 98)), am_cal_ok am_cat_0 am_v0 (am_e3 (D := 98)), am_cal_ok am_cat_0 am_v0 (am_e4 (D := 98)), am_cal_ok am_cat_0 am_v0 (am_e5 (D := 98)), am_cal_ok am_cat_0 am_rcv_f (am_m123 (D := 98) _ _), am_cal_ok am_cat_0 am_rcv_f (am_m121 (D := 97) _), am_cal_ok am_cat_0 am_rcv_f (am_m122 (D := 97) _), am_bI0, am_f0_0, am_f0_1, am_f0_2, am_f0_3, am_f0_4, am_f0_5, am_f0_6, am_f0_7, am_f1_2, am_ec1, am_ec2, am_ec3, am_ec4, am_ec5, am_er_f, am_sy_f, Bool.false_and, Bool.and_false, reduceCtorEq, not_false_eq_true, not_true_eq_false, eq_self, am_os_some, Option.toList_some, Option.toList_none, List.cons_append, List.nil_append, if_true, if_false, true_and, am_nw1_i, am_nw1_r, am_nw1_n, cond_true]
  | true =>
    rw [if_neg (by decide)]
    obtain ⟨a1, a2⟩ := am_wi_nI (n := 1) (by decide) h1
    generalize a.toNatClampNeg = u at a1 a2
    subst a2
    have hu : u < 2 := by omega
    intro N xs q G hc
    have hl : (if u = 0 then 2 else 6) = 2 ∨ (if u = 0 then 2 else 6) = 6 := by split; exact Or.inl rfl; exact Or.inr rfl
    have hT : am_cw (if u = 0 then 2 else 6) u G (am_lwo u s) := by
      unfold am_lwo
      match u, hu with
      | 0, _ => exact hc.1.2.1
      | 1, _ => exact hc.1.2.2.1
    have le := am_rdt_le (u := u) (B := s.1.2.2.2.1.1) hs.1.2.2.2.2.1
    obtain ⟨G1, f1, c1, g1⟩ := am_m40 (X := am_X0 N xs) (D := 39) (q := q) hl hu hT hc.1.2.2.2.1 hs.1.2.2.2.2.1 hs.1.2.2.2.2.2.1
    generalize am_rdt u s.1.2.2.2.1.1 s.1.2.2.2.1.2 = R at le c1 g1
    refine ⟨1001 + u, am_up G1 26 1 0, fun i j hi => by rw [am_up_get, if_neg (by omega), f1 i j (by omega) (by rcases hl with e | e <;> rw [e] <;> omega)], am_cfl_W hc (fun i j a b => by rw [am_up_get, if_neg (by omega), f1 i j (by unfold am_kee at a; omega) (by rcases hl with e | e <;> rw [e] <;> omega)]) ⟨?_, ?_, ?_, ?_, ?_, ?_⟩, am_CD_of (M := am_N89) rfl rfl ?_⟩
    · exact am_cp_fr hc.1.1 fun i j a b => by rw [am_up_get, if_neg (by omega), f1 i j (by omega) (by rcases hl with e | e <;> rw [e] <;> omega)]
    · match u, hu, c1, f1 with
      | 0, _, c1, f1 => exact am_cw_fr c1 fun i j a b => by rw [am_up_get, if_neg (by show ¬ i = 26; have : i < 5 := b; omega)]
      | 1, _, c1, f1 => exact am_cw_fr hc.1.2.1 fun i j a b => by rw [am_up_get, if_neg (by omega), f1 i j (by omega) (by show ¬ (6 ≤ i ∧ i < 9); omega)]
    · match u, hu, c1, f1 with
      | 0, _, c1, f1 => exact am_cw_fr hc.1.2.2.1 fun i j a b => by rw [am_up_get, if_neg (by omega), f1 i j (by omega) (by show ¬ (2 ≤ i ∧ i < 5); omega)]
      | 1, _, c1, f1 => exact am_cw_fr c1 fun i j a b => by rw [am_up_get, if_neg (by show ¬ i = 26; have : i < 9 := b; omega)]
    · exact ⟨by show am_up G1 26 1 0 26 1 = nI 0; rw [am_up_get, if_pos rfl, if_pos rfl]; rfl, fun j hj => absurd hj (Nat.not_lt_zero j)⟩
    · exact am_wai_fr hc.1.2.2.2.2.1 fun j => ⟨by rw [am_up_get, if_neg (by omega), f1 _ j (by omega) (by rcases hl with e | e <;> rw [e] <;> omega)], by rw [am_up_get, if_neg (by omega), f1 _ j (by omega) (by rcases hl with e | e <;> rw [e] <;> omega)]⟩
    · show am_up G1 26 1 0 1 5 = _
      rw [am_up_get, if_neg (by omega), f1 _ _ (by omega) (by rcases hl with e | e <;> rw [e] <;> omega)]
      exact hc.1.2.2.2.2.2
    · show am_Rn _ _ ((Option.some FieldType.int)) am_J89 0 [some (.ref 0), some (.int (nI u)), none] [] (am_L0 q, G) _
      have e75 := am_m75 (X := am_X0 N xs) (D := 98) (q := q) (G := G) hu
      by_cases c : R.1.isSome = true
      · rw [if_pos c] at g1
        rw [if_pos c]
        have h5 : ((-1 : Int32) < 0) = True := by decide
        simp only [am_s89_0, am_s89_1, am_s89_2, am_s89_5, am_s89_8, am_s89_9, am_s89_10, am_s89_13, am_s89_14, am_s89_15, am_s89_18, am_s89_19, am_s89_22, am_s89_25, am_s89_26, am_s89_29, am_s89_30, am_s89_33, am_s89_36, am_s89_37, am_s89_38, am_s89_41, am_s89_44, am_s89_45, am_s89_48, am_s89_49, am_s89_52, am_s89_53, am_s89_56, am_s89_58, am_s89_59, am_s89_60, h1, am_f1_3, am_cal_ok (am_cat_3 _ _ _) am_v1 (e75), am_cal_ok (am_cat_2 _ _) am_v1 e75, am_cal_ok am_cat_0 am_v92 (g1), am_p26_1, h5, am_cal_ok am_cat_0 am_v0 (am_e1 (D := 98)), am_cal_ok am_cat_0 am_v0 (am_e2 (D := 98)), am_cal_ok am_cat_0 am_v0 (am_e3 (D := 98)), am_cal_ok am_cat_0 am_v0 (am_e4 (D := 98)), am_cal_ok am_cat_0 am_v0 (am_e5 (D := 98)), am_cal_ok am_cat_0 am_rcv_f (am_m123 (D := 98) _ _), am_cal_ok am_cat_0 am_rcv_f (am_m121 (D := 97) _), am_cal_ok am_cat_0 am_rcv_f (am_m122 (D := 97) _), am_bI0, am_f0_0, am_f0_1, am_f0_2, am_f0_3, am_f0_4, am_f0_5, am_f0_6, am_f0_7, am_f1_2, am_ec1, am_ec2, am_ec3, am_ec4, am_ec5, am_er_f, am_sy_f, Bool.false_and, Bool.and_false, reduceCtorEq, not_false_eq_true, not_true_eq_false, eq_self, am_os_some, Option.toList_some, Option.toList_none, List.cons_append, List.nil_append, if_true, if_false, true_and, am_nw1_i, am_nw1_r, am_nw1_n, cond_true]
      · rw [if_neg c] at g1
        rw [if_neg c]
        have h5 : ¬ nI R.2 < 0 := nI_pos (by omega)
        simp only [am_s89_0, am_s89_1, am_s89_2, am_s89_5, am_s89_8, am_s89_9, am_s89_10, am_s89_13, am_s89_14, am_s89_15, am_s89_18, am_s89_19, am_s89_22, am_s89_25, am_s89_26, am_s89_29, am_s89_30, am_s89_33, am_s89_36, am_s89_37, am_s89_38, am_s89_41, am_s89_44, am_s89_45, am_s89_48, am_s89_49, am_s89_52, am_s89_53, am_s89_56, am_s89_58, am_s89_59, am_s89_60, h1, am_f1_3, am_cal_ok (am_cat_2 _ _) am_v1 e75, am_cal_ok am_cat_0 am_v92 (g1), am_p26_1, h5, am_cal_ok am_cat_0 am_v0 (am_e1 (D := 98)), am_cal_ok am_cat_0 am_v0 (am_e2 (D := 98)), am_cal_ok am_cat_0 am_v0 (am_e3 (D := 98)), am_cal_ok am_cat_0 am_v0 (am_e4 (D := 98)), am_cal_ok am_cat_0 am_v0 (am_e5 (D := 98)), am_cal_ok am_cat_0 am_rcv_f (am_m123 (D := 98) _ _), am_cal_ok am_cat_0 am_rcv_f (am_m121 (D := 97) _), am_cal_ok am_cat_0 am_rcv_f (am_m122 (D := 97) _), am_bI0, am_f0_0, am_f0_1, am_f0_2, am_f0_3, am_f0_4, am_f0_5, am_f0_6, am_f0_7, am_f1_2, am_ec1, am_ec2, am_ec3, am_ec4, am_ec5, am_er_f, am_sy_f, Bool.false_and, Bool.and_false, reduceCtorEq, not_false_eq_true, not_true_eq_false, eq_self, am_os_some, Option.toList_some, Option.toList_none, List.cons_append, List.nil_append, if_true, if_false, true_and, am_nw1_i, am_nw1_r, am_nw1_n, cond_true]
/-- law -/
def am_O90 (u a b c : Int32) (s : am_St) : Int32 × am_St :=
  if am_wi u 1 = false then am_er 1 s
  else am_sy (am_lgv u.toNatClampNeg (am_lwo u.toNatClampNeg s) a b c) s
theorem am_c90 {u a b c : Int32} {s : am_St} (hs : am_oks s) : am_cO 90 [.int u, .int a, .int b, .int c] s (am_O90 u a b c s) := by
  unfold am_O90
  cases h1 : am_wi u 1 with
  | false =>
    refine am_cop_err (k := 1) (by decide) fun X q G hc => am_CD_of (M := am_N90) rfl rfl ?_
    show am_Rn _ _ ((Option.some FieldType.int)) am_J90 0 [some (.ref 0), some (.int u), some (.int a), some (.int b), some (.int c)] [] (am_L0 q, G) _
    simp only [am_s90_0, am_s90_1, am_s90_2, am_s90_5, am_s90_8, am_s90_9, am_s90_10, am_s90_13, am_s90_14, am_s90_15, am_s90_18, am_s90_19, am_s90_22, am_s90_23, am_s90_24, am_s90_26, am_s90_29, h1, am_cal_ok am_cat_0 am_v0 (am_e1 (D := 98)), am_cal_ok am_cat_0 am_v0 (am_e2 (D := 98)), am_cal_ok am_cat_0 am_v0 (am_e3 (D := 98)), am_cal_ok am_cat_0 am_v0 (am_e4 (D := 98)), am_cal_ok am_cat_0 am_v0 (am_e5 (D := 98)), am_cal_ok am_cat_0 am_rcv_f (am_m123 (D := 98) _ _), am_cal_ok am_cat_0 am_rcv_f (am_m121 (D := 97) _), am_cal_ok am_cat_0 am_rcv_f (am_m122 (D := 97) _), am_bI0, am_f0_0, am_f0_1, am_f0_2, am_f0_3, am_f0_4, am_f0_5, am_f0_6, am_f0_7, am_f1_2, am_ec1, am_ec2, am_ec3, am_ec4, am_ec5, am_er_f, am_sy_f, Bool.false_and, Bool.and_false, reduceCtorEq, not_false_eq_true, not_true_eq_false, eq_self, am_os_some, Option.toList_some, Option.toList_none, List.cons_append, List.nil_append, if_true, if_false, true_and, am_nw1_i, am_nw1_r, am_nw1_n, cond_true]
  | true =>
    rw [if_neg (by decide)]
    obtain ⟨a1, a2⟩ := am_wi_nI (n := 1) (by decide) h1
    generalize u.toNatClampNeg = u at a1 a2
    subst a2
    have hu : u < 2 := by omega
    refine am_cop_same fun N xs q G hc => ?_
    have hl : am_isl (if u = 0 then 2 else 6) := by split; exact Or.inl rfl; exact Or.inr (Or.inl rfl)
    have hT : am_cw (if u = 0 then 2 else 6) u G (am_lwo u s) := by
      unfold am_lwo
      match u, hu with
      | 0, _ => exact hc.1.2.1
      | 1, _ => exact hc.1.2.2.1
    have ht : am_wt (am_lwo u s) := by
      unfold am_lwo
      split
      · exact hs.1.2.2.1
      · exact hs.1.2.2.2.1
    obtain ⟨G1, f1, g1⟩ := am_m17 (X := am_X0 N xs) (D := 96) (q := q) hl hu hT ht a b c
    have e75 := am_m75 (X := am_X0 N xs) (D := 98) (q := q) (G := G) hu
    refine ⟨q, G1, fun i j hi => f1 i j (by split <;> omega), am_CD_of (M := am_N90) rfl rfl ?_⟩
    show am_Rn _ _ ((Option.some FieldType.int)) am_J90 0 [some (.ref 0), some (.int (nI u)), some (.int a), some (.int b), some (.int c)] [] (am_L0 q, G) _
    simp only [am_s90_0, am_s90_1, am_s90_2, am_s90_5, am_s90_8, am_s90_9, am_s90_10, am_s90_13, am_s90_14, am_s90_15, am_s90_18, am_s90_19, am_s90_22, am_s90_23, am_s90_24, am_s90_26, am_s90_29, h1, am_cal_ok am_cat_0 am_v1 (e75), am_cal_ok am_cat_0 (am_rl_v hl) (g1), am_cal_ok am_cat_0 am_v0 (am_e1 (D := 98)), am_cal_ok am_cat_0 am_v0 (am_e2 (D := 98)), am_cal_ok am_cat_0 am_v0 (am_e3 (D := 98)), am_cal_ok am_cat_0 am_v0 (am_e4 (D := 98)), am_cal_ok am_cat_0 am_v0 (am_e5 (D := 98)), am_cal_ok am_cat_0 am_rcv_f (am_m123 (D := 98) _ _), am_cal_ok am_cat_0 am_rcv_f (am_m121 (D := 97) _), am_cal_ok am_cat_0 am_rcv_f (am_m122 (D := 97) _), am_bI0, am_f0_0, am_f0_1, am_f0_2, am_f0_3, am_f0_4, am_f0_5, am_f0_6, am_f0_7, am_f1_2, am_ec1, am_ec2, am_ec3, am_ec4, am_ec5, am_er_f, am_sy_f, Bool.false_and, Bool.and_false, reduceCtorEq, not_false_eq_true, not_true_eq_false, eq_self, am_os_some, Option.toList_some, Option.toList_none, List.cons_append, List.nil_append, if_true, if_false, true_and, am_nw1_i, am_nw1_r, am_nw1_n, cond_true]
/-- days -/
def am_O91 (n : Int32) (s : am_St) : Int32 × am_St :=
  if n < 1 ∨ ¬ n ≤ 60 then am_er 1 s
  else if 9999 < s.1.1 13 1 + n.toNatClampNeg then am_er 3 s
  else (nI (am_sum (am_days s.1.2.1 s.1.2.2.1 8 s.1.1 n.toNatClampNeg) 3 (s.1.1 13 0)), am_sS (am_days s.1.2.1 s.1.2.2.1 8 s.1.1 n.toNatClampNeg) s)
theorem am_c91 {n : Int32} {s : am_St} (hs : am_oks s) : am_cO 91 [.int n] s (am_O91 n s) := by
  unfold am_O91
  have hD := hs.1.2.1
  by_cases h1 : n < 1
  · rw [if_pos (Or.inl h1)]
    refine am_cop_err (k := 1) (by decide) fun X q G hc => am_CD_of (M := am_N91) rfl rfl ?_
    show am_Rn _ _ ((Option.some FieldType.int)) am_J91 0 [some (.ref 0), some (.int n)] [] (am_L0 q, G) _
    simp only [am_s91_0, am_s91_1, am_s91_2, am_s91_5, am_s91_6, am_s91_8, am_s91_11, am_s91_12, am_s91_13, am_s91_16, am_s91_17, am_s91_18, am_s91_21, am_s91_22, am_s91_25, am_s91_28, am_s91_31, am_s91_32, am_s91_35, am_s91_36, am_s91_37, am_s91_40, am_s91_41, am_s91_42, am_s91_45, am_s91_48, am_s91_49, am_s91_50, am_s91_53, am_s91_54, am_s91_57, am_s91_60, am_s91_63, h1, am_cal_ok am_cat_0 am_v0 (am_e1 (D := 98)), am_cal_ok am_cat_0 am_v0 (am_e2 (D := 98)), am_cal_ok am_cat_0 am_v0 (am_e3 (D := 98)), am_cal_ok am_cat_0 am_v0 (am_e4 (D := 98)), am_cal_ok am_cat_0 am_v0 (am_e5 (D := 98)), am_cal_ok am_cat_0 am_rcv_f (am_m123 (D := 98) _ _), am_cal_ok am_cat_0 am_rcv_f (am_m121 (D := 97) _), am_cal_ok am_cat_0 am_rcv_f (am_m122 (D := 97) _), am_bI0, am_f0_0, am_f0_1, am_f0_2, am_f0_3, am_f0_4, am_f0_5, am_f0_6, am_f0_7, am_f1_2, am_ec1, am_ec2, am_ec3, am_ec4, am_ec5, am_er_f, am_sy_f, Bool.false_and, Bool.and_false, reduceCtorEq, not_false_eq_true, not_true_eq_false, eq_self, am_os_some, Option.toList_some, Option.toList_none, List.cons_append, List.nil_append, if_true, if_false, true_and, am_nw1_i, am_nw1_r, am_nw1_n, cond_true]
  · by_cases h2 : n ≤ 60
    · rw [if_neg (by simp only [h1, h2]; simp)]
      have h0 : ¬ n < 0 := fun h => h1 (Int32.lt_trans h (by decide))
      obtain ⟨m, hm, rfl⟩ := nI_of2 (n := 60) (by decide) h0 h2
      rw [nI_clamp (show m < 2 ^ 31 by omega)]
      have e99 : (9999 : Int32) - nI (s.1.1 13 1) = nI (9999 - s.1.1 13 1) := am_sub (a := 9999) hD
      by_cases h3 : 9999 < s.1.1 13 1 + m
      · rw [if_pos h3]
        have h4 : ¬ nI m ≤ nI (9999 - s.1.1 13 1) := nI_ge (by omega) (by omega)
        refine am_cop_err (k := 3) (by decide) fun X q G hc => am_CD_of (M := am_N91) rfl rfl ?_
        have hd : G 10 9 = nI (s.1.1 13 1) := hc.1.1.2.2.2
        show am_Rn _ _ ((Option.some FieldType.int)) am_J91 0 [some (.ref 0), some (.int (nI m))] [] (am_L0 q, G) _
        simp only [am_s91_0, am_s91_1, am_s91_2, am_s91_5, am_s91_6, am_s91_8, am_s91_11, am_s91_12, am_s91_13, am_s91_16, am_s91_17, am_s91_18, am_s91_21, am_s91_22, am_s91_25, am_s91_28, am_s91_31, am_s91_32, am_s91_35, am_s91_36, am_s91_37, am_s91_40, am_s91_41, am_s91_42, am_s91_45, am_s91_48, am_s91_49, am_s91_50, am_s91_53, am_s91_54, am_s91_57, am_s91_60, am_s91_63, h1, h2, hd, e99, h4, am_f10_9, am_cal_ok am_cat_0 am_v0 (am_e1 (D := 98)), am_cal_ok am_cat_0 am_v0 (am_e2 (D := 98)), am_cal_ok am_cat_0 am_v0 (am_e3 (D := 98)), am_cal_ok am_cat_0 am_v0 (am_e4 (D := 98)), am_cal_ok am_cat_0 am_v0 (am_e5 (D := 98)), am_cal_ok am_cat_0 am_rcv_f (am_m123 (D := 98) _ _), am_cal_ok am_cat_0 am_rcv_f (am_m121 (D := 97) _), am_cal_ok am_cat_0 am_rcv_f (am_m122 (D := 97) _), am_bI0, am_f0_0, am_f0_1, am_f0_2, am_f0_3, am_f0_4, am_f0_5, am_f0_6, am_f0_7, am_f1_2, am_ec1, am_ec2, am_ec3, am_ec4, am_ec5, am_er_f, am_sy_f, Bool.false_and, Bool.and_false, reduceCtorEq, not_false_eq_true, not_true_eq_false, eq_self, am_os_some, Option.toList_some, Option.toList_none, List.cons_append, List.nil_append, if_true, if_false, true_and, am_nw1_i, am_nw1_r, am_nw1_n, cond_true]
      · rw [if_neg h3]
        intro N xs q G hc
        have hd : G 10 9 = nI (s.1.1 13 1) := hc.1.1.2.2.2
        have h4 : nI m ≤ nI (9999 - s.1.1 13 1) := nI_le (by omega) (by omega)
        obtain ⟨G', f, c, g⟩ := am_m30 (X := am_X0 N xs) (D := 93) (q := q) (G := G) (n := m) (wh := -1) am_10 hc.1.1 hs.1.1 hc.1.2.1 hs.1.2.2.1 hc.1.2.2.1 hs.1.2.2.2.1 (by omega) am_hm1
        have w := am_wf_days (T := s.1.2.1) (U := s.1.2.2.1) (h := 8) hs.1.1 m
        have g28 := am_m28 (X := am_X0 N xs) (D := 98) (q := q) (am_ist_p am_10) c w.1
        rw [w.2.1] at g28
        refine ⟨q, G', fun i j hi => f i j (by unfold am_out; omega) (by omega) (by omega), am_cfl_S hc (fun i j a b _ => f i j (by unfold am_out; omega) (by unfold am_kee at a; omega) (by unfold am_kee at a; omega)) c (f 1 5 (by unfold am_out; omega) (by decide) (by decide)), am_CD_of (M := am_N91) rfl rfl ?_⟩
        show am_Rn _ _ ((Option.some FieldType.int)) am_J91 0 [some (.ref 0), some (.int (nI m))] [] (am_L0 q, G) _
        simp only [am_s91_0, am_s91_1, am_s91_2, am_s91_5, am_s91_6, am_s91_8, am_s91_11, am_s91_12, am_s91_13, am_s91_16, am_s91_17, am_s91_18, am_s91_21, am_s91_22, am_s91_25, am_s91_28, am_s91_31, am_s91_32, am_s91_35, am_s91_36, am_s91_37, am_s91_40, am_s91_41, am_s91_42, am_s91_45, am_s91_48, am_s91_49, am_s91_50, am_s91_53, am_s91_54, am_s91_57, am_s91_60, am_s91_63, h1, h2, hd, e99, h4, am_f10_9, am_cal_ok am_cat_0 am_v10 (g), am_cal_ok am_cat_0 am_v10 (g28), am_cal_ok am_cat_0 am_v0 (am_e1 (D := 98)), am_cal_ok am_cat_0 am_v0 (am_e2 (D := 98)), am_cal_ok am_cat_0 am_v0 (am_e3 (D := 98)), am_cal_ok am_cat_0 am_v0 (am_e4 (D := 98)), am_cal_ok am_cat_0 am_v0 (am_e5 (D := 98)), am_cal_ok am_cat_0 am_rcv_f (am_m123 (D := 98) _ _), am_cal_ok am_cat_0 am_rcv_f (am_m121 (D := 97) _), am_cal_ok am_cat_0 am_rcv_f (am_m122 (D := 97) _), am_bI0, am_f0_0, am_f0_1, am_f0_2, am_f0_3, am_f0_4, am_f0_5, am_f0_6, am_f0_7, am_f1_2, am_ec1, am_ec2, am_ec3, am_ec4, am_ec5, am_er_f, am_sy_f, Bool.false_and, Bool.and_false, reduceCtorEq, not_false_eq_true, not_true_eq_false, eq_self, am_os_some, Option.toList_some, Option.toList_none, List.cons_append, List.nil_append, if_true, if_false, true_and, am_nw1_i, am_nw1_r, am_nw1_n, cond_true]
    · rw [if_pos (Or.inr h2)]
      refine am_cop_err (k := 1) (by decide) fun X q G hc => am_CD_of (M := am_N91) rfl rfl ?_
      show am_Rn _ _ ((Option.some FieldType.int)) am_J91 0 [some (.ref 0), some (.int n)] [] (am_L0 q, G) _
      simp only [am_s91_0, am_s91_1, am_s91_2, am_s91_5, am_s91_6, am_s91_8, am_s91_11, am_s91_12, am_s91_13, am_s91_16, am_s91_17, am_s91_18, am_s91_21, am_s91_22, am_s91_25, am_s91_28, am_s91_31, am_s91_32, am_s91_35, am_s91_36, am_s91_37, am_s91_40, am_s91_41, am_s91_42, am_s91_45, am_s91_48, am_s91_49, am_s91_50, am_s91_53, am_s91_54, am_s91_57, am_s91_60, am_s91_63, h1, h2, am_cal_ok am_cat_0 am_v0 (am_e1 (D := 98)), am_cal_ok am_cat_0 am_v0 (am_e2 (D := 98)), am_cal_ok am_cat_0 am_v0 (am_e3 (D := 98)), am_cal_ok am_cat_0 am_v0 (am_e4 (D := 98)), am_cal_ok am_cat_0 am_v0 (am_e5 (D := 98)), am_cal_ok am_cat_0 am_rcv_f (am_m123 (D := 98) _ _), am_cal_ok am_cat_0 am_rcv_f (am_m121 (D := 97) _), am_cal_ok am_cat_0 am_rcv_f (am_m122 (D := 97) _), am_bI0, am_f0_0, am_f0_1, am_f0_2, am_f0_3, am_f0_4, am_f0_5, am_f0_6, am_f0_7, am_f1_2, am_ec1, am_ec2, am_ec3, am_ec4, am_ec5, am_er_f, am_sy_f, Bool.false_and, Bool.and_false, reduceCtorEq, not_false_eq_true, not_true_eq_false, eq_self, am_os_some, Option.toList_some, Option.toList_none, List.cons_append, List.nil_append, if_true, if_false, true_and, am_nw1_i, am_nw1_r, am_nw1_n, cond_true]
/-- loose -/
def am_lo (T U : am_T) (S : am_S) (z : Int32) : Nat → am_S × Int32
  | 0 => (S, z)
  | k + 1 => (am_days T U 8 (am_dwt (am_lo T U S z k).1 (am_lo T U S z k).2 (S 13 0)).1 1, (am_dwt (am_lo T U S z k).1 (am_lo T U S z k).2 (S 13 0)).2)
theorem am_wf_lo {T U : am_T} {S : am_S} {z : Int32} (hw : am_wf S) : ∀ k, am_wf (am_lo T U S z k).1 ∧ (am_lo T U S z k).1 13 0 = S 13 0 ∧ (am_lo T U S z k).1 13 1 = S 13 1 + k
  | 0 => ⟨hw, rfl, rfl⟩
  | k + 1 => by
    have ih := am_wf_lo (T := T) (U := U) (z := z) hw k
    have a := am_wf_dwt (z := (am_lo T U S z k).2) ih.1 (S 13 0) hw.1
    have b := am_wf_days (T := T) (U := U) (h := 8) a.1 1
    exact ⟨b.1, by show am_days T U 8 _ 1 13 0 = _; rw [b.2.1, a.2, ih.2.1], by show am_days T U 8 _ 1 13 1 = _; rw [b.2.2, a.2, ih.2.2]; rfl⟩
def am_sZ (z : Int32) (s : am_St) : am_St := ((s.1.1, s.1.2.1, s.1.2.2.1, s.1.2.2.2.1, s.1.2.2.2.2.1, z), s.2)
def am_O92 (n : Int32) (s : am_St) : Int32 × am_St :=
  if n < 1 ∨ ¬ n ≤ 40 then am_er 1 s
  else if 9999 < s.1.1 13 1 + n.toNatClampNeg then am_er 3 s
  else (nI (am_sum (am_lo s.1.2.1 s.1.2.2.1 s.1.1 s.1.2.2.2.2.2 n.toNatClampNeg).1 3 (s.1.1 13 0)), am_sZ (am_lo s.1.2.1 s.1.2.2.1 s.1.1 s.1.2.2.2.2.2 n.toNatClampNeg).2 (am_sS (am_lo s.1.2.1 s.1.2.2.1 s.1.1 s.1.2.2.2.2.2 n.toNatClampNeg).1 s))
theorem am_l92 {T U : am_T} {S : am_S} {z : Int32} (hw : am_wf S) (hT : am_wt T) (hU : am_wt U) {n : Nat} (hn : n ≤ 40) (hd : S 13 1 + n ≤ 9999) : ∀ (d k : Nat) (G : am_G), k + d = n → am_cp 10 G (am_lo T U S z k).1 → am_cw 2 0 G T → am_cw 6 1 G U → G 1 5 = (am_lo T U S z k).2 → ∃ G' : am_G, (∀ i j, ¬ (10 ≤ i ∧ i < 26) → i ≠ 1 → i ≠ 5 → i ≠ 9 → G' i j = G i j) ∧ (∀ j, j ≠ 5 → G' 1 j = G 1 j) ∧ am_cp 10 G' (am_lo T U S z n).1 ∧ G' 1 5 = (am_lo T U S z n).2 ∧ am_Rn X 99 (some .int) am_J92 43 [some (.ref 0), some (.int (nI n)), some (.int (nI k))] [] (am_L0 q, G) (some (.int (nI (am_sum (am_lo T U S z n).1 3 (S 13 0)))), (am_L0 q, G')) := by
  intro d
  induction d with
  | zero =>
    intro k G hk hS _ _ hz
    obtain rfl : k = n := by omega
    have w := am_wf_lo (T := T) (U := U) (z := z) hw k
    have g28 := am_m28 (X := X) (D := 98) (q := q) (am_ist_p am_10) hS w.1
    rw [w.2.1] at g28
    have h : ¬ nI k < nI k := Int32.lt_irrefl
    refine ⟨G, fun _ _ _ _ _ _ => rfl, fun _ _ => rfl, hS, hz, ?_⟩
    simp only [am_s92_43, am_s92_44, am_s92_45, am_s92_73, am_s92_74, am_s92_77, am_s92_80, am_s92_83, h, am_f0_0, am_f1_2, am_cal_ok am_cat_0 am_v10 (g28), eq_self, am_os_some, Option.toList_some, Option.toList_none, List.cons_append, List.nil_append, if_true, if_false, true_and, am_nw1_i, am_nw1_r, am_nw1_n, cond_true]
  | succ d ih =>
    intro k G hk hS cT cU hz
    have h : nI k < nI n := nI_lt (by omega) (by omega)
    have hi : nI k + 1 = nI (k + 1) := nI_add k 1
    have w := am_wf_lo (T := T) (U := U) (z := z) hw k
    have w2 := am_wf_dwt (z := (am_lo T U S z k).2) w.1 (S 13 0) hw.1
    obtain ⟨G1, f1, o1, c1, z1, g1⟩ := am_m78 (X := X) (D := 97) (q := q) hS w.1
    rw [hz, w.2.1] at c1 z1
    have fr1 : ∀ i j, ¬ (10 ≤ i ∧ i < 26) → i ≠ 1 → G1 i j = G i j := fun i j a b => f1 i j b (by omega)
    have cT1 := am_cw_fr cT (fun i j a b => fr1 i j (by omega) (by omega))
    have cU1 := am_cw_fr cU (fun i j a b => fr1 i j (by omega) (by omega))
    obtain ⟨G2, f2, c2, g2⟩ := am_m30 (X := X) (D := 93) (q := q) (G := G1) (n := 1) (wh := -1) am_10 c1 w2.1 cT1 hT cU1 hU (by rw [w2.2, w.2.2]; omega) am_hm1
    have g2' : am_CD X 99 30 [.ref 10, .int 1, .int (-1)] (am_L0 q, G1) = some (none, (am_L0 q, G2)) := g2
    have fr2 : ∀ i j, ¬ (10 ≤ i ∧ i < 26) → i ≠ 5 → i ≠ 9 → G2 i j = G1 i j := fun i j a b c => f2 i j (by unfold am_out; omega) b c
    obtain ⟨G3, f3, o3, c3, z3, g3⟩ := ih (k + 1) G2 (by omega) c2 (am_cw_fr cT1 fun i j a b => fr2 i j (by omega) (by omega) (by omega)) (am_cw_fr cU1 fun i j a b => fr2 i j (by omega) (by omega) (by omega)) ((fr2 1 5 (by omega) (by decide) (by decide)).trans z1)
    refine ⟨G3, fun i j a b c e => by rw [f3 i j a b c e, fr2 i j a c e, fr1 i j a b], fun j hj => by rw [o3 j hj, fr2 1 j (by omega) (by decide) (by decide), o1 j hj], c3, z3, ?_⟩
    simp only [am_s92_43, am_s92_44, am_s92_45, am_s92_48, am_s92_49, am_s92_52, am_s92_55, am_s92_56, am_s92_59, am_s92_62, am_s92_63, am_s92_64, am_s92_67, h, am_f0_0, am_f1_2, am_cal_ok am_cat_0 am_v1 (g1), am_cal_ok am_cat_0 am_v10 (g2'), eq_self, am_os_some, Option.toList_some, Option.toList_none, List.cons_append, List.nil_append, if_true, if_false, true_and, am_nw1_i, am_nw1_r, am_nw1_n, cond_true]
    rw [am_s92_70, hi]
    exact g3
theorem am_c92 {n : Int32} {s : am_St} (hs : am_oks s) : am_cO 92 [.int n] s (am_O92 n s) := by
  unfold am_O92
  have hD := hs.1.2.1
  by_cases h1 : n < 1
  · rw [if_pos (Or.inl h1)]
    refine am_cop_err (k := 1) (by decide) fun X q G hc => am_CD_of (M := am_N92) rfl rfl ?_
    show am_Rn _ _ ((Option.some FieldType.int)) am_J92 0 [some (.ref 0), some (.int n), none] [] (am_L0 q, G) _
    simp only [am_s92_0, am_s92_1, am_s92_2, am_s92_5, am_s92_6, am_s92_8, am_s92_11, am_s92_12, am_s92_13, am_s92_16, am_s92_17, am_s92_18, am_s92_21, am_s92_22, am_s92_25, am_s92_28, am_s92_31, am_s92_32, am_s92_35, am_s92_36, am_s92_37, am_s92_40, h1, am_cal_ok am_cat_0 am_v0 (am_e1 (D := 98)), am_cal_ok am_cat_0 am_v0 (am_e2 (D := 98)), am_cal_ok am_cat_0 am_v0 (am_e3 (D := 98)), am_cal_ok am_cat_0 am_v0 (am_e4 (D := 98)), am_cal_ok am_cat_0 am_v0 (am_e5 (D := 98)), am_cal_ok am_cat_0 am_rcv_f (am_m123 (D := 98) _ _), am_cal_ok am_cat_0 am_rcv_f (am_m121 (D := 97) _), am_cal_ok am_cat_0 am_rcv_f (am_m122 (D := 97) _), am_bI0, am_f0_0, am_f0_1, am_f0_2, am_f0_3, am_f0_4, am_f0_5, am_f0_6, am_f0_7, am_f1_2, am_ec1, am_ec2, am_ec3, am_ec4, am_ec5, am_er_f, am_sy_f, Bool.false_and, Bool.and_false, reduceCtorEq, not_false_eq_true, not_true_eq_false, eq_self, am_os_some, Option.toList_some, Option.toList_none, List.cons_append, List.nil_append, if_true, if_false, true_and, am_nw1_i, am_nw1_r, am_nw1_n, cond_true]
  · by_cases h2 : n ≤ 40
    · rw [if_neg (by simp only [h1, h2]; simp)]
      have h0 : ¬ n < 0 := fun h => h1 (Int32.lt_trans h (by decide))
      obtain ⟨m, hm, rfl⟩ := nI_of2 (n := 40) (by decide) h0 h2
      rw [nI_clamp (show m < 2 ^ 31 by omega)]
      have e99 : (9999 : Int32) - nI (s.1.1 13 1) = nI (9999 - s.1.1 13 1) := am_sub (a := 9999) hD
      by_cases h3 : 9999 < s.1.1 13 1 + m
      · rw [if_pos h3]
        have h4 : ¬ nI m ≤ nI (9999 - s.1.1 13 1) := nI_ge (by omega) (by omega)
        refine am_cop_err (k := 3) (by decide) fun X q G hc => am_CD_of (M := am_N92) rfl rfl ?_
        have hd : G 10 9 = nI (s.1.1 13 1) := hc.1.1.2.2.2
        show am_Rn _ _ ((Option.some FieldType.int)) am_J92 0 [some (.ref 0), some (.int (nI m)), none] [] (am_L0 q, G) _
        simp only [am_s92_0, am_s92_1, am_s92_2, am_s92_5, am_s92_6, am_s92_8, am_s92_11, am_s92_12, am_s92_13, am_s92_16, am_s92_17, am_s92_18, am_s92_21, am_s92_22, am_s92_25, am_s92_28, am_s92_31, am_s92_32, am_s92_35, am_s92_36, am_s92_37, am_s92_40, h1, h2, hd, e99, h4, am_f10_9, am_cal_ok am_cat_0 am_v0 (am_e1 (D := 98)), am_cal_ok am_cat_0 am_v0 (am_e2 (D := 98)), am_cal_ok am_cat_0 am_v0 (am_e3 (D := 98)), am_cal_ok am_cat_0 am_v0 (am_e4 (D := 98)), am_cal_ok am_cat_0 am_v0 (am_e5 (D := 98)), am_cal_ok am_cat_0 am_rcv_f (am_m123 (D := 98) _ _), am_cal_ok am_cat_0 am_rcv_f (am_m121 (D := 97) _), am_cal_ok am_cat_0 am_rcv_f (am_m122 (D := 97) _), am_bI0, am_f0_0, am_f0_1, am_f0_2, am_f0_3, am_f0_4, am_f0_5, am_f0_6, am_f0_7, am_f1_2, am_ec1, am_ec2, am_ec3, am_ec4, am_ec5, am_er_f, am_sy_f, Bool.false_and, Bool.and_false, reduceCtorEq, not_false_eq_true, not_true_eq_false, eq_self, am_os_some, Option.toList_some, Option.toList_none, List.cons_append, List.nil_append, if_true, if_false, true_and, am_nw1_i, am_nw1_r, am_nw1_n, cond_true]
      · rw [if_neg h3]
        intro N xs q G hc
        have hd : G 10 9 = nI (s.1.1 13 1) := hc.1.1.2.2.2
        have h4 : nI m ≤ nI (9999 - s.1.1 13 1) := nI_le (by omega) (by omega)
        obtain ⟨G', f, o, c, z, g⟩ := am_l92 (X := am_X0 N xs) (q := q) (z := s.1.2.2.2.2.2) hs.1.1 hs.1.2.2.1 hs.1.2.2.2.1 hm (by omega) m 0 G (by omega) hc.1.1 hc.1.2.1 hc.1.2.2.1 hc.1.2.2.2.2.2
        refine ⟨q, G', fun i j hi => f i j (by omega) (by omega) (by omega) (by omega), am_cfl_W hc (fun i j a b => f i j (by omega) (by omega) (by omega) (by omega)) ⟨c, am_cw_fr hc.1.2.1 fun i j a b => f i j (by omega) (by omega) (by omega) (by omega), am_cw_fr hc.1.2.2.1 fun i j a b => f i j (by omega) (by omega) (by omega) (by omega), am_tap_fr hc.1.2.2.2.1 fun j => ⟨f _ j (by omega) (by omega) (by omega) (by omega), f _ j (by omega) (by omega) (by omega) (by omega)⟩, am_wai_fr hc.1.2.2.2.2.1 fun j => ⟨f _ j (by omega) (by omega) (by omega) (by omega), f _ j (by omega) (by omega) (by omega) (by omega)⟩, z⟩, am_CD_of (M := am_N92) rfl rfl ?_⟩
        show am_Rn _ _ ((Option.some FieldType.int)) am_J92 0 [some (.ref 0), some (.int (nI m)), none] [] (am_L0 q, G) _
        simp only [am_s92_0, am_s92_1, am_s92_2, am_s92_5, am_s92_6, am_s92_8, am_s92_11, am_s92_12, am_s92_13, am_s92_16, am_s92_17, am_s92_18, am_s92_21, am_s92_22, am_s92_25, am_s92_28, am_s92_31, am_s92_32, am_s92_35, am_s92_36, am_s92_37, am_s92_40, am_s92_41, am_s92_42, h1, h2, hd, e99, h4, am_f10_9, am_cal_ok am_cat_0 am_v0 (am_e1 (D := 98)), am_cal_ok am_cat_0 am_v0 (am_e2 (D := 98)), am_cal_ok am_cat_0 am_v0 (am_e3 (D := 98)), am_cal_ok am_cat_0 am_v0 (am_e4 (D := 98)), am_cal_ok am_cat_0 am_v0 (am_e5 (D := 98)), am_cal_ok am_cat_0 am_rcv_f (am_m123 (D := 98) _ _), am_cal_ok am_cat_0 am_rcv_f (am_m121 (D := 97) _), am_cal_ok am_cat_0 am_rcv_f (am_m122 (D := 97) _), am_bI0, am_f0_0, am_f0_1, am_f0_2, am_f0_3, am_f0_4, am_f0_5, am_f0_6, am_f0_7, am_f1_2, am_ec1, am_ec2, am_ec3, am_ec4, am_ec5, am_er_f, am_sy_f, Bool.false_and, Bool.and_false, reduceCtorEq, not_false_eq_true, not_true_eq_false, eq_self, am_os_some, Option.toList_some, Option.toList_none, List.cons_append, List.nil_append, if_true, if_false, true_and, am_nw1_i, am_nw1_r, am_nw1_n, cond_true]
        exact g
    · rw [if_pos (Or.inr h2)]
      refine am_cop_err (k := 1) (by decide) fun X q G hc => am_CD_of (M := am_N92) rfl rfl ?_
      show am_Rn _ _ ((Option.some FieldType.int)) am_J92 0 [some (.ref 0), some (.int n), none] [] (am_L0 q, G) _
      simp only [am_s92_0, am_s92_1, am_s92_2, am_s92_5, am_s92_6, am_s92_8, am_s92_11, am_s92_12, am_s92_13, am_s92_16, am_s92_17, am_s92_18, am_s92_21, am_s92_22, am_s92_25, am_s92_28, am_s92_31, am_s92_32, am_s92_35, am_s92_36, am_s92_37, am_s92_40, h1, h2, am_cal_ok am_cat_0 am_v0 (am_e1 (D := 98)), am_cal_ok am_cat_0 am_v0 (am_e2 (D := 98)), am_cal_ok am_cat_0 am_v0 (am_e3 (D := 98)), am_cal_ok am_cat_0 am_v0 (am_e4 (D := 98)), am_cal_ok am_cat_0 am_v0 (am_e5 (D := 98)), am_cal_ok am_cat_0 am_rcv_f (am_m123 (D := 98) _ _), am_cal_ok am_cat_0 am_rcv_f (am_m121 (D := 97) _), am_cal_ok am_cat_0 am_rcv_f (am_m122 (D := 97) _), am_bI0, am_f0_0, am_f0_1, am_f0_2, am_f0_3, am_f0_4, am_f0_5, am_f0_6, am_f0_7, am_f1_2, am_ec1, am_ec2, am_ec3, am_ec4, am_ec5, am_er_f, am_sy_f, Bool.false_and, Bool.and_false, reduceCtorEq, not_false_eq_true, not_true_eq_false, eq_self, am_os_some, Option.toList_some, Option.toList_none, List.cons_append, List.nil_append, if_true, if_false, true_and, am_nw1_i, am_nw1_r, am_nw1_n, cond_true]
/-- strike -/
def am_stk2 (S : am_S) : am_S × Nat := am_fo (am_L2a 8 0 ++ am_L3a 8 0) (S, 0)
def am_O93 (s : am_St) : Int32 × am_St := (nI (am_stk2 s.1.1).2, am_sS (am_stk2 s.1.1).1 s)
theorem am_c93 {s : am_St} (hs : am_oks s) : am_cO 93 [] s (am_O93 s) := by
  intro N xs q G hc
  obtain ⟨G', f, c, g⟩ := am_m6 (X := am_X0 N xs) (D := 97) (q := q) (am_ist_p am_10) hc.1.1 hs.1.1.2.2.1
  have f' : ∀ i j, ¬ (18 ≤ i ∧ i < 26) → G' i j = G i j := fun i j h => f i j (by omega)
  refine ⟨q, G', fun i j hi => f' i j (by omega), am_cfl_S hc (fun i j _ b _ => f' i j (by omega)) c (f' 1 5 (by decide)), am_CD_of (M := am_N93) rfl rfl ?_⟩
  show am_Rn _ _ ((Option.some FieldType.int)) am_J93 0 [some (.ref 0)] [] (am_L0 q, G) _
  simp only [am_s93_0, am_s93_1, am_s93_4, am_s93_7, am_s93_10, am_s93_13, am_f10_7, am_cal_ok am_cat_0 am_v16 (g), am_cal_ok am_cat_0 am_v0 (am_e1 (D := 98)), am_cal_ok am_cat_0 am_v0 (am_e2 (D := 98)), am_cal_ok am_cat_0 am_v0 (am_e3 (D := 98)), am_cal_ok am_cat_0 am_v0 (am_e4 (D := 98)), am_cal_ok am_cat_0 am_v0 (am_e5 (D := 98)), am_cal_ok am_cat_0 am_rcv_f (am_m123 (D := 98) _ _), am_cal_ok am_cat_0 am_rcv_f (am_m121 (D := 97) _), am_cal_ok am_cat_0 am_rcv_f (am_m122 (D := 97) _), am_bI0, am_f0_0, am_f0_1, am_f0_2, am_f0_3, am_f0_4, am_f0_5, am_f0_6, am_f0_7, am_f1_2, am_ec1, am_ec2, am_ec3, am_ec4, am_ec5, am_er_f, am_sy_f, Bool.false_and, Bool.and_false, reduceCtorEq, not_false_eq_true, not_true_eq_false, eq_self, am_os_some, Option.toList_some, Option.toList_none, List.cons_append, List.nil_append, if_true, if_false, true_and, am_nw1_i, am_nw1_r, am_nw1_n, cond_true]
  rfl
end AMOP3
