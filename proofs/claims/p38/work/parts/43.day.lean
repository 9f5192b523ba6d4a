/-! a DAY in the class -/
theorem am_sub {a b : Nat} (h : b ≤ a) : nI a - nI b = nI (a - b) := (Int32.ofNat_sub a b h).symm
theorem am_min {a b : Nat} (ha : a < 2 ^ 31) (hb : b < 2 ^ 31) : (if nI b < nI a then nI b else nI a) = nI (min a b) := by
  by_cases h : b < a
  · rw [if_pos (nI_lt h ha), Nat.min_eq_right (by omega)]
  · rw [if_neg (nI_nlt (by omega) hb), Nat.min_eq_left (by omega)]
def am_oi (o : Option Nat) : Int32 := match o with
  | none => -1
  | some j => nI j
section AMDA
variable {X : am_X} {D q a : Nat} {G : am_G} {S : am_S} {T U : am_T}
theorem am_m10 {k m : Nat} (hk : k ≤ 6) (hm : m ≤ 9) {w : am_M} : am_CD X (D + 1) 10 [.int (nI k), .int (nI m)] w = some (some (.int (nI (am_fil k m))), w) := by
  have h3 : nI m - nI m / 3 * 3 = nI (m % 3) := pk_rem (d := 3) (by omega) (by decide) (by decide)
  have h4 : (3 : Int32) + nI (m % 3) = nI (3 + m % 3) := nI_add 3 _
  have h5 : nI (3 + m % 3) + 5 = nI (8 + m % 3) := (nI_add (3 + m % 3) 5).trans (congrArg nI (by omega))
  have h9 : (9 : Int32) - nI m = nI (9 - m) := am_sub (a := 9) (by omega)
  have e30 : ((3 : Int32) = 0) = False := by decide
  refine am_CD_of (M := am_N10) rfl rfl ?_
  show am_Rn _ _ ((Option.some FieldType.int)) am_J10 0 [some (.int (nI k)), some (.int (nI m))] [] w _
  match k, hk with
  | 0, _ =>
    have e : am_tsw 1 66 1 6 #[39, 45, 48, 51, 59, 61] (nI 0) = some 67 := by decide +kernel
    simp only [am_s10_0, am_s10_1, am_s10_40, am_s10_41, am_s10_42, am_s10_43, am_s10_44, am_s10_45, am_s10_46, am_s10_48, am_s10_49, am_s10_51, am_s10_52, am_s10_53, am_s10_54, am_s10_55, am_s10_56, am_s10_57, am_s10_58, am_s10_59, am_s10_60, am_s10_61, am_s10_62, am_s10_64, am_s10_65, am_s10_66, am_s10_67, am_s10_68, e, eq_self, am_os_some, Option.toList_some, Option.toList_none, List.cons_append, List.nil_append, if_true, if_false, true_and, am_nw1_i, am_nw1_r, am_nw1_n, cond_true]; rfl
  | 1, _ =>
    have e : am_tsw 1 66 1 6 #[39, 45, 48, 51, 59, 61] (nI 1) = some 40 := by decide +kernel
    simp only [am_s10_0, am_s10_1, am_s10_40, am_s10_41, am_s10_42, am_s10_43, am_s10_44, am_s10_45, am_s10_46, am_s10_48, am_s10_49, am_s10_51, am_s10_52, am_s10_53, am_s10_54, am_s10_55, am_s10_56, am_s10_57, am_s10_58, am_s10_59, am_s10_60, am_s10_61, am_s10_62, am_s10_64, am_s10_65, am_s10_66, am_s10_67, am_s10_68, e, e30, not_false_eq_true, h3, h4, eq_self, am_os_some, Option.toList_some, Option.toList_none, List.cons_append, List.nil_append, if_true, if_false, true_and, am_nw1_i, am_nw1_r, am_nw1_n, cond_true]; rfl
  | 2, _ =>
    have e : am_tsw 1 66 1 6 #[39, 45, 48, 51, 59, 61] (nI 2) = some 46 := by decide +kernel
    simp only [am_s10_0, am_s10_1, am_s10_40, am_s10_41, am_s10_42, am_s10_43, am_s10_44, am_s10_45, am_s10_46, am_s10_48, am_s10_49, am_s10_51, am_s10_52, am_s10_53, am_s10_54, am_s10_55, am_s10_56, am_s10_57, am_s10_58, am_s10_59, am_s10_60, am_s10_61, am_s10_62, am_s10_64, am_s10_65, am_s10_66, am_s10_67, am_s10_68, e, eq_self, am_os_some, Option.toList_some, Option.toList_none, List.cons_append, List.nil_append, if_true, if_false, true_and, am_nw1_i, am_nw1_r, am_nw1_n, cond_true]; rfl
  | 3, _ =>
    have e : am_tsw 1 66 1 6 #[39, 45, 48, 51, 59, 61] (nI 3) = some 49 := by decide +kernel
    simp only [am_s10_0, am_s10_1, am_s10_40, am_s10_41, am_s10_42, am_s10_43, am_s10_44, am_s10_45, am_s10_46, am_s10_48, am_s10_49, am_s10_51, am_s10_52, am_s10_53, am_s10_54, am_s10_55, am_s10_56, am_s10_57, am_s10_58, am_s10_59, am_s10_60, am_s10_61, am_s10_62, am_s10_64, am_s10_65, am_s10_66, am_s10_67, am_s10_68, e, eq_self, am_os_some, Option.toList_some, Option.toList_none, List.cons_append, List.nil_append, if_true, if_false, true_and, am_nw1_i, am_nw1_r, am_nw1_n, cond_true]; rfl
  | 4, _ =>
    have e : am_tsw 1 66 1 6 #[39, 45, 48, 51, 59, 61] (nI 4) = some 52 := by decide +kernel
    simp only [am_s10_0, am_s10_1, am_s10_40, am_s10_41, am_s10_42, am_s10_43, am_s10_44, am_s10_45, am_s10_46, am_s10_48, am_s10_49, am_s10_51, am_s10_52, am_s10_53, am_s10_54, am_s10_55, am_s10_56, am_s10_57, am_s10_58, am_s10_59, am_s10_60, am_s10_61, am_s10_62, am_s10_64, am_s10_65, am_s10_66, am_s10_67, am_s10_68, e, e30, not_false_eq_true, h3, h4, h5, eq_self, am_os_some, Option.toList_some, Option.toList_none, List.cons_append, List.nil_append, if_true, if_false, true_and, am_nw1_i, am_nw1_r, am_nw1_n, cond_true]; rfl
  | 5, _ =>
    have e : am_tsw 1 66 1 6 #[39, 45, 48, 51, 59, 61] (nI 5) = some 60 := by decide +kernel
    simp only [am_s10_0, am_s10_1, am_s10_40, am_s10_41, am_s10_42, am_s10_43, am_s10_44, am_s10_45, am_s10_46, am_s10_48, am_s10_49, am_s10_51, am_s10_52, am_s10_53, am_s10_54, am_s10_55, am_s10_56, am_s10_57, am_s10_58, am_s10_59, am_s10_60, am_s10_61, am_s10_62, am_s10_64, am_s10_65, am_s10_66, am_s10_67, am_s10_68, e, eq_self, am_os_some, Option.toList_some, Option.toList_none, List.cons_append, List.nil_append, if_true, if_false, true_and, am_nw1_i, am_nw1_r, am_nw1_n, cond_true]; rfl
  | 6, _ =>
    have e : am_tsw 1 66 1 6 #[39, 45, 48, 51, 59, 61] (nI 6) = some 62 := by decide +kernel
    simp only [am_s10_0, am_s10_1, am_s10_40, am_s10_41, am_s10_42, am_s10_43, am_s10_44, am_s10_45, am_s10_46, am_s10_48, am_s10_49, am_s10_51, am_s10_52, am_s10_53, am_s10_54, am_s10_55, am_s10_56, am_s10_57, am_s10_58, am_s10_59, am_s10_60, am_s10_61, am_s10_62, am_s10_64, am_s10_65, am_s10_66, am_s10_67, am_s10_68, e, h9, eq_self, am_os_some, Option.toList_some, Option.toList_none, List.cons_append, List.nil_append, if_true, if_false, true_and, am_nw1_i, am_nw1_r, am_nw1_n, cond_true]; rfl
theorem am_m11 {k : Nat} (hk : k ≤ 6) {w : am_M} : am_CD X (D + 1) 11 [.int (nI k)] w = some (some (.int (nI (am_dr k))), w) := by
  have e : am_tsw 1 41 1 5 #[35, 37, 41, 35, 39] (nI k) = some (if k = 1 then 36 else if k = 4 then 36 else if k = 2 then 38 else if k = 5 then 40 else 42) := by
    have : ∀ k : Fin 7, am_tsw 1 41 1 5 #[35, 37, 41, 35, 39] (nI k.1) = some (if k.1 = 1 then 36 else if k.1 = 4 then 36 else if k.1 = 2 then 38 else if k.1 = 5 then 40 else 42) := by decide +kernel
    exact this ⟨k, by omega⟩
  refine am_CD_of (M := am_N11) rfl rfl ?_
  show am_Rn _ _ ((Option.some FieldType.int)) am_J11 0 [some (.int (nI k))] [] w _
  simp only [am_s11_0, am_s11_1, e, am_os_some]
  unfold am_dr
  by_cases h1 : k = 1
  · simp only [h1, if_true, am_s11_36, am_s11_37, am_s11_38, am_s11_39, am_s11_40, am_s11_41, am_s11_42, am_s11_43, eq_self, am_os_some, Option.toList_some, Option.toList_none, List.cons_append, List.nil_append, if_true, if_false, true_and, am_nw1_i, am_nw1_r, am_nw1_n, cond_true]; rfl
  · by_cases h2 : k = 4
    · simp only [h2, Nat.reduceEqDiff, if_true, if_false, am_s11_36, am_s11_37, am_s11_38, am_s11_39, am_s11_40, am_s11_41, am_s11_42, am_s11_43, eq_self, am_os_some, Option.toList_some, Option.toList_none, List.cons_append, List.nil_append, if_true, if_false, true_and, am_nw1_i, am_nw1_r, am_nw1_n, cond_true]; rfl
    · by_cases h3 : k = 2
      · simp only [h3, Nat.reduceEqDiff, if_true, if_false, am_s11_36, am_s11_37, am_s11_38, am_s11_39, am_s11_40, am_s11_41, am_s11_42, am_s11_43, eq_self, am_os_some, Option.toList_some, Option.toList_none, List.cons_append, List.nil_append, if_true, if_false, true_and, am_nw1_i, am_nw1_r, am_nw1_n, cond_true]; rfl
      · by_cases h5 : k = 5
        · simp only [h5, Nat.reduceEqDiff, if_true, if_false, am_s11_36, am_s11_37, am_s11_38, am_s11_39, am_s11_40, am_s11_41, am_s11_42, am_s11_43, eq_self, am_os_some, Option.toList_some, Option.toList_none, List.cons_append, List.nil_append, if_true, if_false, true_and, am_nw1_i, am_nw1_r, am_nw1_n, cond_true]; rfl
        · simp only [h1, h2, h3, h5, if_false, am_s11_36, am_s11_37, am_s11_38, am_s11_39, am_s11_40, am_s11_41, am_s11_42, am_s11_43, eq_self, am_os_some, Option.toList_some, Option.toList_none, List.cons_append, List.nil_append, if_true, if_false, true_and, am_nw1_i, am_nw1_r, am_nw1_n, cond_true]; rfl
theorem am_m24 (ha : am_ispe a) (hS : am_cp a G S) (hw : am_wf S) {p : Nat} (hp : p < 8) : am_CD X (D + 2) 24 [.ref a, .int (nI p)] (am_L0 q, G) = some (some (.int (nI (am_fil (S 0 p) (S 1 p)))), (am_L0 q, G)) := by
  obtain ⟨k0, k1, -⟩ := hS.1 p hp
  obtain ⟨b0, b1, -⟩ := hw.2.1 p hp
  refine am_CD_of (M := am_N24) rfl rfl ?_
  show am_Rn _ _ ((Option.some FieldType.int)) am_J24 0 [some (.ref a), some (.int (nI p))] [] (am_L0 q, G) _
  simp only [am_s24_0, am_s24_1, am_s24_4, am_s24_5, am_s24_6, am_s24_7, am_s24_10, am_s24_11, am_s24_12, am_s24_15, am_fa_2 ha, am_fa_3 ha, am_ap_1 ha hp, am_ap_2 ha hp, k0, k1, am_cal_ok am_cat_0 am_rcv_f (am_m10 b0 b1), eq_self, am_os_some, Option.toList_some, Option.toList_none, List.cons_append, List.nil_append, if_true, if_false, true_and, am_nw1_i, am_nw1_r, am_nw1_n, cond_true]
theorem am_m25 (ha : am_ispe a) (hS : am_cp a G S) (hw : am_wf S) {p : Nat} (hp : p < 8) : am_CD X (D + 2) 25 [.ref a, .int (nI p)] (am_L0 q, G) = some (some (.int (nI (am_dr (S 0 p)))), (am_L0 q, G)) := by
  obtain ⟨k0, -⟩ := hS.1 p hp
  obtain ⟨b0, -⟩ := hw.2.1 p hp
  refine am_CD_of (M := am_N25) rfl rfl ?_
  show am_Rn _ _ ((Option.some FieldType.int)) am_J25 0 [some (.ref a), some (.int (nI p))] [] (am_L0 q, G) _
  simp only [am_s25_0, am_s25_1, am_s25_4, am_s25_5, am_s25_6, am_s25_9, am_fa_2 ha, am_ap_1 ha hp, k0, am_cal_ok am_cat_0 am_rcv_f (am_m11 b0), eq_self, am_os_some, Option.toList_some, Option.toList_none, List.cons_append, List.nil_append, if_true, if_false, true_and, am_nw1_i, am_nw1_r, am_nw1_n, cond_true]
theorem am_m26 (ha : am_ist a) (hS : am_cp a G S) (hT : am_cw 2 0 G T) (ht : am_wt T) (hd : S 13 1 < 2 ^ 31) {p : Nat} (hp : p < 8) : ∃ G' : am_G, (∀ i j, i ≠ 5 → G' i j = G i j) ∧ am_CD X (D + 4) 26 [.ref a, .int (nI p)] (am_L0 q, G) = some (some (.int (am_bI (am_gv T S p))), (am_L0 q, G')) := by
  have hb := am_ist_p ha
  obtain ⟨-, -, k2, k3, -⟩ := hS.1 p hp
  have k9 := hS.2.2.2
  have h7 : nI (S 13 1) - nI (S 13 1) / 7 * 7 = nI (S 13 1 % 7) := pk_rem (d := 7) hd (by decide) (by decide)
  obtain ⟨G', f1, hh⟩ := am_m17 (X := X) (D := D) (q := q) (Or.inl rfl) (by decide) hT ht (nI (S 2 p)) (nI (S 13 1 % 7)) (nI (S 3 p))
  refine ⟨G', f1, ?_⟩
  have e7 : ((7 : Int32) = 0) = False := by decide
  have e10 : ((1 : Int32) = 0) = False := by decide
  refine am_CD_of (M := am_N26) rfl rfl ?_
  show am_Rn _ _ ((Option.some FieldType.boolean)) am_J26 0 [some (.ref a), some (.int (nI p))] [] (am_L0 q, G) _
  unfold am_gv am_gt
  rcases am_cl0_or (am_lr 0 T (nI (S 2 p)) (nI (S 13 1 % 7)) (nI (S 3 p))) with h | h
  · have hx : am_lgv 0 T (nI (S 2 p)) (nI (S 13 1 % 7)) (nI (S 3 p)) = 0 := h
    rw [hx] at hh ⊢
    simp only [am_s26_0, am_s26_1, am_s26_4, am_s26_5, am_s26_8, am_s26_9, am_s26_10, am_s26_11, am_s26_14, am_s26_16, am_s26_17, am_s26_18, am_s26_21, am_s26_22, am_s26_23, am_s26_26, am_s26_29, am_s26_30, am_s26_33, am_s26_34, am_fa_0 ha, am_fa_4 hb, am_fa_5 hb, am_fa_9 hb, am_ap_3 hb hp, am_ap_4 hb hp, k2, k3, k9, e7, not_false_eq_true, h7, am_cal_ok am_cat_0 am_v2 (hh), true_or, eq_self, am_os_some, Option.toList_some, Option.toList_none, List.cons_append, List.nil_append, if_true, if_false, true_and, am_nw1_i, am_nw1_r, am_nw1_n, cond_true]
    rfl
  · have hx : am_lgv 0 T (nI (S 2 p)) (nI (S 13 1 % 7)) (nI (S 3 p)) = 1 := h
    rw [hx] at hh ⊢
    simp only [am_s26_0, am_s26_1, am_s26_4, am_s26_5, am_s26_8, am_s26_9, am_s26_10, am_s26_11, am_s26_14, am_s26_16, am_s26_17, am_s26_18, am_s26_21, am_s26_22, am_s26_23, am_s26_26, am_s26_29, am_s26_30, am_s26_33, am_s26_34, am_fa_0 ha, am_fa_4 hb, am_fa_5 hb, am_fa_9 hb, am_ap_3 hb hp, am_ap_4 hb hp, k2, k3, k9, e7, e10, not_false_eq_true, h7, am_cal_ok am_cat_0 am_v2 (hh), or_true, eq_self, am_os_some, Option.toList_some, Option.toList_none, List.cons_append, List.nil_append, if_true, if_false, true_and, am_nw1_i, am_nw1_r, am_nw1_n, cond_true]
    rfl
theorem am_m3 (ha : am_ispe a) (hS : am_cp a G S) {x y : Nat} (hx : x < 8) (hy : y < 8) (hb : S (5 + x) y ≤ 99) : am_CD X (D + 1) 3 [.ref (a + 6), .int (nI x), .int (nI y)] (am_L0 q, G) = some (none, (am_L0 q, am_up G (a + 8 + x) y (nI (min 99 (S (5 + x) y + 1))))) := by
  have hv := hS.2.1 x y hx hy
  have h1 : nI (S (5 + x) y) + 1 = nI (S (5 + x) y + 1) := nI_add _ 1
  have hm : (if nI (S (5 + x) y + 1) < 99 then nI (S (5 + x) y + 1) else 99) = nI (min 99 (S (5 + x) y + 1)) := am_min (a := 99) (by decide) (by omega)
  refine am_CD_of (M := am_N3) rfl rfl ?_
  show am_Rn _ _ none am_J3 0 [some (.ref (a + 6)), some (.int (nI x)), some (.int (nI y))] [] (am_L0 q, G) _
  simp only [am_s3_0, am_s3_1, am_s3_4, am_s3_5, am_s3_6, am_s3_7, am_s3_9, am_s3_10, am_s3_13, am_s3_14, am_s3_15, am_s3_16, am_s3_17, am_s3_18, am_s3_19, am_s3_22, am_s3_23, am_fa_d ha, am_ra ha hx, am_ad ha hx hy, am_td ha hx hy, hv, h1, hm, am_cat_2, eq_self, am_os_some, Option.toList_some, Option.toList_none, List.cons_append, List.nil_append, if_true, if_false, true_and, am_nw1_i, am_nw1_r, am_nw1_n, cond_true]
theorem am_l32 (ha : am_ist a) (hU : am_wt U) (hw : am_wf S) {h p : Nat} {wh : Int32} (hh : ∀ k, k < 8 → (nI k = wh ↔ k = h)) (hp : p < 8) : ∀ (d k : Nat) (G : am_G), k + d = S 13 0 → am_cp a G S → am_cw 6 1 G U → ∃ G' : am_G, (∀ i j, i ≠ 9 → G' i j = G i j) ∧ am_Rn X (D + 3) (some .int) am_J32 5 [some (.ref a), some (.int (nI p)), some (.int wh), some (.int (am_oi (am_lb U h S p k))), some (.int (nI k))] [] (am_L0 q, G) (some (.int (am_oi (am_lb U h S p (S 13 0)))), (am_L0 q, G')) := by
  have hb := am_ist_p ha
  have h8 := hw.1
  intro d
  induction d with
  | zero =>
    intro k G hk hS hU2
    obtain rfl : k = S 13 0 := by omega
    have h1 : ¬ nI (S 13 0) < nI (S 13 0) := Int32.lt_irrefl
    refine ⟨G, fun _ _ _ => rfl, ?_⟩
    simp only [am_s32_5, am_s32_7, am_s32_8, am_s32_11, am_s32_107, am_s32_108, am_fa_8 hb, hS.2.2.1, h1, eq_self, am_os_some, Option.toList_some, Option.toList_none, List.cons_append, List.nil_append, if_true, if_false, true_and, am_nw1_i, am_nw1_r, am_nw1_n, cond_true]
  | succ d ih =>
    intro k G hk hS hU2
    have hk8 : k < 8 := by omega
    have h1 : nI k < nI (S 13 0) := nI_lt (by omega) (by omega)
    have hi : nI k + 1 = nI (k + 1) := nI_add k 1
    obtain ⟨-, km, -, kw, -⟩ := hS.1 k hk8
    have kd := hS.2.1 p k hp hk8
    have hnext : ∀ (b : Int32) (G1 : am_G), b = am_oi (am_lb U h S p (k + 1)) → (∀ i j, i ≠ 9 → G1 i j = G i j) → ∃ G' : am_G, (∀ i j, i ≠ 9 → G' i j = G i j) ∧ am_Rn X (D + 3) (some .int) am_J32 101 [some (.ref a), some (.int (nI p)), some (.int wh), some (.int b), some (.int (nI k))] [] (am_L0 q, G1) (some (.int (am_oi (am_lb U h S p (S 13 0)))), (am_L0 q, G')) := by
      intro b G1 hb1 f1
      subst hb1
      obtain ⟨G', f2, g2⟩ := ih (k + 1) G1 (by omega) (am_cp_fr hS fun i j h1 h2 => f1 i j (by rcases ha with rfl | rfl | rfl <;> omega)) (am_cw_fr hU2 fun i j h1 h2 => f1 i j (by omega))
      refine ⟨G', fun i j hx => by rw [f2 i j hx, f1 i j hx], ?_⟩
      simp only [am_s32_101, am_s32_104, hi, eq_self, am_os_some, Option.toList_some, Option.toList_none, List.cons_append, List.nil_append, if_true, if_false, true_and, am_nw1_i, am_nw1_r, am_nw1_n, cond_true]
      exact g2
    have hskip : ¬ (k ≠ p ∧ k ≠ h ∧ 0 < S 3 k ∧ am_ln0 U S p k = true ∧ (∀ j, am_lb U h S p k = some j → S 3 j < S 3 k)) → am_oi (am_lb U h S p k) = am_oi (am_lb U h S p (k + 1)) := fun hc => by
      rw [am_lb, if_neg hc]
    by_cases c1 : k = p
    · subst c1
      obtain ⟨G', f2, g2⟩ := hnext _ G (hskip fun hc => hc.1 rfl) (fun _ _ _ => rfl)
      refine ⟨G', f2, ?_⟩
      simp only [am_s32_5, am_s32_7, am_s32_8, am_s32_11, am_s32_14, am_s32_16, am_s32_17, am_fa_8 hb, hS.2.2.1, h1, eq_self, am_os_some, Option.toList_some, Option.toList_none, List.cons_append, List.nil_append, if_true, if_false, true_and, am_nw1_i, am_nw1_r, am_nw1_n, cond_true]
      exact g2
    have e1 : ¬ nI k = nI p := by rw [nI_eq (by omega) (by omega)]; exact c1
    by_cases c2 : k = h
    · obtain ⟨G', f2, g2⟩ := hnext _ G (hskip fun hc => hc.2.1 c2) (fun _ _ _ => rfl)
      refine ⟨G', f2, ?_⟩
      have e2 : nI k = wh := (hh k hk8).mpr c2
      subst e2
      simp only [am_s32_5, am_s32_7, am_s32_8, am_s32_11, am_s32_14, am_s32_16, am_s32_17, am_s32_20, am_s32_22, am_s32_23, am_fa_8 hb, hS.2.2.1, h1, e1, eq_self, am_os_some, Option.toList_some, Option.toList_none, List.cons_append, List.nil_append, if_true, if_false, true_and, am_nw1_i, am_nw1_r, am_nw1_n, cond_true]
      exact g2
    have e2 : ¬ nI k = wh := fun e => c2 ((hh k hk8).mp e)
    by_cases c3 : S 3 k = 0
    · obtain ⟨G', f2, g2⟩ := hnext _ G (hskip fun hc => by have := hc.2.2.1; omega) (fun _ _ _ => rfl)
      refine ⟨G', f2, ?_⟩
      have e3 : G (a + 4) k = 0 := by rw [kw, c3]; rfl
      simp only [am_s32_5, am_s32_7, am_s32_8, am_s32_11, am_s32_14, am_s32_16, am_s32_17, am_s32_20, am_s32_22, am_s32_23, am_s32_26, am_s32_27, am_s32_30, am_s32_32, am_s32_33, am_s32_36, am_fa_8 hb, am_fa_5 hb, am_ap_4 hb hk8, hS.2.2.1, h1, e1, e2, e3, eq_self, am_os_some, Option.toList_some, Option.toList_none, List.cons_append, List.nil_append, if_true, if_false, true_and, am_nw1_i, am_nw1_r, am_nw1_n, cond_true]
      exact g2
    have hw3 := (hw.2.1 k hk8).2.2.2.1
    have e3 : ¬ nI (S 3 k) = 0 := nI_ne0 (by omega) (by omega)
    -- the law's word
    have hlaw : (∀ j, am_lb U h S p k = some j → S 3 j < S 3 k) → ∃ G' : am_G, (∀ i j, i ≠ 9 → G' i j = G i j) ∧ am_Rn X (D + 3) (some .int) am_J32 62 [some (.ref a), some (.int (nI p)), some (.int wh), some (.int (am_oi (am_lb U h S p k))), some (.int (nI k))] [] (am_L0 q, G) (some (.int (am_oi (am_lb U h S p (S 13 0)))), (am_L0 q, G')) := by
      intro hc4
      obtain ⟨G1, f1, g1⟩ := am_m17 (X := X) (D := D) (q := q) (l := 6) (Or.inr (Or.inl rfl)) (by decide) hU2 hU (nI (S 3 k)) (nI (S (5 + p) k)) (nI (S 1 k))
      rcases am_cl0_or (am_lr 1 U (nI (S 3 k)) (nI (S (5 + p) k)) (nI (S 1 k))) with hx | hx
      · have hx2 : am_lgv 1 U (nI (S 3 k)) (nI (S (5 + p) k)) (nI (S 1 k)) = 0 := hx
        have hl : am_ln0 U S p k = false := by unfold am_ln0; rw [hx2]; rfl
        obtain ⟨G', f2, g2⟩ := hnext _ G1 (hskip fun hc => by rw [hl] at hc; exact Bool.noConfusion hc.2.2.2.1) f1
        rw [hx2] at g1
        refine ⟨G', f2, ?_⟩
        simp only [am_s32_62, am_s32_63, am_s32_66, am_s32_67, am_s32_70, am_s32_72, am_s32_73, am_s32_74, am_s32_77, am_s32_80, am_s32_81, am_s32_82, am_s32_84, am_s32_85, am_s32_86, am_s32_89, am_s32_91, am_s32_92, am_s32_95, am_s32_98, am_s32_100, am_fa_1 ha, am_fa_3 hb, am_fa_5 hb, am_fa_7 hb, am_fa_d hb, am_ra hb hp, am_ad hb hp hk8, am_ap_4 hb hk8, am_ap_2 hb hk8, km, kw, kd, am_cal_ok am_cat_0 am_v6 (g1), eq_self, am_os_some, Option.toList_some, Option.toList_none, List.cons_append, List.nil_append, if_true, if_false, true_and, am_nw1_i, am_nw1_r, am_nw1_n, cond_true]
        exact g2
      · have hx2 : am_lgv 1 U (nI (S 3 k)) (nI (S (5 + p) k)) (nI (S 1 k)) = 1 := hx
        have hl : am_ln0 U S p k = true := by unfold am_ln0; rw [hx2]; rfl
        have e10 : ((1 : Int32) = 0) = False := by decide
        obtain ⟨G', f2, g2⟩ := hnext (nI k) G1 (by rw [am_lb, if_pos ⟨c1, c2, by omega, hl, hc4⟩]; rfl) f1
        rw [hx2] at g1
        refine ⟨G', f2, ?_⟩
        simp only [am_s32_62, am_s32_63, am_s32_66, am_s32_67, am_s32_70, am_s32_72, am_s32_73, am_s32_74, am_s32_77, am_s32_80, am_s32_81, am_s32_82, am_s32_84, am_s32_85, am_s32_86, am_s32_89, am_s32_91, am_s32_92, am_s32_95, am_s32_98, am_s32_100, am_fa_1 ha, am_fa_3 hb, am_fa_5 hb, am_fa_7 hb, am_fa_d hb, am_ra hb hp, am_ad hb hp hk8, am_ap_4 hb hk8, am_ap_2 hb hk8, km, kw, kd, am_cal_ok am_cat_0 am_v6 (g1), e10, eq_self, am_os_some, Option.toList_some, Option.toList_none, List.cons_append, List.nil_append, if_true, if_false, true_and, am_nw1_i, am_nw1_r, am_nw1_n, cond_true]
        exact g2
    cases hbst : am_lb U h S p k with
    | none =>
      rw [hbst] at hlaw
      obtain ⟨G', f2, g2⟩ := hlaw (fun j hj => by cases hj)
      refine ⟨G', f2, ?_⟩
      have em : ((-1 : Int32) < 0) = True := by decide
      have e4 : am_oi none = -1 := rfl
      rw [e4] at g2 ⊢
      simp only [am_s32_5, am_s32_7, am_s32_8, am_s32_11, am_s32_14, am_s32_16, am_s32_17, am_s32_20, am_s32_22, am_s32_23, am_s32_26, am_s32_27, am_s32_30, am_s32_32, am_s32_33, am_s32_36, am_s32_39, am_s32_40, am_fa_8 hb, am_fa_5 hb, am_ap_4 hb hk8, hS.2.2.1, kw, h1, e1, e2, e3, em, eq_self, am_os_some, Option.toList_some, Option.toList_none, List.cons_append, List.nil_append, if_true, if_false, true_and, am_nw1_i, am_nw1_r, am_nw1_n, cond_true]
      exact g2
    | some j =>
      have hj := am_lb_lt hbst
      have hj8 : j < 8 := by omega
      obtain ⟨-, -, -, kwj, -⟩ := hS.1 j hj8
      have hwj := (hw.2.1 j hj8).2.2.2.1
      have e4 : am_oi (some j) = nI j := rfl
      have e5 : ¬ nI j < 0 := nI_pos (by omega)
      by_cases c4 : S 3 j < S 3 k
      · rw [hbst] at hlaw
        obtain ⟨G', f2, g2⟩ := hlaw (fun j2 hj2 => by cases hj2; exact c4)
        refine ⟨G', f2, ?_⟩
        have e6 : ¬ nI (S 3 k) ≤ nI (S 3 j) := nI_ge c4 (by omega)
        rw [e4] at g2 ⊢
        simp only [am_s32_5, am_s32_7, am_s32_8, am_s32_11, am_s32_14, am_s32_16, am_s32_17, am_s32_20, am_s32_22, am_s32_23, am_s32_26, am_s32_27, am_s32_30, am_s32_32, am_s32_33, am_s32_36, am_s32_39, am_s32_40, am_s32_43, am_s32_44, am_s32_47, am_s32_49, am_s32_50, am_s32_51, am_s32_54, am_s32_55, am_s32_56, am_s32_59, am_fa_8 hb, am_fa_5 hb, am_ap_4 hb hk8, am_ap_4 hb hj8, hS.2.2.1, kw, kwj, h1, e1, e2, e3, e5, e6, eq_self, am_os_some, Option.toList_some, Option.toList_none, List.cons_append, List.nil_append, if_true, if_false, true_and, am_nw1_i, am_nw1_r, am_nw1_n, cond_true]
        exact g2
      · obtain ⟨G', f2, g2⟩ := hnext _ G (hskip fun hc => c4 (hc.2.2.2.2 j hbst)) (fun _ _ _ => rfl)
        refine ⟨G', f2, ?_⟩
        have e6 : nI (S 3 k) ≤ nI (S 3 j) := nI_le (by omega) (by omega)
        rw [hbst, e4] at g2
        rw [e4]
        simp only [am_s32_5, am_s32_7, am_s32_8, am_s32_11, am_s32_14, am_s32_16, am_s32_17, am_s32_20, am_s32_22, am_s32_23, am_s32_26, am_s32_27, am_s32_30, am_s32_32, am_s32_33, am_s32_36, am_s32_39, am_s32_40, am_s32_43, am_s32_44, am_s32_47, am_s32_49, am_s32_50, am_s32_51, am_s32_54, am_s32_55, am_s32_56, am_s32_59, am_fa_8 hb, am_fa_5 hb, am_ap_4 hb hk8, am_ap_4 hb hj8, hS.2.2.1, kw, kwj, h1, e1, e2, e3, e5, e6, eq_self, am_os_some, Option.toList_some, Option.toList_none, List.cons_append, List.nil_append, if_true, if_false, true_and, am_nw1_i, am_nw1_r, am_nw1_n, cond_true]
        exact g2
theorem am_m32 (ha : am_ist a) (hS : am_cp a G S) (hU2 : am_cw 6 1 G U) (hU : am_wt U) (hw : am_wf S) {h p : Nat} {wh : Int32} (hh : ∀ k, k < 8 → (nI k = wh ↔ k = h)) (hp : p < 8) : ∃ G' : am_G, (∀ i j, i ≠ 9 → G' i j = G i j) ∧ am_CD X (D + 4) 32 [.ref a, .int (nI p), .int wh] (am_L0 q, G) = some (some (.int (am_oi (am_lb U h S p (S 13 0)))), (am_L0 q, G')) := by
  obtain ⟨G', f1, g1⟩ := am_l32 (X := X) (D := D) (q := q) ha hU hw hh hp (S 13 0) 0 G (by omega) hS hU2
  refine ⟨G', f1, ?_⟩
  refine am_CD_of (M := am_N32) rfl rfl ?_
  show am_Rn _ _ ((Option.some FieldType.int)) am_J32 0 [some (.ref a), some (.int (nI p)), some (.int wh), none, none] [] (am_L0 q, G) _
  simp only [am_s32_0, am_s32_1, am_s32_2, am_s32_3, eq_self, am_os_some, Option.toList_some, Option.toList_none, List.cons_append, List.nil_append, if_true, if_false, true_and, am_nw1_i, am_nw1_r, am_nw1_n, cond_true]
  exact g1
end AMDA
