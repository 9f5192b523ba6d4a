/-! TURN, ODDS, COVER; the class -/
def am_wkd (T : am_T) (t w : Nat) : Nat → Nat
  | 0 => 0
  | k + 1 => am_wkd T t w k + (if am_gt T t k w = true then 1 else 0)
theorem am_wkd_le {T : am_T} {t w : Nat} : ∀ k, am_wkd T t w k ≤ k
  | 0 => Nat.le_refl _
  | k + 1 => by
    have := am_wkd_le (T := T) (t := t) (w := w) k
    unfold am_wkd
    split <;> omega
/-- the best TRAITS of 0 to k, on how many DAYS -/
def am_bst (T : am_T) (w : Nat) : Nat → Nat × Nat
  | 0 => (0, am_wkd T 0 w 7)
  | k + 1 => if (am_bst T w k).2 < am_wkd T (k + 1) w 7 then (k + 1, am_wkd T (k + 1) w 7) else am_bst T w k
theorem am_bst_le {T : am_T} {w : Nat} : ∀ k, (am_bst T w k).1 ≤ k ∧ (am_bst T w k).2 ≤ 7 ∧ (am_bst T w k).2 = am_wkd T (am_bst T w k).1 w 7
  | 0 => ⟨Nat.le_refl _, am_wkd_le 7, rfl⟩
  | k + 1 => by
    have := am_bst_le (T := T) (w := w) k
    unfold am_bst
    split
    · exact ⟨Nat.le_refl _, am_wkd_le 7, rfl⟩
    · exact ⟨by omega, this.2⟩
def am_us (x k : Int32) : Int32 := (x.toUInt32 >>> (k.toUInt32 &&& Int32.toUInt32 31)).toInt32
def am_b1 (x : Int32) : Int32 := x - (am_us x 1 &&& 1431655765)
def am_b2 (x : Int32) : Int32 := (x &&& 858993459) + (am_us x 2 &&& 858993459)
def am_b3 (x : Int32) : Int32 := (x + am_us x 4) &&& 252645135
def am_b4 (x : Int32) : Int32 := x + am_us x 8
def am_b5 (x : Int32) : Int32 := x + am_us x 16
def am_bcn (x : Int32) : Int32 := am_b5 (am_b4 (am_b3 (am_b2 (am_b1 x)))) &&& 63
def am_pop : Nat → Nat → Nat
  | 0, _ => 0
  | f + 1, n => n % 2 + am_pop f (n / 2)
theorem am_bcn_pop : ∀ k : Fin 256, am_bcn (nI k.1) = nI (am_pop 8 k.1) ∧ am_pop 8 k.1 ≤ 8 := by decide +kernel
def am_nd (S : am_S) : Nat → Nat
  | 0 => 0
  | k + 1 => am_nd S k + am_dr (S 0 k)
def am_bt1 (s p : Nat) : Bool := decide (¬ nI s >>> (nI p &&& 31) &&& 1 = 0)
def am_fst (S : am_S) (s : Nat) : Nat → Nat
  | 0 => 0
  | k + 1 => am_fst S s k + (if am_bt1 s k = true then am_fil (S 0 k) (S 1 k) else 0)
theorem am_dr_le (k : Nat) : am_dr k ≤ 3 := by
  unfold am_dr
  repeat' split
  all_goals omega
theorem am_nd_le {S : am_S} : ∀ k, am_nd S k ≤ 3 * k
  | 0 => Nat.le_refl _
  | k + 1 => by
    have := am_nd_le (S := S) k
    have := am_dr_le (S 0 k)
    unfold am_nd
    omega
theorem am_fst_le {S : am_S} {s : Nat} (hw : am_wf S) : ∀ k, k ≤ 8 → am_fst S s k ≤ 10 * k
  | 0, _ => Nat.le_refl _
  | k + 1, hk => by
    have := am_fst_le (S := S) (s := s) hw k (by omega)
    have h2 := hw.2.1 k (by omega)
    have := am_fi_le h2.1 h2.2.1
    unfold am_fst
    split <;> omega
/-- of the sets below k the best -/
def am_cvr (S : am_S) (g : Int32) : Nat → Option Nat
  | 0 => none
  | k + 1 => if nI k &&& (g ^^^ (-1)) = 0 ∧ am_nd S (S 13 0) ≤ am_fst S k (S 13 0) ∧ (∀ j, am_cvr S g k = some j → am_pop 8 k < am_pop 8 j) then some k else am_cvr S g k
theorem am_cvr_lt {S : am_S} {g : Int32} : ∀ {k j : Nat}, am_cvr S g k = some j → j < k
  | 0, _, h => by cases h
  | k + 1, j, h => by
    unfold am_cvr at h
    split at h
    · cases h; omega
    · have := am_cvr_lt h; omega
section AMCO
variable {X : am_X} {D q a : Nat} {S : am_S} {T U : am_T} {G : am_G}
theorem am_m35 (ha : am_ist a) (hS : am_cp a G S) (hT : am_cw 2 0 G T) (ht : am_wt T) {p t : Nat} (hp : p < 8) : ∃ G' : am_G, (∀ i j, i ≠ 5 → G' i j = G i j) ∧ am_CD X (D + 4) 35 [.ref a, .int (nI p), .int (nI t)] (am_L0 q, G) = some (some (.int (nI (am_wkd T t (S 3 p) 7))), (am_L0 q, G')) := by
  have hb := am_ist_p ha
  have hl : ∀ (d k : Nat) (G : am_G), k + d = 7 → am_cp a G S → am_cw 2 0 G T → ∃ G' : am_G, (∀ i j, i ≠ 5 → G' i j = G i j) ∧ ∀ o, am_Rn X (D + 3) (some .int) am_J35 5 [some (.ref a), some (.int (nI p)), some (.int (nI t)), some (.int (nI (am_wkd T t (S 3 p) k))), some (.int (nI k))] [] (am_L0 q, G) o = am_Rn X (D + 3) (some .int) am_J35 37 [some (.ref a), some (.int (nI p)), some (.int (nI t)), some (.int (nI (am_wkd T t (S 3 p) 7))), some (.int (nI 7))] [] (am_L0 q, G') o := by
    intro d
    induction d with
    | zero =>
      intro k G hk hS _
      obtain rfl : k = 7 := by omega
      have h1 : ¬ nI 7 < 7 := by decide +kernel
      refine ⟨G, fun _ _ _ => rfl, fun o => ?_⟩
      simp only [am_s35_5, am_s35_7, am_s35_9, h1, eq_self, am_os_some, Option.toList_some, Option.toList_none, List.cons_append, List.nil_append, if_true, if_false, true_and, am_nw1_i, am_nw1_r, am_nw1_n, cond_true]
    | succ d ih =>
      intro k G hk hS hT
      have h1 : nI k < 7 := nI_lt (show k < 7 by omega) (by decide)
      have hi : nI k + 1 = nI (k + 1) := nI_add k 1
      obtain ⟨-, -, -, kw, -⟩ := hS.1 p hp
      obtain ⟨G1, f1, g1⟩ := am_m17 (X := X) (D := D) (q := q) (Or.inl rfl) (by decide) hT ht (nI t) (nI k) (nI (S 3 p))
      have e : am_lgv 0 T (nI t) (nI k) (nI (S 3 p)) = nI (if am_gt T t k (S 3 p) = true then 1 else 0) := by
        unfold am_gt
        rcases am_cl0_or (am_lr 0 T (nI t) (nI k) (nI (S 3 p))) with h | h
        · have hx : am_lgv 0 T (nI t) (nI k) (nI (S 3 p)) = 0 := h
          rw [hx]; rfl
        · have hx : am_lgv 0 T (nI t) (nI k) (nI (S 3 p)) = 1 := h
          rw [hx]; rfl
      rw [e] at g1
      have hs : nI (am_wkd T t (S 3 p) k) + nI (if am_gt T t k (S 3 p) = true then 1 else 0) = nI (am_wkd T t (S 3 p) (k + 1)) := nI_add _ _
      obtain ⟨G', f2, g2⟩ := ih (k + 1) G1 (by omega) (am_cp_fr hS fun i j a1 a2 => f1 i j (by rcases ha with rfl | rfl | rfl <;> omega)) (am_cw_fr hT fun i j a1 a2 => f1 i j (by omega))
      refine ⟨G', fun i j hx => by rw [f2 i j hx, f1 i j hx], fun o => ?_⟩
      simp only [am_s35_5, am_s35_7, am_s35_9, am_s35_12, am_s35_13, am_s35_14, am_s35_17, am_s35_18, am_s35_20, am_s35_21, am_s35_24, am_s35_25, am_s35_26, am_s35_29, am_s35_30, am_s35_31, h1, am_fa_0 ha, am_fa_5 hb, am_ap_4 hb hp, kw, am_cal_ok (am_cat_1 _) am_v2 (g1), hs, eq_self, am_os_some, Option.toList_some, Option.toList_none, List.cons_append, List.nil_append, if_true, if_false, true_and, am_nw1_i, am_nw1_r, am_nw1_n, cond_true]
      rw [am_s35_34, hi]
      exact g2 o
  obtain ⟨G', f, g⟩ := hl 7 0 G rfl hS hT
  refine ⟨G', f, ?_⟩
  refine am_CD_of (M := am_N35) rfl rfl ?_
  show am_Rn _ _ ((Option.some FieldType.int)) am_J35 0 [some (.ref a), some (.int (nI p)), some (.int (nI t)), none, none] [] (am_L0 q, G) _
  simp only [am_s35_0, am_s35_1, am_s35_2, am_s35_3, eq_self, am_os_some, Option.toList_some, Option.toList_none, List.cons_append, List.nil_append, if_true, if_false, true_and, am_nw1_i, am_nw1_r, am_nw1_n, cond_true]
  refine (g _).mpr ?_
  simp only [am_s35_37, am_s35_38, eq_self, am_os_some, Option.toList_some, Option.toList_none, List.cons_append, List.nil_append, if_true, if_false, true_and, am_nw1_i, am_nw1_r, am_nw1_n, cond_true]
theorem am_m36 (ha : am_ist a) (hS : am_cp a G S) (hT : am_cw 2 0 G T) (ht : am_wt T) {p : Nat} (hp : p < 8) : ∃ G' : am_G, (∀ i j, i ≠ 5 → G' i j = G i j) ∧ am_CD X (D + 5) 36 [.ref a, .int (nI p)] (am_L0 q, G) = some (some (.int (nI (am_bst T (S 3 p) 15).1)), (am_L0 q, G')) := by
  have hb := am_ist_p ha
  have hl : ∀ (d k : Nat) (G : am_G) (z : Option Value), k + d = 15 → am_cp a G S → am_cw 2 0 G T → ∃ (G' : am_G) (z' : Option Value), (∀ i j, i ≠ 5 → G' i j = G i j) ∧ ∀ o, am_Rn X (D + 4) (some .int) am_J36 12 [some (.ref a), some (.int (nI p)), some (.int (nI (am_bst T (S 3 p) k).1)), some (.int (nI (am_bst T (S 3 p) k).2)), some (.int (nI (k + 1))), z] [] (am_L0 q, G) o = am_Rn X (D + 4) (some .int) am_J36 46 [some (.ref a), some (.int (nI p)), some (.int (nI (am_bst T (S 3 p) 15).1)), some (.int (nI (am_bst T (S 3 p) 15).2)), some (.int (nI 16)), z'] [] (am_L0 q, G') o := by
    intro d
    induction d with
    | zero =>
      intro k G z hk hS _
      obtain rfl : k = 15 := by omega
      have h1 : ¬ nI (15 + 1) ≤ 15 := by decide +kernel
      refine ⟨G, z, fun _ _ _ => rfl, fun o => ?_⟩
      simp only [am_s36_12, am_s36_14, am_s36_16, h1, eq_self, am_os_some, Option.toList_some, Option.toList_none, List.cons_append, List.nil_append, if_true, if_false, true_and, am_nw1_i, am_nw1_r, am_nw1_n, cond_true]
    | succ d ih =>
      intro k G z hk hS hT
      have h1 : nI (k + 1) ≤ 15 := nI_le (show k + 1 ≤ 15 by omega) (by decide)
      have hi : nI (k + 1) + 1 = nI (k + 1 + 1) := nI_add (k + 1) 1
      obtain ⟨G1, f1, g1⟩ := am_m35 (X := X) (D := D) (q := q) (t := k + 1) ha hS hT ht hp
      obtain ⟨G', z', f2, g2⟩ := ih (k + 1) G1 (some (.int (nI (am_wkd T (k + 1) (S 3 p) 7)))) (by omega) (am_cp_fr hS fun i j a1 a2 => f1 i j (by rcases ha with rfl | rfl | rfl <;> omega)) (am_cw_fr hT fun i j a1 a2 => f1 i j (by omega))
      refine ⟨G', z', fun i j hx => by rw [f2 i j hx, f1 i j hx], fun o => ?_⟩
      have b1 := (am_bst_le (T := T) (w := S 3 p) k).2.1
      have b2 := am_wkd_le (T := T) (t := k + 1) (w := S 3 p) 7
      by_cases c : (am_bst T (S 3 p) k).2 < am_wkd T (k + 1) (S 3 p) 7
      · have e : am_bst T (S 3 p) (k + 1) = (k + 1, am_wkd T (k + 1) (S 3 p) 7) := by rw [am_bst, if_pos c]
        have h2 : ¬ nI (am_wkd T (k + 1) (S 3 p) 7) ≤ nI (am_bst T (S 3 p) k).2 := nI_ge c (by omega)
        rw [e] at g2
        simp only [am_s36_12, am_s36_14, am_s36_16, am_s36_19, am_s36_20, am_s36_21, am_s36_23, am_s36_26, am_s36_28, am_s36_30, am_s36_31, am_s36_34, am_s36_36, am_s36_37, am_s36_39, am_s36_40, h1, am_cal_ok am_cat_0 (am_va hb) (g1), h2, eq_self, am_os_some, Option.toList_some, Option.toList_none, List.cons_append, List.nil_append, if_true, if_false, true_and, am_nw1_i, am_nw1_r, am_nw1_n, cond_true]
        rw [am_s36_43, hi]
        exact g2 o
      · have e : am_bst T (S 3 p) (k + 1) = am_bst T (S 3 p) k := by rw [am_bst, if_neg c]
        have h2 : nI (am_wkd T (k + 1) (S 3 p) 7) ≤ nI (am_bst T (S 3 p) k).2 := nI_le (by omega) (by omega)
        rw [e] at g2
        simp only [am_s36_12, am_s36_14, am_s36_16, am_s36_19, am_s36_20, am_s36_21, am_s36_23, am_s36_26, am_s36_28, am_s36_30, am_s36_31, am_s36_34, am_s36_36, am_s36_37, am_s36_39, am_s36_40, h1, am_cal_ok am_cat_0 (am_va hb) (g1), h2, eq_self, am_os_some, Option.toList_some, Option.toList_none, List.cons_append, List.nil_append, if_true, if_false, true_and, am_nw1_i, am_nw1_r, am_nw1_n, cond_true]
        rw [am_s36_43, hi]
        exact g2 o
  obtain ⟨G0, f0, g0⟩ := am_m35 (X := X) (D := D) (q := q) (t := 0) ha hS hT ht hp
  obtain ⟨G', z', f, g⟩ := hl 15 0 G0 none rfl (am_cp_fr hS fun i j a1 a2 => f0 i j (by rcases ha with rfl | rfl | rfl <;> omega)) (am_cw_fr hT fun i j a1 a2 => f0 i j (by omega))
  have g0' : am_CD X (D + 4) 35 [.ref a, .int (nI p), .int 0] (am_L0 q, G) = some (some (.int (nI (am_wkd T 0 (S 3 p) 7))), (am_L0 q, G0)) := g0
  refine ⟨G', fun i j hx => by rw [f i j hx, f0 i j hx], ?_⟩
  refine am_CD_of (M := am_N36) rfl rfl ?_
  show am_Rn _ _ ((Option.some FieldType.int)) am_J36 0 [some (.ref a), some (.int (nI p)), none, none, none, none] [] (am_L0 q, G) _
  simp only [am_s36_0, am_s36_1, am_s36_2, am_s36_3, am_s36_4, am_s36_5, am_s36_8, am_s36_9, am_s36_10, am_cal_ok am_cat_0 (am_va hb) (g0'), eq_self, am_os_some, Option.toList_some, Option.toList_none, List.cons_append, List.nil_append, if_true, if_false, true_and, am_nw1_i, am_nw1_r, am_nw1_n, cond_true]
  refine (g _).mpr ?_
  simp only [am_s36_46, am_s36_47, eq_self, am_os_some, Option.toList_some, Option.toList_none, List.cons_append, List.nil_append, if_true, if_false, true_and, am_nw1_i, am_nw1_r, am_nw1_n, cond_true]
theorem am_m217 {k : Nat} (hk : k < 256) {w : am_M} : am_CD X (D + 1) 217 [.int (nI k)] w = some (some (.int (nI (am_pop 8 k))), w) := by
  have e := (am_bcn_pop ⟨k, hk⟩).1
  dsimp only at e
  rw [← e]
  generalize nI k = x
  unfold am_bcn
  refine am_CD_of (M := am_N217) rfl rfl ?_
  show am_Rn _ _ ((Option.some FieldType.int)) am_J217 0 [some (.int x)] [] w _
  simp only [am_s217_0, am_s217_1, am_s217_2, am_s217_3, am_s217_4, am_s217_7, am_s217_8, am_s217_9, eq_self, am_os_some, Option.toList_some, Option.toList_none, List.cons_append, List.nil_append, if_true, if_false, true_and, am_nw1_i, am_nw1_r, am_nw1_n, cond_true]
  show am_Rn _ _ _ am_J217 10 [some (.int (am_b1 x))] [] _ _
  generalize am_b1 x = x1
  simp only [am_s217_10, am_s217_11, am_s217_14, am_s217_15, am_s217_16, am_s217_17, am_s217_18, am_s217_21, am_s217_22, am_s217_23, eq_self, am_os_some, Option.toList_some, Option.toList_none, List.cons_append, List.nil_append, if_true, if_false, true_and, am_nw1_i, am_nw1_r, am_nw1_n, cond_true]
  show am_Rn _ _ _ am_J217 24 [some (.int (am_b2 x1))] [] _ _
  generalize am_b2 x1 = x2
  simp only [am_s217_24, am_s217_25, am_s217_26, am_s217_27, am_s217_28, am_s217_29, am_s217_32, am_s217_33, eq_self, am_os_some, Option.toList_some, Option.toList_none, List.cons_append, List.nil_append, if_true, if_false, true_and, am_nw1_i, am_nw1_r, am_nw1_n, cond_true]
  show am_Rn _ _ _ am_J217 34 [some (.int (am_b3 x2))] [] _ _
  generalize am_b3 x2 = x3
  simp only [am_s217_34, am_s217_35, am_s217_36, am_s217_38, am_s217_39, am_s217_40, eq_self, am_os_some, Option.toList_some, Option.toList_none, List.cons_append, List.nil_append, if_true, if_false, true_and, am_nw1_i, am_nw1_r, am_nw1_n, cond_true]
  show am_Rn _ _ _ am_J217 41 [some (.int (am_b4 x3))] [] _ _
  generalize am_b4 x3 = x4
  simp only [am_s217_41, am_s217_42, am_s217_43, am_s217_45, am_s217_46, am_s217_47, eq_self, am_os_some, Option.toList_some, Option.toList_none, List.cons_append, List.nil_append, if_true, if_false, true_and, am_nw1_i, am_nw1_r, am_nw1_n, cond_true]
  show am_Rn _ _ _ am_J217 48 [some (.int (am_b5 x4))] [] _ _
  generalize am_b5 x4 = x5
  simp only [am_s217_48, am_s217_49, am_s217_51, am_s217_52, eq_self, am_os_some, Option.toList_some, Option.toList_none, List.cons_append, List.nil_append, if_true, if_false, true_and, am_nw1_i, am_nw1_r, am_nw1_n, cond_true]
theorem am_m38 (hb : am_ispe a) (hS : am_cp a G S) (hw : am_wf S) {s : Nat} : am_CD X (D + 3) 38 [.ref a, .int (nI s)] (am_L0 q, G) = some (some (.int (nI (am_fst S s (S 13 0)))), (am_L0 q, G)) := by
  have h8 := hw.1
  have hl : ∀ (d k : Nat), k + d = S 13 0 → ∀ o, am_Rn X (D + 2) (some .int) am_J38 4 [some (.ref a), some (.int (nI s)), some (.int (nI (am_fst S s k))), some (.int (nI k))] [] (am_L0 q, G) o = am_Rn X (D + 2) (some .int) am_J38 34 [some (.ref a), some (.int (nI s)), some (.int (nI (am_fst S s (S 13 0)))), some (.int (nI (S 13 0)))] [] (am_L0 q, G) o := by
    intro d
    induction d with
    | zero =>
      intro k hk o
      obtain rfl : k = S 13 0 := by omega
      have h1 : ¬ nI (S 13 0) < nI (S 13 0) := Int32.lt_irrefl
      simp only [am_s38_4, am_s38_5, am_s38_6, am_s38_9, am_fa_8 hb, hS.2.2.1, h1, eq_self, am_os_some, Option.toList_some, Option.toList_none, List.cons_append, List.nil_append, if_true, if_false, true_and, am_nw1_i, am_nw1_r, am_nw1_n, cond_true]
    | succ d ih =>
      intro k hk o
      have hk8 : k < 8 := by omega
      have h1 : nI k < nI (S 13 0) := nI_lt (by omega) (by omega)
      have hi : nI k + 1 = nI (k + 1) := nI_add k 1
      have ih1 := ih (k + 1) (by omega) o
      have g1 := am_m24 (X := X) (D := D) (q := q) hb hS hw hk8
      by_cases c : nI s >>> (nI k &&& 31) &&& 1 = 0
      · have e : am_fst S s (k + 1) = am_fst S s k := by
          rw [am_fst, if_neg (by unfold am_bt1; simp [c])]
          rfl
        rw [e] at ih1
        simp only [am_s38_4, am_s38_5, am_s38_6, am_s38_9, am_s38_12, am_s38_13, am_s38_14, am_s38_15, am_s38_16, am_s38_17, am_s38_20, am_s38_21, am_s38_22, am_s38_23, am_s38_26, am_s38_27, am_s38_28, am_fa_8 hb, hS.2.2.1, h1, c, eq_self, am_os_some, Option.toList_some, Option.toList_none, List.cons_append, List.nil_append, if_true, if_false, true_and, am_nw1_i, am_nw1_r, am_nw1_n, cond_true]
        rw [am_s38_31, hi]
        exact ih1
      · have e : am_fst S s (k + 1) = am_fst S s k + am_fil (S 0 k) (S 1 k) := by
          rw [am_fst, if_pos (by unfold am_bt1; simp [c])]
        rw [e] at ih1
        have hs : nI (am_fst S s k) + nI (am_fil (S 0 k) (S 1 k)) = nI (am_fst S s k + am_fil (S 0 k) (S 1 k)) := nI_add _ _
        simp only [am_s38_4, am_s38_5, am_s38_6, am_s38_9, am_s38_12, am_s38_13, am_s38_14, am_s38_15, am_s38_16, am_s38_17, am_s38_20, am_s38_21, am_s38_22, am_s38_23, am_s38_26, am_s38_27, am_s38_28, am_fa_8 hb, hS.2.2.1, h1, c, am_cal_ok (am_cat_1 _) (am_va hb) g1, hs, eq_self, am_os_some, Option.toList_some, Option.toList_none, List.cons_append, List.nil_append, if_true, if_false, true_and, am_nw1_i, am_nw1_r, am_nw1_n, cond_true]
        rw [am_s38_31, hi]
        exact ih1
  refine am_CD_of (M := am_N38) rfl rfl ?_
  show am_Rn _ _ ((Option.some FieldType.int)) am_J38 0 [some (.ref a), some (.int (nI s)), none, none] [] (am_L0 q, G) _
  simp only [am_s38_0, am_s38_1, am_s38_2, am_s38_3, eq_self, am_os_some, Option.toList_some, Option.toList_none, List.cons_append, List.nil_append, if_true, if_false, true_and, am_nw1_i, am_nw1_r, am_nw1_n, cond_true]
  refine (hl (S 13 0) 0 (by omega) _).mpr ?_
  simp only [am_s38_34, am_s38_35, eq_self, am_os_some, Option.toList_some, Option.toList_none, List.cons_append, List.nil_append, if_true, if_false, true_and, am_nw1_i, am_nw1_r, am_nw1_n, cond_true]
theorem am_l37 (hb : am_ispe a) (hS : am_cp a G S) (hw : am_wf S) {g : Int32} : ∀ (d k : Nat), k + d = 256 → ∀ o, am_Rn X (D + 5) (some .int) am_J37 36 [some (.ref a), some (.int g), some (.int (nI (am_nd S (S 13 0)))), some (.int (am_oi (am_cvr S g k))), some (.int (nI k))] [] (am_L0 q, G) o = am_Rn X (D + 5) (some .int) am_J37 91 [some (.ref a), some (.int g), some (.int (nI (am_nd S (S 13 0)))), some (.int (am_oi (am_cvr S g 256))), some (.int (nI 256))] [] (am_L0 q, G) o := by
  have h8 := hw.1
  intro d
  induction d with
  | zero =>
    intro k hk o
    obtain rfl : k = 256 := by omega
    have h1 : ¬ nI 256 < 256 := by decide +kernel
    simp only [am_s37_36, am_s37_38, am_s37_41, h1, eq_self, am_os_some, Option.toList_some, Option.toList_none, List.cons_append, List.nil_append, if_true, if_false, true_and, am_nw1_i, am_nw1_r, am_nw1_n, cond_true]
  | succ d ih =>
    intro k hk o
    have hk2 : k < 256 := by omega
    have h1 : nI k < 256 := nI_lt hk2 (by decide)
    have hi : nI k + 1 = nI (k + 1) := nI_add k 1
    have ih1 := ih (k + 1) (by omega) o
    have hskip : ¬ (nI k &&& (g ^^^ (-1)) = 0 ∧ am_nd S (S 13 0) ≤ am_fst S k (S 13 0) ∧ (∀ j, am_cvr S g k = some j → am_pop 8 k < am_pop 8 j)) → am_cvr S g (k + 1) = am_cvr S g k := fun hc => by rw [am_cvr, if_neg hc]
    by_cases c1 : nI k &&& (g ^^^ (-1)) = 0
    · have g1 := am_m38 (X := X) (D := D + 2) (q := q) (s := k) hb hS hw
      have b1 := am_nd_le (S := S) (S 13 0)
      have b2 := am_fst_le (S := S) (s := k) hw (S 13 0) h8
      by_cases c2 : am_nd S (S 13 0) ≤ am_fst S k (S 13 0)
      · have h2 : ¬ nI (am_fst S k (S 13 0)) < nI (am_nd S (S 13 0)) := nI_nlt c2 (by omega)
        cases hbst : am_cvr S g k with
        | none =>
          have e : am_cvr S g (k + 1) = some k := by rw [am_cvr, if_pos ⟨c1, c2, fun j hj => by rw [hbst] at hj; cases hj⟩]
          rw [e] at ih1
          have e4 : am_oi none = -1 := rfl
          have em : ((-1 : Int32) < 0) = True := by decide
          have e5 : am_oi (some k) = nI k := rfl
          rw [e5] at ih1
          rw [e4]
          simp only [am_s37_36, am_s37_38, am_s37_41, am_s37_44, am_s37_46, am_s37_47, am_s37_48, am_s37_49, am_s37_50, am_s37_53, am_s37_54, am_s37_56, am_s37_59, am_s37_60, am_s37_63, am_s37_66, am_s37_67, am_s37_70, am_s37_72, am_s37_75, am_s37_76, am_s37_79, am_s37_82, am_s37_84, am_s37_85, h1, c1, am_cal_ok am_cat_0 (am_va hb) g1, h2, em, eq_self, am_os_some, Option.toList_some, Option.toList_none, List.cons_append, List.nil_append, if_true, if_false, true_and, am_nw1_i, am_nw1_r, am_nw1_n, cond_true]
          rw [am_s37_88, hi]
          exact ih1
        | some j =>
          have hj := am_cvr_lt hbst
          have e4 : am_oi (some j) = nI j := rfl
          have h3 : ¬ nI j < 0 := nI_pos (by omega)
          have p1 := am_m217 (X := X) (D := D + 4) hk2 (w := (am_L0 q, G))
          have p2 := am_m217 (X := X) (D := D + 4) (show j < 256 by omega) (w := (am_L0 q, G))
          have q1 := (am_bcn_pop ⟨k, hk2⟩).2
          have q2 := (am_bcn_pop ⟨j, by omega⟩).2
          dsimp only at q1 q2
          by_cases c3 : am_pop 8 k < am_pop 8 j
          · have e : am_cvr S g (k + 1) = some k := by rw [am_cvr, if_pos ⟨c1, c2, fun j2 hj2 => by rw [hbst] at hj2; cases hj2; exact c3⟩]
            have e5 : am_oi (some k) = nI k := rfl
            rw [e, e5] at ih1
            have h4 : nI (am_pop 8 k) < nI (am_pop 8 j) := nI_lt c3 (by omega)
            rw [e4]
            simp only [am_s37_36, am_s37_38, am_s37_41, am_s37_44, am_s37_46, am_s37_47, am_s37_48, am_s37_49, am_s37_50, am_s37_53, am_s37_54, am_s37_56, am_s37_59, am_s37_60, am_s37_63, am_s37_66, am_s37_67, am_s37_70, am_s37_72, am_s37_75, am_s37_76, am_s37_79, am_s37_82, am_s37_84, am_s37_85, h1, c1, am_cal_ok am_cat_0 (am_va hb) g1, h2, h3, am_cal_ok am_cat_0 am_rcv_f p1, am_cal_ok (am_cat_1 _) am_rcv_f p2, h4, eq_self, am_os_some, Option.toList_some, Option.toList_none, List.cons_append, List.nil_append, if_true, if_false, true_and, am_nw1_i, am_nw1_r, am_nw1_n, cond_true]
            rw [am_s37_88, hi]
            exact ih1
          · have e := hskip fun hc => c3 (hc.2.2 j hbst)
            rw [e, hbst, e4] at ih1
            have h4 : ¬ nI (am_pop 8 k) < nI (am_pop 8 j) := nI_nlt (by omega) (by omega)
            rw [e4]
            simp only [am_s37_36, am_s37_38, am_s37_41, am_s37_44, am_s37_46, am_s37_47, am_s37_48, am_s37_49, am_s37_50, am_s37_53, am_s37_54, am_s37_56, am_s37_59, am_s37_60, am_s37_63, am_s37_66, am_s37_67, am_s37_70, am_s37_72, am_s37_75, am_s37_76, am_s37_79, am_s37_82, am_s37_84, am_s37_85, h1, c1, am_cal_ok am_cat_0 (am_va hb) g1, h2, h3, am_cal_ok am_cat_0 am_rcv_f p1, am_cal_ok (am_cat_1 _) am_rcv_f p2, h4, eq_self, am_os_some, Option.toList_some, Option.toList_none, List.cons_append, List.nil_append, if_true, if_false, true_and, am_nw1_i, am_nw1_r, am_nw1_n, cond_true]
            rw [am_s37_88, hi]
            exact ih1
      · have e := hskip fun hc => c2 hc.2.1
        rw [e] at ih1
        have h2 : nI (am_fst S k (S 13 0)) < nI (am_nd S (S 13 0)) := nI_lt (by omega) (by omega)
        simp only [am_s37_36, am_s37_38, am_s37_41, am_s37_44, am_s37_46, am_s37_47, am_s37_48, am_s37_49, am_s37_50, am_s37_53, am_s37_54, am_s37_56, am_s37_59, am_s37_60, am_s37_63, am_s37_66, am_s37_67, am_s37_70, am_s37_72, am_s37_75, am_s37_76, am_s37_79, am_s37_82, am_s37_84, am_s37_85, h1, c1, am_cal_ok am_cat_0 (am_va hb) g1, h2, eq_self, am_os_some, Option.toList_some, Option.toList_none, List.cons_append, List.nil_append, if_true, if_false, true_and, am_nw1_i, am_nw1_r, am_nw1_n, cond_true]
        rw [am_s37_88, hi]
        exact ih1
    · have e := hskip fun hc => c1 hc.1
      rw [e] at ih1
      simp only [am_s37_36, am_s37_38, am_s37_41, am_s37_44, am_s37_46, am_s37_47, am_s37_48, am_s37_49, am_s37_50, am_s37_53, am_s37_54, am_s37_56, am_s37_59, am_s37_60, am_s37_63, am_s37_66, am_s37_67, am_s37_70, am_s37_72, am_s37_75, am_s37_76, am_s37_79, am_s37_82, am_s37_84, am_s37_85, h1, c1, eq_self, am_os_some, Option.toList_some, Option.toList_none, List.cons_append, List.nil_append, if_true, if_false, true_and, am_nw1_i, am_nw1_r, am_nw1_n, cond_true]
      rw [am_s37_88, hi]
      exact ih1
theorem am_m37 (ha : am_ist a) (hS : am_cp a G S) (hw : am_wf S) (hT : am_cw 2 0 G T) (ht : am_wt T) (hd : S 13 1 < 2 ^ 31) : ∃ G' : am_G, (∀ i j, i ≠ 5 → G' i j = G i j) ∧ am_CD X (D + 6) 37 [.ref a] (am_L0 q, G) = some (some (.int (am_oi (am_cvr S (am_gs T S (S 13 0)) 256))), (am_L0 q, G')) := by
  have hb := am_ist_p ha
  have h8 := hw.1
  obtain ⟨G1, f1, g1⟩ := am_m27 (X := X) (D := D) (q := q) ha hS hw hT ht hd
  have hS1 : am_cp a G1 S := am_cp_fr hS fun i j a1 a2 => f1 i j (by rcases ha with rfl | rfl | rfl <;> omega)
  refine ⟨G1, f1, ?_⟩
  have hl : ∀ (d k : Nat), k + d = S 13 0 → ∀ o, am_Rn X (D + 5) (some .int) am_J37 9 [some (.ref a), some (.int (am_gs T S (S 13 0))), some (.int (nI (am_nd S k))), some (.int (nI k)), none] [] (am_L0 q, G1) o = am_Rn X (D + 5) (some .int) am_J37 31 [some (.ref a), some (.int (am_gs T S (S 13 0))), some (.int (nI (am_nd S (S 13 0)))), some (.int (nI (S 13 0))), none] [] (am_L0 q, G1) o := by
    intro d
    induction d with
    | zero =>
      intro k hk o
      obtain rfl : k = S 13 0 := by omega
      have h1 : ¬ nI (S 13 0) < nI (S 13 0) := Int32.lt_irrefl
      simp only [am_s37_9, am_s37_10, am_s37_11, am_s37_14, am_fa_8 hb, hS1.2.2.1, h1, eq_self, am_os_some, Option.toList_some, Option.toList_none, List.cons_append, List.nil_append, if_true, if_false, true_and, am_nw1_i, am_nw1_r, am_nw1_n, cond_true]
    | succ d ih =>
      intro k hk o
      have hk8 : k < 8 := by omega
      have h1 : nI k < nI (S 13 0) := nI_lt (by omega) (by omega)
      have hi : nI k + 1 = nI (k + 1) := nI_add k 1
      have g2 := am_m25 (X := X) (D := D + 3) (q := q) hb hS1 hw hk8
      have hs : nI (am_nd S k) + nI (am_dr (S 0 k)) = nI (am_nd S (k + 1)) := nI_add _ _
      simp only [am_s37_9, am_s37_10, am_s37_11, am_s37_14, am_s37_17, am_s37_18, am_s37_19, am_s37_20, am_s37_23, am_s37_24, am_s37_25, am_fa_8 hb, hS1.2.2.1, h1, am_cal_ok (am_cat_1 _) (am_va hb) g2, hs, eq_self, am_os_some, Option.toList_some, Option.toList_none, List.cons_append, List.nil_append, if_true, if_false, true_and, am_nw1_i, am_nw1_r, am_nw1_n, cond_true]
      rw [am_s37_28, hi]
      exact ih (k + 1) (by omega) o
  refine am_CD_of (M := am_N37) rfl rfl ?_
  show am_Rn _ _ ((Option.some FieldType.int)) am_J37 0 [some (.ref a), none, none, none, none] [] (am_L0 q, G) _
  simp only [am_s37_0, am_s37_1, am_s37_4, am_s37_5, am_s37_6, am_s37_7, am_s37_8, am_cal_ok am_cat_0 (am_va hb) (g1), eq_self, am_os_some, Option.toList_some, Option.toList_none, List.cons_append, List.nil_append, if_true, if_false, true_and, am_nw1_i, am_nw1_r, am_nw1_n, cond_true]
  refine (hl (S 13 0) 0 (by omega) _).mpr ?_
  simp only [am_s37_31, am_s37_32, am_s37_33, am_s37_34, eq_self, am_os_some, Option.toList_some, Option.toList_none, List.cons_append, List.nil_append, if_true, if_false, true_and, am_nw1_i, am_nw1_r, am_nw1_n, cond_true]
  refine (am_l37 (X := X) (D := D) (q := q) hb hS1 hw 256 0 rfl _).mpr ?_
  simp only [am_s37_91, am_s37_92, eq_self, am_os_some, Option.toList_some, Option.toList_none, List.cons_append, List.nil_append, if_true, if_false, true_and, am_nw1_i, am_nw1_r, am_nw1_n, cond_true]
end AMCO
