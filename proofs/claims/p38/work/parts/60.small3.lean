/-! draws, joining, sheets' small methods, what a VOICE says -/
theorem am_u2i (x : UInt32) : x.toInt32 = nI x.toNat := (congrArg UInt32.toInt32 (UInt32.ofNat_toNat (x := x))).symm
def am_ze (z : Int32) : Nat := ((am_zn z).toUInt32 >>> 8).toNat
theorem am_zd_ze (z : Int32) : am_zd z = nI (am_ze z) ∧ am_ze z < 2 ^ 24 := by
  constructor
  · unfold am_zd am_us am_ze
    rw [show (8 : Int32).toUInt32 &&& Int32.toUInt32 31 = 8 by decide]
    exact am_u2i _
  · unfold am_ze
    have h := (am_zn z).toUInt32.toNat_lt
    rw [UInt32.toNat_shiftRight, show (8 : UInt32).toNat % 32 = 8 from rfl, Nat.shiftRight_eq_div_pow]
    omega
def am_tv (d t : Nat) : Nat := if d % 8 = 0 then t ^^^ (1 <<< (d / 8 % 4)) else t
theorem am_tv1 : ∀ (k : Fin 4) (t : Fin 16), nI t.1 ^^^ (1 <<< (nI k.1 &&& 31)) = nI (t.1 ^^^ (1 <<< k.1)) ∧ t.1 ^^^ (1 <<< k.1) ≤ 15 := by decide +kernel
theorem am_tv_le {d t : Nat} (ht : t ≤ 15) : am_tv d t ≤ 15 := by
  unfold am_tv
  split
  · exact (am_tv1 ⟨d / 8 % 4, by omega⟩ ⟨t, by omega⟩).2
  · exact ht
/-- the first k have drawn -/
def am_dwt (S : am_S) (z : Int32) : Nat → am_S × Int32
  | 0 => (S, z)
  | k + 1 => (am_su (am_dwt S z k).1 2 k (am_tv (am_ze (am_dwt S z k).2) ((am_dwt S z k).1 2 k)), am_zn (am_dwt S z k).2)
theorem am_wf_su2 {S : am_S} {p v : Nat} (hw : am_wf S) (hv : v ≤ 15) : am_wf (am_su S 2 p v) := by
  obtain ⟨a1, a2, a3, a4, a5⟩ := hw
  refine ⟨a1, ?_, ?_, ?_, ?_⟩
  · intro z hz
    obtain ⟨b0, b1, b2, b3, b4⟩ := a2 z hz
    refine ⟨b0, b1, ?_, b3, b4⟩
    simp only [am_su_get, if_true]
    split <;> omega
  · intro x y hx hy
    simp only [am_su_get]
    rw [if_neg (by omega)]
    exact a3 x y hx hy
  · intro z hz hz8
    exact a4 z hz hz8
  · intro x y hx hy hz
    have hz1 : S 13 0 ≤ x ∨ S 13 0 ≤ y ∨ x = y := hz
    simp only [am_su_get]
    rw [if_neg (by omega)]
    exact a5 x y hx hy hz1
theorem am_wf_dwt {S : am_S} {z : Int32} (hw : am_wf S) : ∀ k, k ≤ 8 → am_wf (am_dwt S z k).1 ∧ (am_dwt S z k).1 13 = S 13
  | 0, _ => ⟨hw, rfl⟩
  | k + 1, hk => by
    have ih := am_wf_dwt (z := z) hw k (by omega)
    exact ⟨am_wf_su2 ih.1 (am_tv_le (ih.1.2.1 k (by omega)).2.2.1), ih.2⟩
/-- one who joins -/
def am_jo (S : am_S) (km t : Nat) : am_S := am_su (am_su (am_su (am_su S 0 (S 13 0) (km / 10)) 1 (S 13 0) (km % 10)) 2 (S 13 0) t) 13 0 (S 13 0 + 1)
def am_be (S : am_S) (p km : Nat) : am_S := am_su (am_su S 0 p (km / 10)) 1 p (km % 10)
def am_nrw (b v : Int32) : Int32 := if b = 8 then v &&& 255 else if b = 16 then v &&& 65535 else v
def am_hol (z : Nat) (i n : Int32) : Bool := decide (¬ i < 0) && (decide (¬ n < 0) && (decide (i ≤ nI z) && decide (n ≤ nI z - i)))
section AMS3
variable {X : am_X} {D q : Nat}
theorem am_l78 {S : am_S} {z : Int32} (hw : am_wf S) : ∀ (d k : Nat) (G : am_G) (y : Option Value), k + d = S 13 0 → am_cp 10 G (am_dwt S z k).1 → G 1 5 = (am_dwt S z k).2 → ∃ G' : am_G, (∀ i j, i ≠ 1 → i ≠ 13 → G' i j = G i j) ∧ (∀ j, j ≠ 5 → G' 1 j = G 1 j) ∧ am_cp 10 G' (am_dwt S z (S 13 0)).1 ∧ G' 1 5 = (am_dwt S z (S 13 0)).2 ∧ am_Rn X (D + 1) none am_J78 2 [some (.ref 1), some (.int (nI k)), y] [] (am_L0 q, G) (none, (am_L0 q, G')) := by
  intro d
  have h8 := hw.1
  induction d with
  | zero =>
    intro k G y hk hS hz
    obtain rfl : k = S 13 0 := by omega
    have e := hS.2.2.1
    rw [(am_wf_dwt hw _ h8).2] at e
    have h1 : ¬ nI (S 13 0) < nI (S 13 0) := nI_nlt (Nat.le_refl _) (by omega)
    refine ⟨G, fun _ _ _ _ => rfl, fun _ _ => rfl, hS, hz, ?_⟩
    simp only [am_s78_2, am_s78_3, am_s78_4, am_s78_7, am_s78_10, am_s78_51, am_f1_2, am_f10_8, e, h1, eq_self, am_os_some, Option.toList_some, Option.toList_none, List.cons_append, List.nil_append, if_true, if_false, true_and, am_nw1_i, am_nw1_r, am_nw1_n, cond_true]
  | succ d ih =>
    intro k G y hk hS hz
    obtain ⟨w1, w2⟩ := am_wf_dwt (z := z) hw k (by omega)
    have e := hS.2.2.1
    rw [w2] at e
    have h1 : nI k < nI (S 13 0) := nI_lt (by omega) (by omega)
    have hi : nI k + 1 = nI (k + 1) := nI_add k 1
    obtain ⟨z1, z2⟩ := am_zd_ze (am_dwt S z k).2
    have g79 := am_m79 (X := X) (D := D) (q := q) (G := G)
    rw [hz, z1] at g79
    have ht := (w1.2.1 k (by omega)).2.2.1
    have c3 : G 13 k = nI ((am_dwt S z k).1 2 k) := (hS.1 k (by omega)).2.2.1
    have r8 : nI (am_ze (am_dwt S z k).2) - nI (am_ze (am_dwt S z k).2) / 8 * 8 = nI (am_ze (am_dwt S z k).2 % 8) := pk_rem (d := 8) (by omega) (by decide) (by decide)
    have d8 : nI (am_ze (am_dwt S z k).2) / 8 = nI (am_ze (am_dwt S z k).2 / 8) := pk_div (d := 8) (by omega) (by decide) (by decide)
    have r4 : nI (am_ze (am_dwt S z k).2 / 8) - nI (am_ze (am_dwt S z k).2 / 8) / 4 * 4 = nI (am_ze (am_dwt S z k).2 / 8 % 4) := pk_rem (d := 4) (by omega) (by decide) (by decide)
    have bx := (am_tv1 ⟨am_ze (am_dwt S z k).2 / 8 % 4, by omega⟩ ⟨(am_dwt S z k).1 2 k, by omega⟩).1
    dsimp only at bx
    rw [d8] at r8
    have e80 : ((8 : Int32) = 0) = False := by decide
    have e40 : ((4 : Int32) = 0) = False := by decide
    generalize hG1 : am_up G 1 5 (am_zn (am_dwt S z k).2) = G1 at g79
    have cG1 : am_cp 10 G1 (am_dwt S z k).1 := am_cp_fr hS fun i j a b => by rw [← hG1, am_up_get, if_neg (by omega)]
    have c31 : G1 13 k = nI ((am_dwt S z k).1 2 k) := (cG1.1 k (by omega)).2.2.1
    have zG1 : G1 1 5 = am_zn (am_dwt S z k).2 := by rw [← hG1, am_up_get, if_pos rfl, if_pos rfl]
    have oG1 : ∀ j, j ≠ 5 → G1 1 j = G 1 j := fun j hj => by rw [← hG1, am_up_get, if_pos rfl, if_neg hj]
    have fG1 : ∀ i j, i ≠ 1 → G1 i j = G i j := fun i j hi => by rw [← hG1, am_up_get, if_neg hi]
    by_cases c : am_ze (am_dwt S z k).2 % 8 = 0
    · have e0 : nI (am_ze (am_dwt S z k).2 % 8) = 0 := by rw [c]; rfl
      have ev : am_dwt S z (k + 1) = (am_su (am_dwt S z k).1 2 k ((am_dwt S z k).1 2 k ^^^ (1 <<< (am_ze (am_dwt S z k).2 / 8 % 4))), am_zn (am_dwt S z k).2) := by
        show (am_su _ 2 k (am_tv _ _), _) = _
        unfold am_tv
        rw [if_pos c]
      generalize hv : (am_dwt S z k).1 2 k ^^^ (1 <<< (am_ze (am_dwt S z k).2 / 8 % 4)) = v at ev bx
      obtain ⟨G', f, o, c', z', g⟩ := ih (k + 1) (am_up G1 13 k (nI v)) (some (.int (nI (am_ze (am_dwt S z k).2)))) (by omega) (by rw [ev]; exact am_cp_up (f := 2) cG1 (by decide) (by omega)) (by rw [ev, am_up_get, if_neg (by decide)]; exact zG1)
      refine ⟨G', fun i j a b => by rw [f i j a b, am_up_get, if_neg b, fG1 i j a], fun j hj => by rw [o j hj, am_up_get, if_neg (by decide), oG1 j hj], c', z', ?_⟩
      simp only [am_s78_2, am_s78_3, am_s78_4, am_s78_7, am_s78_10, am_s78_13, am_s78_14, am_s78_17, am_s78_18, am_s78_19, am_s78_21, am_s78_22, am_s78_25, am_s78_26, am_s78_29, am_s78_32, am_s78_33, am_s78_34, am_s78_35, am_s78_36, am_s78_37, am_s78_39, am_s78_40, am_s78_41, am_s78_42, am_s78_43, am_s78_44, am_s78_45, am_f1_2, am_f10_8, am_f10_4, e, h1, am_cal_ok am_cat_0 am_v1 (g79), d8, r8, e0, r4, e80, e40, not_false_eq_true, not_true_eq_false, am_a13, am_t13, am_in_nI (show k < 8 by omega) (by decide), nI_clamp (show k < 2 ^ 31 by omega), c31, bx, eq_self, am_os_some, Option.toList_some, Option.toList_none, List.cons_append, List.nil_append, if_true, if_false, true_and, am_nw1_i, am_nw1_r, am_nw1_n, cond_true]
      rw [am_s78_48, hi]
      exact g
    · have e0 : ¬ nI (am_ze (am_dwt S z k).2 % 8) = 0 := nI_ne0 (by omega) (by omega)
      have ev : am_dwt S z (k + 1) = (am_su (am_dwt S z k).1 2 k ((am_dwt S z k).1 2 k), am_zn (am_dwt S z k).2) := by
        show (am_su _ 2 k (am_tv _ _), _) = _
        unfold am_tv
        rw [if_neg c]
      have es : am_su (am_dwt S z k).1 2 k ((am_dwt S z k).1 2 k) = (am_dwt S z k).1 := by
        funext x y
        rw [am_su_get]
        split
        · rename_i e
          subst e
          split
          · rename_i e; subst e; rfl
          · rfl
        · rfl
      rw [es] at ev
      obtain ⟨G', f, o, c', z', g⟩ := ih (k + 1) G1 (some (.int (nI (am_ze (am_dwt S z k).2)))) (by omega) (by rw [ev]; exact cG1) (by rw [ev]; exact zG1)
      refine ⟨G', fun i j a b => by rw [f i j a b, fG1 i j a], fun j hj => by rw [o j hj, oG1 j hj], c', z', ?_⟩
      simp only [am_s78_2, am_s78_3, am_s78_4, am_s78_7, am_s78_10, am_s78_13, am_s78_14, am_s78_17, am_s78_18, am_s78_19, am_s78_21, am_s78_22, am_s78_25, am_s78_26, am_s78_29, am_s78_32, am_s78_33, am_s78_34, am_s78_35, am_s78_36, am_s78_37, am_s78_39, am_s78_40, am_s78_41, am_s78_42, am_s78_43, am_s78_44, am_s78_45, am_f1_2, am_f10_8, am_f10_4, e, h1, am_cal_ok am_cat_0 am_v1 (g79), d8, r8, e0, e80, e40, not_false_eq_true, eq_self, am_os_some, Option.toList_some, Option.toList_none, List.cons_append, List.nil_append, if_true, if_false, true_and, am_nw1_i, am_nw1_r, am_nw1_n, cond_true]
      rw [am_s78_48, hi]
      exact g
theorem am_m78 {G : am_G} {S : am_S} (hS : am_cp 10 G S) (hw : am_wf S) : ∃ G' : am_G, (∀ i j, i ≠ 1 → i ≠ 13 → G' i j = G i j) ∧ (∀ j, j ≠ 5 → G' 1 j = G 1 j) ∧ am_cp 10 G' (am_dwt S (G 1 5) (S 13 0)).1 ∧ G' 1 5 = (am_dwt S (G 1 5) (S 13 0)).2 ∧ am_CD X (D + 2) 78 [.ref 1] (am_L0 q, G) = some (none, (am_L0 q, G')) := by
  obtain ⟨G', f, o, c, z, g⟩ := am_l78 (X := X) (D := D) (q := q) (z := G 1 5) hw (S 13 0) 0 G none (by omega) hS rfl
  refine ⟨G', f, o, c, z, am_CD_of (M := am_N78) rfl rfl ?_⟩
  show am_Rn _ _ none am_J78 0 [some (.ref 1), none, none] [] (am_L0 q, G) _
  simp only [am_s78_0, am_s78_1, eq_self, am_os_some, Option.toList_some, Option.toList_none, List.cons_append, List.nil_append, if_true, if_false, true_and, am_nw1_i, am_nw1_r, am_nw1_n, cond_true]
  exact g
theorem am_m23 {G : am_G} {S : am_S} (hS : am_cp 10 G S) {p km : Nat} (hp : p < 8) (hk : km ≤ 69) : ∃ G' : am_G, (∀ i j, i ≠ 11 → i ≠ 12 → G' i j = G i j) ∧ am_cp 10 G' (am_be S p km) ∧ am_CD X (D + 1) 23 [.ref 10, .int (nI p), .int (nI km)] (am_L0 q, G) = some (none, (am_L0 q, G')) := by
  have d : nI km / 10 = nI (km / 10) := pk_div (d := 10) (by omega) (by decide) (by decide)
  have r : nI km - nI km / 10 * 10 = nI (km % 10) := pk_rem (d := 10) (by omega) (by decide) (by decide)
  rw [d] at r
  have e10 : ((10 : Int32) = 0) = False := by decide
  refine ⟨am_up (am_up G 11 p (nI (km / 10))) 12 p (nI (km % 10)), fun i j a b => by rw [am_up_get, if_neg b, am_up_get, if_neg a], am_cp_up (f := 1) (am_cp_up (f := 0) hS (by decide) hp) (by decide) hp, am_CD_of (M := am_N23) rfl rfl ?_⟩
  show am_Rn _ _ none am_J23 0 [some (.ref 10), some (.int (nI p)), some (.int (nI km))] [] (am_L0 q, G) _
  simp only [am_s23_0, am_s23_1, am_s23_4, am_s23_5, am_s23_6, am_s23_8, am_s23_9, am_s23_10, am_s23_11, am_s23_14, am_s23_15, am_s23_16, am_s23_18, am_s23_19, am_s23_20, am_f10_2, am_f10_3, am_t11, am_t12, am_in_nI hp (by decide), nI_clamp (show p < 2 ^ 31 by omega), e10, not_false_eq_true, d, r, eq_self, am_os_some, Option.toList_some, Option.toList_none, List.cons_append, List.nil_append, if_true, if_false, true_and, am_nw1_i, am_nw1_r, am_nw1_n, cond_true]
theorem am_m22 {G : am_G} {S : am_S} (hS : am_cp 10 G S) (h8 : S 13 0 < 8) {km t : Nat} (hk : km ≤ 69) : ∃ G' : am_G, (∀ i j, i ≠ 10 → i ≠ 11 → i ≠ 12 → i ≠ 13 → G' i j = G i j) ∧ am_cp 10 G' (am_jo S km t) ∧ am_CD X (D + 2) 22 [.ref 10, .int (nI km), .int (nI t)] (am_L0 q, G) = some (some (.int (nI (S 13 0))), (am_L0 q, G')) := by
  obtain ⟨G1, f1, c1, g1⟩ := am_m23 (X := X) (D := D) (q := q) (p := S 13 0) hS h8 hk
  have e := hS.2.2.1
  have e1 : G1 10 8 = nI (S 13 0) := by rw [f1 10 8 (by decide) (by decide)]; exact e
  have h1 : ¬ nI (S 13 0) < 0 := nI_pos (by omega)
  have h2 : nI (S 13 0) < 8 := nI_lt (b := 8) h8 (by decide)
  have hi : nI (S 13 0) + 1 = nI (S 13 0 + 1) := nI_add _ 1
  refine ⟨am_up (am_up G1 13 (S 13 0) (nI t)) 10 8 (nI (S 13 0 + 1)), fun i j a b c d => by rw [am_up_get, if_neg a, am_up_get, if_neg d, f1 i j b c], am_cp_ups (k := 0) (am_cp_up (f := 2) c1 (by decide) h8) (by decide), am_CD_of (M := am_N22) rfl rfl ?_⟩
  show am_Rn _ _ ((Option.some FieldType.int)) am_J22 0 [some (.ref 10), some (.int (nI km)), some (.int (nI t)), none] [] (am_L0 q, G) _
  simp only [am_s22_0, am_s22_1, am_s22_4, am_s22_5, am_s22_6, am_s22_9, am_s22_10, am_s22_12, am_s22_15, am_s22_16, am_s22_17, am_s22_18, am_s22_19, am_s22_20, am_s22_23, am_s22_24, am_s22_27, am_s22_28, am_s22_29, am_s22_30, am_s22_31, am_s22_31a, am_s22_32, am_s22_35, am_s22_36, am_s22_37, am_s22_40, am_s22_41, am_f10_8, am_f10_4, am_p10_8, e, e1, h1, h2, am_cal_ok am_cat_0 am_v10 (g1), am_t13, am_in_nI h8 (by decide), nI_clamp (show S 13 0 < 2 ^ 31 by omega), am_up_get, Nat.reduceEqDiff, hi, eq_self, am_os_some, Option.toList_some, Option.toList_none, List.cons_append, List.nil_append, if_true, if_false, true_and, am_nw1_i, am_nw1_r, am_nw1_n, cond_true]
/-- SHEETS -/
theorem am_rld_104 {G : am_G} {j : Nat} (hj : j < 4) : am_rld (am_L0 q, G) 104 (nI j) = some (106 + 2 * j) := by
  unfold am_rld
  rw [am_lc104]
  simp only [List.length_cons, List.length_nil]
  rw [am_in_nI hj (by decide), nI_clamp (by omega)]
  match j, hj with
  | 0, _ => rfl
  | 1, _ => rfl
  | 2, _ => rfl
  | 3, _ => rfl
theorem am_n_sh {G : am_G} {j : Nat} (hj : j < 4) : am_len X (am_L0 q, G) (107 + 2 * j) = some 40 := by
  match j, hj with
  | 0, _ => rfl
  | 1, _ => rfl
  | 2, _ => rfl
  | 3, _ => rfl
theorem am_p_sh1 {G : am_G} {j : Nat} (hj : j < 4) {x : Int32} : am_putM (am_L0 q, G) (106 + 2 * j) 6 1 (.int x) = some (am_L0 q, am_up G (106 + 2 * j) 1 x) := by
  match j, hj with
  | 0, _ => rfl
  | 1, _ => rfl
  | 2, _ => rfl
  | 3, _ => rfl
theorem am_p_sh2 {G : am_G} {j : Nat} (hj : j < 4) {x : Int32} : am_putM (am_L0 q, G) (106 + 2 * j) 6 2 (.int x) = some (am_L0 q, am_up G (106 + 2 * j) 2 x) := by
  match j, hj with
  | 0, _ => rfl
  | 1, _ => rfl
  | 2, _ => rfl
  | 3, _ => rfl
theorem am_m58 {G : am_G} {j : Nat} (hj : j < 4) : am_CD X (D + 1) 58 [.ref (106 + 2 * j)] (am_L0 q, G) = some (some (.int (am_bI (decide (G (106 + 2 * j) 1 = 0)))), (am_L0 q, G)) := by
  refine am_CD_of (M := am_N58) rfl rfl ?_
  show am_Rn _ _ ((Option.some FieldType.boolean)) am_J58 0 [some (.ref (106 + 2 * j))] [] (am_L0 q, G) _
  by_cases c : G (106 + 2 * j) 1 = 0
  · simp only [am_s58_0, am_s58_1, am_s58_4, am_s58_7, am_s58_8, am_s58_11, am_s58_12, am_sh_f1 hj, c, not_true_eq_false, eq_self, am_os_some, Option.toList_some, Option.toList_none, List.cons_append, List.nil_append, if_true, if_false, true_and, am_nw1_i, am_nw1_r, am_nw1_n, cond_true]; simp [am_bI]
  · simp only [am_s58_0, am_s58_1, am_s58_4, am_s58_7, am_s58_8, am_s58_11, am_s58_12, am_sh_f1 hj, c, not_false_eq_true, eq_self, am_os_some, Option.toList_some, Option.toList_none, List.cons_append, List.nil_append, if_true, if_false, true_and, am_nw1_i, am_nw1_r, am_nw1_n, cond_true]; simp [am_bI]
theorem am_l218 {j : Nat} (hj : j < 4) : ∀ (d k : Nat) (G : am_G), k + d = 40 → ∃ G' : am_G, (∀ i a, i ≠ 107 + 2 * j → G' i a = G i a) ∧ (∀ a, a < k → G' (107 + 2 * j) a = G (107 + 2 * j) a) ∧ (∀ a, k ≤ a → a < 40 → G' (107 + 2 * j) a = 0) ∧ am_Rn X D none am_J218 5 [some (.ref (107 + 2 * j)), some (.int 0), some (.int (nI k)), some (.int (Int32.ofNat 40))] [] (am_L0 q, G) (none, (am_L0 q, G')) := by
  intro d
  induction d with
  | zero =>
    intro k G hk
    obtain rfl : k = 40 := by omega
    refine ⟨G, fun _ _ _ => rfl, fun _ _ => rfl, fun _ _ _ => absurd ‹_› (by omega), ?_⟩
    have h : ¬ nI 40 < Int32.ofNat 40 := by decide +kernel
    simp only [am_s218_5, am_s218_6, am_s218_7, am_s218_20, h, eq_self, am_os_some, Option.toList_some, Option.toList_none, List.cons_append, List.nil_append, if_true, if_false, true_and, am_nw1_i, am_nw1_r, am_nw1_n, cond_true]
  | succ d ih =>
    intro k G hk
    have h : nI k < Int32.ofNat 40 := nI_lt (show k < 40 by omega) (by decide)
    have hi : nI k + 1 = nI (k + 1) := nI_add k 1
    obtain ⟨G', h1, h2, h3, hh⟩ := ih (k + 1) (am_up G (107 + 2 * j) k 0) (by omega)
    refine ⟨G', fun i a hx => by rw [h1 i a hx]; simp [am_up_get, hx], fun a ha => by rw [h2 a (by omega), am_up_get, if_pos rfl, if_neg (by omega)], fun a ha ha2 => ?_, ?_⟩
    · by_cases e : a = k
      · subst e
        rw [h2 a (by omega), am_up_get, if_pos rfl, if_pos rfl]
      · exact h3 a (by omega) ha2
    · simp only [am_s218_5, am_s218_6, am_s218_7, am_s218_10, am_s218_11, am_s218_12, am_s218_13, am_s218_14, h, am_sh_t hj (show k < 40 by omega), eq_self, am_os_some, Option.toList_some, Option.toList_none, List.cons_append, List.nil_append, if_true, if_false, true_and, am_nw1_i, am_nw1_r, am_nw1_n, cond_true]
      rw [am_s218_17, hi]
      exact hh
theorem am_m218 {G : am_G} {j : Nat} (hj : j < 4) : ∃ G' : am_G, (∀ i a, i ≠ 107 + 2 * j → G' i a = G i a) ∧ (∀ a, a < 40 → G' (107 + 2 * j) a = 0) ∧ am_CD X (D + 1) 218 [.ref (107 + 2 * j), .int 0] (am_L0 q, G) = some (none, (am_L0 q, G')) := by
  obtain ⟨G', h1, -, h3, hh⟩ := am_l218 (X := X) (D := D) (q := q) hj 40 0 G rfl
  refine ⟨G', h1, fun a ha => h3 a (Nat.zero_le _) ha, ?_⟩
  refine am_CD_of (M := am_N218) rfl rfl ?_
  show am_Rn _ _ none am_J218 0 [some (.ref (107 + 2 * j)), some (.int 0), none, none] [] (am_L0 q, G) _
  simp only [am_s218_0, am_s218_1, am_s218_2, am_s218_3, am_s218_4, am_n_sh hj, eq_self, am_os_some, Option.toList_some, Option.toList_none, List.cons_append, List.nil_append, if_true, if_false, true_and, am_nw1_i, am_nw1_r, am_nw1_n, cond_true]
  exact hh
theorem am_m59 {G : am_G} {j : Nat} (hj : j < 4) (b : Int32) {n : Nat} (hn : n ≤ 40) : ∃ G' : am_G, (∀ i a, i ≠ 106 + 2 * j → i ≠ 107 + 2 * j → G' i a = G i a) ∧ am_csh G' j b n (fun _ => 0) ∧ am_CD X (D + 2) 59 [.ref (106 + 2 * j), .int b, .int (nI n)] (am_L0 q, G) = some (none, (am_L0 q, G')) := by
  obtain ⟨G', h1, h2, hh⟩ := am_m218 (X := X) (D := D) (q := q) (G := am_up (am_up G (106 + 2 * j) 1 b) (106 + 2 * j) 2 (nI n)) hj
  refine ⟨G', fun i a hi hi2 => ?_, ⟨?_, ?_, hn, h2⟩, ?_⟩
  · rw [h1 i a hi2, am_up_get, if_neg hi, am_up_get, if_neg hi]
  · rw [h1 _ _ (by omega), am_up_get, if_pos rfl, if_neg (by decide), am_up_get, if_pos rfl, if_pos rfl]
  · rw [h1 _ _ (by omega), am_up_get, if_pos rfl, if_pos rfl]
  refine am_CD_of (M := am_N59) rfl rfl ?_
  show am_Rn _ _ none am_J59 0 [some (.ref (106 + 2 * j)), some (.int b), some (.int (nI n))] [] (am_L0 q, G) _
  simp only [am_s59_0, am_s59_1, am_s59_2, am_s59_5, am_s59_6, am_s59_7, am_s59_10, am_s59_11, am_s59_14, am_s59_15, am_s59_18, am_p_sh1 hj, am_p_sh2 hj, am_sh_f0 hj, am_cal_ok am_cat_0 am_rcv_f (hh), eq_self, am_os_some, Option.toList_some, Option.toList_none, List.cons_append, List.nil_append, if_true, if_false, true_and, am_nw1_i, am_nw1_r, am_nw1_n, cond_true]
theorem am_m60 {G : am_G} {j i : Nat} (hj : j < 4) (hi : i < 40) (v : Int32) : am_CD X (D + 1) 60 [.ref (106 + 2 * j), .int (nI i), .int v] (am_L0 q, G) = some (none, (am_L0 q, am_up G (107 + 2 * j) i (am_nrw (G (106 + 2 * j) 1) v))) := by
  refine am_CD_of (M := am_N60) rfl rfl ?_
  show am_Rn _ _ none am_J60 0 [some (.ref (106 + 2 * j)), some (.int (nI i)), some (.int v)] [] (am_L0 q, G) _
  unfold am_nrw
  by_cases c : G (106 + 2 * j) 1 = 8
  · simp only [am_s60_0, am_s60_1, am_s60_4, am_s60_5, am_s60_6, am_s60_9, am_s60_11, am_s60_14, am_s60_15, am_s60_18, am_s60_19, am_s60_22, am_s60_23, am_s60_26, am_s60_28, am_s60_31, am_s60_32, am_s60_34, am_s60_35, am_s60_38, am_s60_39, am_s60_40, am_sh_f0 hj, am_sh_f1 hj, am_sh_t hj hi, c, not_true_eq_false, eq_self, am_os_some, Option.toList_some, Option.toList_none, List.cons_append, List.nil_append, if_true, if_false, true_and, am_nw1_i, am_nw1_r, am_nw1_n, cond_true]
  · by_cases c2 : G (106 + 2 * j) 1 = 16
    · have e : ((16 : Int32) = 8) = False := by decide
      simp only [am_s60_0, am_s60_1, am_s60_4, am_s60_5, am_s60_6, am_s60_9, am_s60_11, am_s60_14, am_s60_15, am_s60_18, am_s60_19, am_s60_22, am_s60_23, am_s60_26, am_s60_28, am_s60_31, am_s60_32, am_s60_34, am_s60_35, am_s60_38, am_s60_39, am_s60_40, am_sh_f0 hj, am_sh_f1 hj, am_sh_t hj hi, c2, e, not_true_eq_false, not_false_eq_true, eq_self, am_os_some, Option.toList_some, Option.toList_none, List.cons_append, List.nil_append, if_true, if_false, true_and, am_nw1_i, am_nw1_r, am_nw1_n, cond_true]
    · simp only [am_s60_0, am_s60_1, am_s60_4, am_s60_5, am_s60_6, am_s60_9, am_s60_11, am_s60_14, am_s60_15, am_s60_18, am_s60_19, am_s60_22, am_s60_23, am_s60_26, am_s60_28, am_s60_31, am_s60_32, am_s60_34, am_s60_35, am_s60_38, am_s60_39, am_s60_40, am_sh_f0 hj, am_sh_f1 hj, am_sh_t hj hi, c, c2, not_true_eq_false, not_false_eq_true, eq_self, am_os_some, Option.toList_some, Option.toList_none, List.cons_append, List.nil_append, if_true, if_false, true_and, am_nw1_i, am_nw1_r, am_nw1_n, cond_true]
theorem am_m61 {G : am_G} {j z : Nat} (hj : j < 4) (hz : G (106 + 2 * j) 2 = nI z) (i n : Int32) : am_CD X (D + 1) 61 [.ref (106 + 2 * j), .int i, .int n] (am_L0 q, G) = some (some (.int (am_bI (am_hol z i n))), (am_L0 q, G)) := by
  refine am_CD_of (M := am_N61) rfl rfl ?_
  show am_Rn _ _ ((Option.some FieldType.boolean)) am_J61 0 [some (.ref (106 + 2 * j)), some (.int i), some (.int n)] [] (am_L0 q, G) _
  simp only [am_s61_0, am_s61_1, am_s61_4, am_s61_5, am_s61_8, am_s61_9, am_s61_10, am_s61_13, am_s61_16, am_s61_17, am_s61_18, am_s61_21, am_s61_22, am_s61_23, am_s61_26, am_s61_27, am_s61_30, am_s61_31, am_sh_f2 hj, hz, eq_self, am_os_some, Option.toList_some, Option.toList_none, List.cons_append, List.nil_append, if_true, if_false, true_and, am_nw1_i, am_nw1_r, am_nw1_n, cond_true]
  unfold am_hol am_bI
  by_cases c1 : i < 0 <;> by_cases c2 : n < 0 <;> by_cases c3 : i ≤ nI z <;> by_cases c4 : n ≤ nI z - i <;> simp [c1, c2, c3, c4]
theorem am_m120 {G : am_G} (a b : Int32) : am_CD X (D + 2) 120 [.ref 0, .int a, .int b] (am_L0 q, G) = some (some (.int (am_bI ((decide (¬ a < 0) && decide (a < G 10 8)) && ((decide (¬ b < 0) && decide (b < G 10 8)) && decide (¬ a = b))))), (am_L0 q, G)) := by
  refine am_CD_of (M := am_N120) rfl rfl ?_
  show am_Rn _ _ ((Option.some FieldType.boolean)) am_J120 0 [some (.ref 0), some (.int a), some (.int b)] [] (am_L0 q, G) _
  simp only [am_s120_0, am_s120_1, am_s120_2, am_s120_5, am_s120_8, am_s120_9, am_s120_10, am_s120_13, am_s120_16, am_s120_17, am_s120_18, am_s120_21, am_s120_22, am_s120_25, am_s120_26, am_cal_ok am_cat_0 am_v0 (am_m119 _), am_bI0, eq_self, am_os_some, Option.toList_some, Option.toList_none, List.cons_append, List.nil_append, if_true, if_false, true_and, am_nw1_i, am_nw1_r, am_nw1_n, cond_true]
  unfold am_bI
  by_cases c1 : a < 0 <;> by_cases c2 : a < G 10 8 <;> by_cases c3 : b < 0 <;> by_cases c4 : b < G 10 8 <;> by_cases c5 : a = b <;> simp [c1, c2, c3, c4, c5]
/-- what a VOICE says -/
theorem am_m69 {G : am_G} {S : am_S} (hS : am_cp 10 G S) (hw : am_wf S) {p c : Nat} (hp : p < 8) (hc : c < 4) (x : Int32) : ∃ G' : am_G, (∀ i j, ¬ (101 ≤ i ∧ i < 104) → G' i j = G i j) ∧ am_crw G' 102 (am_vac (S 0 p) c x (nI p) (nI (S 1 p))).2 ∧ am_CD X (D + 9) 69 [.ref 101, .ref 10, .int (nI p), .int (nI c), .int x] (am_L0 q, G) = some (some (.int (am_vac (S 0 p) c x (nI p) (nI (S 1 p))).1), (am_L0 q, G')) := by
  obtain ⟨k0, k1, -⟩ := hS.1 p hp
  obtain ⟨w0, -⟩ := hw.2.1 p hp
  have k0' : G 11 p = nI (S 0 p) := k0
  have k1' : G 12 p = nI (S 1 p) := k1
  generalize hG1 : am_up (am_up (am_up (am_up G 102 1 0) 101 1 (nI (S 0 p))) 101 2 (nI (S 1 p))) 101 3 (nI p) = G1
  have hk : am_vk G1 (S 0 p) (nI p) (nI (S 1 p)) := by
    rw [← hG1]
    refine ⟨?_, ?_, ?_⟩ <;> simp [am_up_get]
  have hL : am_crw G1 102 [] := by
    rw [← hG1]
    exact ⟨by simp [am_up_get]; rfl, fun i hi => absurd hi (Nat.not_lt_zero _)⟩
  have f1 : ∀ i j, ¬ (101 ≤ i ∧ i < 104) → G1 i j = G i j := fun i j h => by
    rw [← hG1, am_up_get, if_neg (by omega), am_up_get, if_neg (by omega), am_up_get, if_neg (by omega), am_up_get, if_neg (by omega)]
  have e1 : G1 101 1 = nI (S 0 p) := hk.1
  have hsw : am_tsw 34 59 0 2 #[26, 37, 48] (nI c) = some (if c = 0 then 60 else if c = 1 then 71 else if c = 2 then 82 else 93) := by
    match c, hc with
    | 0, _ => decide +kernel
    | 1, _ => decide +kernel
    | 2, _ => decide +kernel
    | 3, _ => decide +kernel
  have st : ∀ (y : Int32) (w : am_M), am_Rn X (D + 8) (some .int) am_J69 (if c = 0 then 60 else if c = 1 then 71 else if c = 2 then 82 else 93) [some (.ref 101), some (.ref 10), some (.int (nI p)), some (.int (nI c)), some (.int x)] [] (am_L0 q, G1) (some (.int y), w) → am_CD X (D + 9) 69 [.ref 101, .ref 10, .int (nI p), .int (nI c), .int x] (am_L0 q, G) = some (some (.int y), w) := fun y w h => by
    refine am_CD_of (M := am_N69) rfl rfl ?_
    show am_Rn _ _ ((Option.some FieldType.int)) am_J69 0 [some (.ref 101), some (.ref 10), some (.int (nI p)), some (.int (nI c)), some (.int x)] [] (am_L0 q, G) _
    simp only [am_s69_0, am_s69_1, am_s69_4, am_s69_5, am_s69_8, am_s69_9, am_s69_10, am_s69_13, am_s69_14, am_s69_15, am_s69_18, am_s69_19, am_s69_20, am_s69_23, am_s69_24, am_s69_25, am_s69_28, am_s69_29, am_s69_30, am_s69_33, am_s69_34, am_f101_0, am_f10_2, am_f10_3, am_p102_1, am_p101_1, am_p101_2, am_p101_3, am_a11, am_a12, am_in_nI hp (by decide), nI_clamp (show p < 2 ^ 31 by omega), am_up_get, Nat.reduceEqDiff, k0', k1', hG1, hsw, eq_self, am_os_some, Option.toList_some, Option.toList_none, List.cons_append, List.nil_append, if_true, if_false, true_and, am_nw1_i, am_nw1_r, am_nw1_n, cond_true]
    exact h
  match c, hc with
  | 0, _ =>
    obtain ⟨G2, f2, c2, g2⟩ := am_m70 (X := X) (D := D + 5) (q := q) w0 hk hL (by decide) x
    refine ⟨G2, fun i j h => by rw [f2 i j (by omega) (by omega), f1 i j h], c2, st _ _ ?_⟩
    have e : (am_vac (S 0 p) 0 x (nI p) (nI (S 1 p))) = am_vl (S 0 p) x (nI p) := rfl
    simp only [am_s69_60, am_s69_61, am_s69_62, am_s69_65, am_s69_67, am_s69_70, am_f101_1, e1, am_cal_ok am_cat_0 am_v101 (g2), e, eq_self, am_os_some, Option.toList_some, Option.toList_none, List.cons_append, List.nil_append, if_true, if_false, true_and, am_nw1_i, am_nw1_r, am_nw1_n, cond_true]
  | 1, _ =>
    obtain ⟨G2, f2, c2, g2⟩ := am_m71 (X := X) (D := D + 2) (q := q) w0 w0 hk hL (by decide) x
    refine ⟨G2, fun i j h => by rw [f2 i j (by omega) (by omega), f1 i j h], c2, st _ _ ?_⟩
    have e : (am_vac (S 0 p) 1 x (nI p) (nI (S 1 p))) = am_vf (S 0 p) (S 0 p) x (nI p) (nI (S 1 p)) := rfl
    simp only [Nat.reduceEqDiff, am_s69_71, am_s69_72, am_s69_73, am_s69_76, am_s69_78, am_s69_81, am_f101_1, e1, am_cal_ok am_cat_0 am_v101 (g2), e, eq_self, am_os_some, Option.toList_some, Option.toList_none, List.cons_append, List.nil_append, if_true, if_false, true_and, am_nw1_i, am_nw1_r, am_nw1_n, cond_true]
  | 2, _ =>
    obtain ⟨G2, f2, c2, g2⟩ := am_m72 (X := X) (D := D + 4) (q := q) w0 hk hL (by decide) x
    refine ⟨G2, fun i j h => by rw [f2 i j (by omega) (by omega), f1 i j h], c2, st _ _ ?_⟩
    have e : (am_vac (S 0 p) 2 x (nI p) (nI (S 1 p))) = am_vdn (S 0 p) x (nI p) (nI (S 1 p)) := rfl
    simp only [Nat.reduceEqDiff, am_s69_82, am_s69_83, am_s69_84, am_s69_87, am_s69_89, am_s69_92, am_f101_1, e1, am_cal_ok am_cat_0 am_v101 (g2), e, eq_self, am_os_some, Option.toList_some, Option.toList_none, List.cons_append, List.nil_append, if_true, if_false, true_and, am_nw1_i, am_nw1_r, am_nw1_n, cond_true]
  | 3, _ =>
    obtain ⟨G2, f2, c2, g2⟩ := am_m73 (X := X) (D := D) (q := q) w0 w0 hk hL (by decide) x
    refine ⟨G2, fun i j h => by rw [f2 i j (by omega) (by omega), f1 i j h], c2, st _ _ ?_⟩
    have e : (am_vac (S 0 p) 3 x (nI p) (nI (S 1 p))) = am_vt (S 0 p) (S 0 p) x (nI p) (nI (S 1 p)) := rfl
    simp only [Nat.reduceEqDiff, am_s69_93, am_s69_94, am_s69_95, am_s69_98, am_s69_100, am_s69_103, am_f101_1, e1, am_cal_ok am_cat_0 am_v101 (g2), e, eq_self, am_os_some, Option.toList_some, Option.toList_none, List.cons_append, List.nil_append, if_true, if_false, true_and, am_nw1_i, am_nw1_r, am_nw1_n, cond_true]
end AMS3
