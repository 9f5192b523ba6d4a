/-! what would be: the class -/
/-- the class as it is: PEOPLE S, laws T (GIVES), U (LENDS) -/
def am_cn (G : am_G) (S : am_S) (T U : am_T) : Prop := am_cp 10 G S ∧ am_wf S ∧ am_cw 2 0 G T ∧ am_wt T ∧ am_cw 6 1 G U ∧ am_wt U ∧ S 13 1 ≤ 9999
def am_frt (G G' : am_G) : Prop := ∀ i j, (i < 60 ∨ 92 ≤ i) → i ≠ 5 → i ≠ 9 → G' i j = G i j
theorem am_frt.tr {G G1 G2 : am_G} (h1 : am_frt G G1) (h2 : am_frt G1 G2) : am_frt G G2 := fun i j a b c => by rw [h2 i j a b c, h1 i j a b c]
theorem am_frt.rf (G : am_G) : am_frt G G := fun _ _ _ _ _ => rfl
theorem am_cn.fr {G G' : am_G} {S : am_S} {T U : am_T} (h : am_cn G S T U) (hf : am_frt G G') : am_cn G' S T U := by
  obtain ⟨h1, h2, h3, h4, h5, h6, h7⟩ := h
  exact ⟨am_cp_fr h1 fun i j a b => hf i j (by omega) (by omega) (by omega), h2, am_cw_fr h3 fun i j a b => hf i j (by omega) (by omega) (by omega), h4, am_cw_fr h5 fun i j a b => hf i j (by omega) (by omega) (by omega), h6, h7⟩
theorem am_hm1 : ∀ k, k < 8 → (nI k = -1 ↔ k = 8) := by decide +kernel
theorem am_hmp {p : Nat} (hp : p < 8) : ∀ k, k < 8 → (nI k = nI p ↔ k = p) := fun k hk => nI_eq (by omega) (by omega)
def am_dth (T U : am_T) (S : am_S) (x : Nat) : Nat → Nat → Option Nat
  | 0, _ => none
  | d + 1, n => if am_ft (am_days T U 8 S n) x (S 13 0) 0 < S 13 0 then some n else am_dth T U S x d (n + 1)
def am_dd (T U : am_T) (S : am_S) : Nat → Nat → Option Nat
  | 0, _ => none
  | d + 1, n => if am_gs T (am_days T U 8 S n) (S 13 0) = 0 then some n else am_dd T U S d (n + 1)
def am_kp (S1 S2 : am_S) (p : Nat) : Nat → Int32
  | 0 => 0
  | k + 1 => if k ≠ p ∧ S1 4 k < S2 4 k then am_kp S1 S2 p k ||| (1 <<< (nI k &&& 31)) else am_kp S1 S2 p k
def am_fu (T U : am_T) (S : am_S) (V : Nat → Int32) : Nat → Nat → Option Nat
  | 0, _ => none
  | d + 1, i => if nI (am_sum (am_days T U 8 S (i + 1)) 3 (S 13 0)) = V i then am_fu T U S V d (i + 1) else some i
section AMTH
variable {X : am_X} {D q : Nat} {S : am_S} {T U : am_T} {G : am_G}
theorem am_60 : am_ist 60 := Or.inr (Or.inl rfl)
theorem am_76 : am_ist 76 := Or.inr (Or.inr rfl)
theorem am_10 : am_ist 10 := Or.inl rfl
/-- a copy, ahead or without, from the present one -/
theorem am_cpn (h : am_cn G S T U) {b : Nat} (hb : b = 60 ∨ b = 76) : ∃ G' : am_G, am_frt G G' ∧ am_cp b G' S ∧ (∀ i j, am_out b i → G' i j = G i j) ∧ am_CD X (D + 2) 21 [.ref b, .ref 10] (am_L0 q, G) = some (none, (am_L0 q, G')) := by
  obtain ⟨G', f, c, g⟩ := am_m21 (X := X) (D := D) (q := q) (a := 10) (b := b) (G := G) (am_ist_p am_10) (am_ist_p (by rcases hb with rfl | rfl; exact am_60; exact am_76)) (by omega) h.1
  exact ⟨G', fun i j a _ _ => f i j (by unfold am_out; omega), c, f, g⟩
/-- DAYS of a copy -/
theorem am_dyn (h : am_cn G S T U) {b : Nat} (hb : b = 60 ∨ b = 76) {S1 : am_S} (hS1 : am_cp b G S1) (hw : am_wf S1) {hd n : Nat} {wh : Int32} (hdy : S1 13 1 + n < 2 ^ 30) (hh : ∀ k, k < 8 → (nI k = wh ↔ k = hd)) : ∃ G' : am_G, am_frt G G' ∧ am_cp b G' (am_days T U hd S1 n) ∧ (∀ i j, am_out b i → i ≠ 5 → i ≠ 9 → G' i j = G i j) ∧ am_CD X (D + 6) 30 [.ref b, .int (nI n), .int wh] (am_L0 q, G) = some (none, (am_L0 q, G')) := by
  obtain ⟨h1, h2, h3, h4, h5, h6, h7⟩ := h
  obtain ⟨G', f, c, g⟩ := am_m30 (X := X) (D := D) (q := q) (n := n) (by rcases hb with rfl | rfl; exact am_60; exact am_76) hS1 hw h3 h4 h5 h6 hdy hh
  exact ⟨G', fun i j a b c => f i j (by unfold am_out; omega) b c, c, f, g⟩
theorem am_m63 (h : am_cn G S T U) {n : Nat} (hn : n ≤ 60) : ∃ G' : am_G, am_frt G G' ∧ am_cp 60 G' (am_days T U 8 S n) ∧ am_CD X (D + 7) 63 [.ref 59, .int (nI n)] (am_L0 q, G) = some (some (.ref 60), (am_L0 q, G')) := by
  obtain ⟨G1, f1, c1, -, g1⟩ := am_cpn (X := X) (D := D + 4) (q := q) h (Or.inl rfl)
  obtain ⟨G2, f2, c2, -, g2⟩ := am_dyn (X := X) (D := D) (q := q) (n := n) (h.fr f1) (Or.inl rfl) c1 h.2.1 (by have := h.2.2.2.2.2.2; omega) am_hm1
  refine ⟨G2, f1.tr f2, c2, ?_⟩
  refine am_CD_of (M := am_N63) rfl rfl ?_
  show am_Rn _ _ ((Option.some (FieldType.object "WellRefuses$People"))) am_J63 0 [some (.ref 59), some (.int (nI n))] [] (am_L0 q, G) _
  simp only [am_s63_0, am_s63_1, am_s63_4, am_s63_5, am_s63_8, am_s63_11, am_s63_12, am_s63_15, am_s63_16, am_s63_17, am_s63_20, am_s63_21, am_s63_24, am_f59_0, am_f59_1, am_cal_ok am_cat_0 am_v60 (g1), am_cal_ok am_cat_0 am_v60 (g2), eq_self, am_os_some, Option.toList_some, Option.toList_none, List.cons_append, List.nil_append, if_true, if_false, true_and, am_nw1_i, am_nw1_r, am_nw1_n, cond_true]
theorem am_m64 (h : am_cn G S T U) {x : Nat} (hx : x < 1000) : ∃ G' : am_G, am_frt G G' ∧ am_CD X (D + 7) 64 [.ref 59, .int (nI x)] (am_L0 q, G) = some (some (.int (am_oi (am_dth T U S x 61 0))), (am_L0 q, G')) := by
  have hdd := h.2.2.2.2.2.2
  have hl : ∀ (d n : Nat) (G : am_G), n + d = 61 → am_cn G S T U → am_cp 60 G (am_days T U 8 S n) → ∃ G' : am_G, am_frt G G' ∧ am_Rn X (D + 6) (some .int) am_J64 13 [some (.ref 59), some (.int (nI x)), some (.int (nI n))] [] (am_L0 q, G) (some (.int (am_oi (am_dth T U S x d n))), (am_L0 q, G')) := by
    intro d
    induction d with
    | zero =>
      intro n G hn _ _
      obtain rfl : n = 61 := by omega
      have h1 : ¬ nI 61 ≤ 60 := by decide +kernel
      refine ⟨G, am_frt.rf G, ?_⟩
      simp only [am_s64_13, am_s64_14, am_s64_16, am_s64_47, am_s64_48, h1, eq_self, am_os_some, Option.toList_some, Option.toList_none, List.cons_append, List.nil_append, if_true, if_false, true_and, am_nw1_i, am_nw1_r, am_nw1_n, cond_true]
      rfl
    | succ d ih =>
      intro n G hn hc hS
      have h1 : nI n ≤ 60 := nI_le (show n ≤ 60 by omega) (by decide)
      have hi : nI n + 1 = nI (n + 1) := nI_add n 1
      have hwn := am_wf_days (T := T) (U := U) (h := 8) hc.2.1 n
      have g0 := am_m34 (X := X) (D := D + 5) (q := q) (am_ist_p am_60) hS hwn.1 hx
      rw [hwn.2.1] at g0
      unfold am_dth
      by_cases c : am_ft (am_days T U 8 S n) x (S 13 0) 0 < S 13 0
      · rw [if_pos c] at g0
        have h2 : ¬ nI (am_ft (am_days T U 8 S n) x (S 13 0) 0) < 0 := nI_pos (by have := hc.2.1.1; omega)
        refine ⟨G, am_frt.rf G, ?_⟩
        simp only [am_s64_13, am_s64_14, am_s64_16, am_s64_19, am_s64_20, am_s64_23, am_s64_24, am_s64_27, am_s64_30, am_s64_31, h1, am_f59_1, am_cal_ok am_cat_0 am_v60 (g0), h2, c, eq_self, am_os_some, Option.toList_some, Option.toList_none, List.cons_append, List.nil_append, if_true, if_false, true_and, am_nw1_i, am_nw1_r, am_nw1_n, cond_true]
        rfl
      · rw [if_neg c] at g0
        have em : ((-1 : Int32) < 0) = True := by decide
        obtain ⟨G1, f1, c1, -, g1⟩ := am_dyn (X := X) (D := D) (q := q) (n := 1) hc (Or.inl rfl) hS hwn.1 (by rw [hwn.2.2]; omega) am_hm1
        have g1' : am_CD X (D + 6) 30 [.ref 60, .int 1, .int (-1)] (am_L0 q, G) = some (none, (am_L0 q, G1)) := g1
        obtain ⟨G', f2, g2⟩ := ih (n + 1) G1 (by omega) (hc.fr f1) c1
        refine ⟨G', f1.tr f2, ?_⟩
        simp only [am_s64_13, am_s64_14, am_s64_16, am_s64_19, am_s64_20, am_s64_23, am_s64_24, am_s64_27, am_s64_32, am_s64_33, am_s64_36, am_s64_37, am_s64_38, am_s64_41, h1, am_f59_1, am_cal_ok am_cat_0 am_v60 (g0), em, c, am_cal_ok am_cat_0 am_v60 (g1'), eq_self, am_os_some, Option.toList_some, Option.toList_none, List.cons_append, List.nil_append, if_true, if_false, true_and, am_nw1_i, am_nw1_r, am_nw1_n, cond_true]
        rw [am_s64_44, hi]
        exact g2
  obtain ⟨G1, f1, c1, -, g1⟩ := am_cpn (X := X) (D := D + 4) (q := q) h (Or.inl rfl)
  obtain ⟨G2, f2, g2⟩ := hl 61 0 G1 rfl (h.fr f1) c1
  refine ⟨G2, f1.tr f2, ?_⟩
  refine am_CD_of (M := am_N64) rfl rfl ?_
  show am_Rn _ _ ((Option.some FieldType.int)) am_J64 0 [some (.ref 59), some (.int (nI x)), none] [] (am_L0 q, G) _
  simp only [am_s64_0, am_s64_1, am_s64_4, am_s64_5, am_s64_8, am_s64_11, am_s64_12, am_f59_0, am_f59_1, am_cal_ok am_cat_0 am_v60 (g1), eq_self, am_os_some, Option.toList_some, Option.toList_none, List.cons_append, List.nil_append, if_true, if_false, true_and, am_nw1_i, am_nw1_r, am_nw1_n, cond_true]
  exact g2
theorem am_m65 (h : am_cn G S T U) : ∃ G' : am_G, am_frt G G' ∧ am_CD X (D + 7) 65 [.ref 59] (am_L0 q, G) = some (some (.int (am_oi (am_dd T U S 61 0))), (am_L0 q, G')) := by
  have hdd := h.2.2.2.2.2.2
  have hl : ∀ (d n : Nat) (G : am_G), n + d = 61 → am_cn G S T U → am_cp 60 G (am_days T U 8 S n) → ∃ G' : am_G, am_frt G G' ∧ am_Rn X (D + 6) (some .int) am_J65 13 [some (.ref 59), some (.int (nI n))] [] (am_L0 q, G) (some (.int (am_oi (am_dd T U S d n))), (am_L0 q, G')) := by
    intro d
    induction d with
    | zero =>
      intro n G hn _ _
      obtain rfl : n = 61 := by omega
      have h1 : ¬ nI 61 ≤ 60 := by decide +kernel
      refine ⟨G, am_frt.rf G, ?_⟩
      simp only [am_s65_13, am_s65_14, am_s65_16, am_s65_46, am_s65_47, h1, eq_self, am_os_some, Option.toList_some, Option.toList_none, List.cons_append, List.nil_append, if_true, if_false, true_and, am_nw1_i, am_nw1_r, am_nw1_n, cond_true]
      rfl
    | succ d ih =>
      intro n G hn hc hS
      have h1 : nI n ≤ 60 := nI_le (show n ≤ 60 by omega) (by decide)
      have hi : nI n + 1 = nI (n + 1) := nI_add n 1
      have hwn := am_wf_days (T := T) (U := U) (h := 8) hc.2.1 n
      obtain ⟨G0, f0, g0⟩ := am_m27 (X := X) (D := D + 1) (q := q) am_60 hS hwn.1 hc.2.2.1 hc.2.2.2.1 (by rw [hwn.2.2]; omega)
      have f0' : am_frt G G0 := fun i j _ a _ => f0 i j a
      have hS0 : am_cp 60 G0 (am_days T U 8 S n) := am_cp_fr hS fun i j a b => f0 i j (by omega)
      rw [hwn.2.1] at g0
      unfold am_dd
      by_cases c : am_gs T (am_days T U 8 S n) (S 13 0) = 0
      · refine ⟨G0, f0', ?_⟩
        simp only [am_s65_13, am_s65_14, am_s65_16, am_s65_19, am_s65_20, am_s65_23, am_s65_26, am_s65_29, am_s65_30, h1, am_f59_1, am_cal_ok am_cat_0 am_v60 (g0), c, eq_self, am_os_some, Option.toList_some, Option.toList_none, List.cons_append, List.nil_append, if_true, if_false, true_and, am_nw1_i, am_nw1_r, am_nw1_n, cond_true]
        rfl
      · obtain ⟨G1, f1, c1, -, g1⟩ := am_dyn (X := X) (D := D) (q := q) (n := 1) (hc.fr f0') (Or.inl rfl) hS0 hwn.1 (by rw [hwn.2.2]; omega) am_hm1
        have g1' : am_CD X (D + 6) 30 [.ref 60, .int 1, .int (-1)] (am_L0 q, G0) = some (none, (am_L0 q, G1)) := g1
        obtain ⟨G', f2, g2⟩ := ih (n + 1) G1 (by omega) ((hc.fr f0').fr f1) c1
        refine ⟨G', (f0'.tr f1).tr f2, ?_⟩
        simp only [am_s65_13, am_s65_14, am_s65_16, am_s65_19, am_s65_20, am_s65_23, am_s65_26, am_s65_31, am_s65_32, am_s65_35, am_s65_36, am_s65_37, am_s65_40, h1, am_f59_1, am_cal_ok am_cat_0 am_v60 (g0), c, am_cal_ok am_cat_0 am_v60 (g1'), eq_self, am_os_some, Option.toList_some, Option.toList_none, List.cons_append, List.nil_append, if_true, if_false, true_and, am_nw1_i, am_nw1_r, am_nw1_n, cond_true]
        rw [am_s65_43, hi]
        exact g2
  obtain ⟨G1, f1, c1, -, g1⟩ := am_cpn (X := X) (D := D + 4) (q := q) h (Or.inl rfl)
  obtain ⟨G2, f2, g2⟩ := hl 61 0 G1 rfl (h.fr f1) c1
  refine ⟨G2, f1.tr f2, ?_⟩
  refine am_CD_of (M := am_N65) rfl rfl ?_
  show am_Rn _ _ ((Option.some FieldType.int)) am_J65 0 [some (.ref 59), none] [] (am_L0 q, G) _
  simp only [am_s65_0, am_s65_1, am_s65_4, am_s65_5, am_s65_8, am_s65_11, am_s65_12, am_f59_0, am_f59_1, am_cal_ok am_cat_0 am_v60 (g1), eq_self, am_os_some, Option.toList_some, Option.toList_none, List.cons_append, List.nil_append, if_true, if_false, true_and, am_nw1_i, am_nw1_r, am_nw1_n, cond_true]
  exact g2
theorem am_m66 (h : am_cn G S T U) {p n : Nat} (hn : n ≤ 60) (hp : p < S 13 0) : ∃ G' : am_G, am_frt G G' ∧ am_CD X (D + 7) 66 [.ref 59, .int (nI p), .int (nI n)] (am_L0 q, G) = some (some (.int (am_kp (am_days T U 8 S n) (am_days T U p S n) p (S 13 0))), (am_L0 q, G')) := by
  have hdd := h.2.2.2.2.2.2
  have h8 := h.2.1.1
  have hp8 : p < 8 := by omega
  obtain ⟨G1, f1, c1, -, g1⟩ := am_cpn (X := X) (D := D + 4) (q := q) h (Or.inl rfl)
  obtain ⟨G2, f2, c2, -, g2⟩ := am_dyn (X := X) (D := D) (q := q) (n := n) (h.fr f1) (Or.inl rfl) c1 h.2.1 (by omega) am_hm1
  obtain ⟨G3, f3, c3, o3, g3⟩ := am_cpn (X := X) (D := D + 4) (q := q) ((h.fr f1).fr f2) (Or.inr rfl)
  obtain ⟨G4, f4, c4, o4, g4⟩ := am_dyn (X := X) (D := D) (q := q) (n := n) (((h.fr f1).fr f2).fr f3) (Or.inr rfl) c3 h.2.1 (by omega) (am_hmp hp8)
  have hc4 := (((h.fr f1).fr f2).fr f3).fr f4
  have c2' : am_cp 60 G4 (am_days T U 8 S n) := am_cp_fr (am_cp_fr c2 fun i j a b => o3 i j (by unfold am_out; omega)) fun i j a b => o4 i j (by unfold am_out; omega) (by omega) (by omega)
  have hw1 := am_wf_days (T := T) (U := U) (h := 8) h.2.1 n
  have hw2 := am_wf_days (T := T) (U := U) (h := p) h.2.1 n
  generalize hS1 : am_days T U 8 S n = S1 at *
  generalize hS2 : am_days T U p S n = S2 at *
  refine ⟨G4, ((f1.tr f2).tr f3).tr f4, ?_⟩
  have hl : ∀ (a b : Nat), a = 60 → b = 76 → ∀ (d k : Nat), k + d = S 13 0 → ∀ o, am_Rn X (D + 6) (some .int) am_J66 45 [some (.ref 59), some (.int (nI p)), some (.int (nI n)), some (.int (am_kp S1 S2 p k)), some (.int (nI k))] [] (am_L0 q, G4) o = am_Rn X (D + 6) (some .int) am_J66 99 [some (.ref 59), some (.int (nI p)), some (.int (nI n)), some (.int (am_kp S1 S2 p (S 13 0))), some (.int (nI (S 13 0)))] [] (am_L0 q, G4) o := by
    intro a b ha hb
    have e1 : ∀ G : am_G, am_fld (am_L0 q, G) 59 7 1 = some (.ref a) := fun G => by subst ha; rfl
    have e2 : ∀ G : am_G, am_fld (am_L0 q, G) 59 7 2 = some (.ref b) := fun G => by subst hb; rfl
    have a1 : am_ispe a := by subst ha; exact am_ist_p am_60
    have b1 : am_ispe b := by subst hb; exact am_ist_p am_76
    have ca : am_cp a G4 S1 := by subst ha; exact c2'
    have cb : am_cp b G4 S2 := by subst hb; exact c4
    have hsz : G4 10 8 = nI (S 13 0) := hc4.1.2.2.1
    intro d
    induction d with
    | zero =>
      intro k hk o
      obtain rfl : k = S 13 0 := by omega
      have h1 : ¬ nI (S 13 0) < nI (S 13 0) := Int32.lt_irrefl
      simp only [am_s66_45, am_s66_47, am_s66_48, am_s66_51, am_s66_54, am_f59_0, am_f10_8, hsz, h1, eq_self, am_os_some, Option.toList_some, Option.toList_none, List.cons_append, List.nil_append, if_true, if_false, true_and, am_nw1_i, am_nw1_r, am_nw1_n, cond_true]
    | succ d ih =>
      intro k hk o
      have hk8 : k < 8 := by omega
      have h1 : nI k < nI (S 13 0) := nI_lt (by omega) (by omega)
      have hi : nI k + 1 = nI (k + 1) := nI_add k 1
      have ih1 := ih (k + 1) (by omega) o
      by_cases c1 : k = p
      · subst c1
        rw [am_kp, if_neg (fun hc => hc.1 rfl)] at ih1
        simp only [am_s66_45, am_s66_47, am_s66_48, am_s66_51, am_s66_54, am_s66_57, am_s66_59, am_s66_60, am_s66_93, am_f59_0, am_f10_8, hsz, h1, eq_self, am_os_some, Option.toList_some, Option.toList_none, List.cons_append, List.nil_append, if_true, if_false, true_and, am_nw1_i, am_nw1_r, am_nw1_n, cond_true]
        rw [am_s66_96, hi]
        exact ih1
      · have h2 : ¬ nI k = nI p := by rw [nI_eq (by omega) (by omega)]; exact c1
        obtain ⟨-, -, -, -, ka⟩ := ca.1 k hk8
        obtain ⟨-, -, -, -, kb⟩ := cb.1 k hk8
        have ba := (hw1.1.2.1 k hk8).2.2.2.2
        have bb := (hw2.1.2.1 k hk8).2.2.2.2
        by_cases c2 : S1 4 k < S2 4 k
        · rw [am_kp, if_pos ⟨c1, c2⟩] at ih1
          have h3 : ¬ nI (S2 4 k) ≤ nI (S1 4 k) := nI_ge c2 (by omega)
          simp only [am_s66_45, am_s66_47, am_s66_48, am_s66_51, am_s66_54, am_s66_57, am_s66_59, am_s66_60, am_s66_63, am_s66_64, am_s66_67, am_s66_70, am_s66_72, am_s66_73, am_s66_74, am_s66_77, am_s66_80, am_s66_82, am_s66_83, am_s66_86, am_s66_87, am_s66_88, am_s66_90, am_s66_91, am_s66_92, am_s66_93, am_f59_0, am_f10_8, hsz, h1, h2, e1, e2, am_fa_6 a1, am_fa_6 b1, am_ap_5 a1 hk8, am_ap_5 b1 hk8, ka, kb, h3, eq_self, am_os_some, Option.toList_some, Option.toList_none, List.cons_append, List.nil_append, if_true, if_false, true_and, am_nw1_i, am_nw1_r, am_nw1_n, cond_true]
          rw [am_s66_96, hi]
          exact ih1
        · rw [am_kp, if_neg (fun hc => c2 hc.2)] at ih1
          have h3 : nI (S2 4 k) ≤ nI (S1 4 k) := nI_le (by omega) (by omega)
          simp only [am_s66_45, am_s66_47, am_s66_48, am_s66_51, am_s66_54, am_s66_57, am_s66_59, am_s66_60, am_s66_63, am_s66_64, am_s66_67, am_s66_70, am_s66_72, am_s66_73, am_s66_74, am_s66_77, am_s66_80, am_s66_82, am_s66_83, am_s66_86, am_s66_87, am_s66_88, am_s66_90, am_s66_91, am_s66_92, am_s66_93, am_f59_0, am_f10_8, hsz, h1, h2, e1, e2, am_fa_6 a1, am_fa_6 b1, am_ap_5 a1 hk8, am_ap_5 b1 hk8, ka, kb, h3, eq_self, am_os_some, Option.toList_some, Option.toList_none, List.cons_append, List.nil_append, if_true, if_false, true_and, am_nw1_i, am_nw1_r, am_nw1_n, cond_true]
          rw [am_s66_96, hi]
          exact ih1
  refine am_CD_of (M := am_N66) rfl rfl ?_
  show am_Rn _ _ ((Option.some FieldType.int)) am_J66 0 [some (.ref 59), some (.int (nI p)), some (.int (nI n)), none, none] [] (am_L0 q, G) _
  simp only [am_s66_0, am_s66_1, am_s66_4, am_s66_5, am_s66_8, am_s66_11, am_s66_12, am_s66_15, am_s66_16, am_s66_17, am_s66_20, am_s66_21, am_s66_24, am_s66_25, am_s66_28, am_s66_31, am_s66_32, am_s66_35, am_s66_36, am_s66_37, am_s66_40, am_s66_41, am_s66_42, am_s66_43, am_f59_0, am_f59_1, am_f59_2, am_cal_ok am_cat_0 am_v60 (g1), am_cal_ok am_cat_0 am_v60 (g2), am_cal_ok am_cat_0 am_v76 (g3), am_cal_ok am_cat_0 am_v76 (g4), eq_self, am_os_some, Option.toList_some, Option.toList_none, List.cons_append, List.nil_append, if_true, if_false, true_and, am_nw1_i, am_nw1_r, am_nw1_n, cond_true]
  refine (hl 60 76 rfl rfl (S 13 0) 0 (by omega) _).mpr ?_
  simp only [am_s66_99, am_s66_100, eq_self, am_os_some, Option.toList_some, Option.toList_none, List.cons_append, List.nil_append, if_true, if_false, true_and, am_nw1_i, am_nw1_r, am_nw1_n, cond_true]
theorem am_m67 (h : am_cn G S T U) {m : Nat} {V : Nat → Int32} (hm : m ≤ 20) (hz : G 28 1 = nI m) (hV : ∀ i, i < m → G 29 i = V i) : ∃ G' : am_G, am_frt G G' ∧ am_CD X (D + 7) 67 [.ref 59, .ref 28] (am_L0 q, G) = some (some (.int (am_oi (am_fu T U S V m 0))), (am_L0 q, G')) := by
  have hdd := h.2.2.2.2.2.2
  have hl : ∀ (d n : Nat) (G : am_G), n + d = m → am_cn G S T U → am_cp 60 G (am_days T U 8 S n) → G 28 1 = nI m → (∀ i, i < m → G 29 i = V i) → ∃ G' : am_G, am_frt G G' ∧ am_Rn X (D + 6) (some .int) am_J67 13 [some (.ref 59), some (.ref 28), some (.int (nI n))] [] (am_L0 q, G) (some (.int (am_oi (am_fu T U S V d n))), (am_L0 q, G')) := by
    intro d
    induction d with
    | zero =>
      intro n G hn _ _ hz _
      obtain rfl : n = m := by omega
      have h1 : ¬ nI n < nI n := Int32.lt_irrefl
      refine ⟨G, am_frt.rf G, ?_⟩
      simp only [am_s67_13, am_s67_14, am_s67_15, am_s67_18, am_s67_54, am_s67_55, am_f28_1, hz, h1, eq_self, am_os_some, Option.toList_some, Option.toList_none, List.cons_append, List.nil_append, if_true, if_false, true_and, am_nw1_i, am_nw1_r, am_nw1_n, cond_true]
      rfl
    | succ d ih =>
      intro n G hn hc hS hz hV
      have h1 : nI n < nI m := nI_lt (by omega) (by omega)
      have hi : nI n + 1 = nI (n + 1) := nI_add n 1
      have hwn := am_wf_days (T := T) (U := U) (h := 8) hc.2.1 n
      have hwn1 := am_wf_days (T := T) (U := U) (h := 8) hc.2.1 (n + 1)
      obtain ⟨G1, f1, c1, -, g1⟩ := am_dyn (X := X) (D := D) (q := q) (n := 1) hc (Or.inl rfl) hS hwn.1 (by rw [hwn.2.2]; omega) am_hm1
      have c1' : am_cp 60 G1 (am_days T U 8 S (n + 1)) := c1
      have g1' : am_CD X (D + 6) 30 [.ref 60, .int 1, .int (-1)] (am_L0 q, G) = some (none, (am_L0 q, G1)) := g1
      have g0 := am_m28 (X := X) (D := D + 5) (q := q) (am_ist_p am_60) c1' hwn1.1
      rw [hwn1.2.1] at g0
      have hv1 : G1 29 n = V n := by rw [f1 29 n (by omega) (by omega) (by omega)]; exact hV n (by omega)
      unfold am_fu
      by_cases c : nI (am_sum (am_days T U 8 S (n + 1)) 3 (S 13 0)) = V n
      · obtain ⟨G', f2, g2⟩ := ih (n + 1) G1 (by omega) (hc.fr f1) c1' (by rw [f1 28 1 (by omega) (by omega) (by omega)]; exact hz) (fun i hi => by rw [f1 29 i (by omega) (by omega) (by omega)]; exact hV i hi)
        refine ⟨G', f1.tr f2, ?_⟩
        simp only [am_s67_13, am_s67_14, am_s67_15, am_s67_18, am_s67_21, am_s67_22, am_s67_25, am_s67_26, am_s67_27, am_s67_30, am_s67_31, am_s67_34, am_s67_37, am_s67_38, am_s67_41, am_s67_42, am_s67_43, am_s67_48, am_f28_1, am_f28_0, hz, h1, am_f59_1, am_cal_ok am_cat_0 am_v60 (g1'), am_cal_ok am_cat_0 am_v60 (g0), am_a29, am_in_nI (show n < 20 by omega) (by decide), nI_clamp (show n < 2 ^ 31 by omega), hv1, c, eq_self, am_os_some, Option.toList_some, Option.toList_none, List.cons_append, List.nil_append, if_true, if_false, true_and, am_nw1_i, am_nw1_r, am_nw1_n, cond_true]
        rw [am_s67_51, hi]
        exact g2
      · refine ⟨G1, f1, ?_⟩
        simp only [am_s67_13, am_s67_14, am_s67_15, am_s67_18, am_s67_21, am_s67_22, am_s67_25, am_s67_26, am_s67_27, am_s67_30, am_s67_31, am_s67_34, am_s67_37, am_s67_38, am_s67_41, am_s67_42, am_s67_43, am_s67_46, am_s67_47, am_f28_1, am_f28_0, hz, h1, am_f59_1, am_cal_ok am_cat_0 am_v60 (g1'), am_cal_ok am_cat_0 am_v60 (g0), am_a29, am_in_nI (show n < 20 by omega) (by decide), nI_clamp (show n < 2 ^ 31 by omega), hv1, c, eq_self, am_os_some, Option.toList_some, Option.toList_none, List.cons_append, List.nil_append, if_true, if_false, true_and, am_nw1_i, am_nw1_r, am_nw1_n, cond_true]
        rfl
  obtain ⟨G1, f1, c1, -, g1⟩ := am_cpn (X := X) (D := D + 4) (q := q) h (Or.inl rfl)
  obtain ⟨G2, f2, g2⟩ := hl m 0 G1 (by omega) (h.fr f1) c1 (by rw [f1 28 1 (by omega) (by omega) (by omega)]; exact hz) (fun i hi => by rw [f1 29 i (by omega) (by omega) (by omega)]; exact hV i hi)
  refine ⟨G2, f1.tr f2, ?_⟩
  refine am_CD_of (M := am_N67) rfl rfl ?_
  show am_Rn _ _ ((Option.some FieldType.int)) am_J67 0 [some (.ref 59), some (.ref 28), none] [] (am_L0 q, G) _
  simp only [am_s67_0, am_s67_1, am_s67_4, am_s67_5, am_s67_8, am_s67_11, am_s67_12, am_f59_0, am_f59_1, am_cal_ok am_cat_0 am_v60 (g1), eq_self, am_os_some, Option.toList_some, Option.toList_none, List.cons_append, List.nil_append, if_true, if_false, true_and, am_nw1_i, am_nw1_r, am_nw1_n, cond_true]
  exact g2
end AMTH
