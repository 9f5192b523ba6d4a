/-! sums and sets over PEOPLE, copies; the class -/
def am_sum (S : am_S) (f : Nat) : Nat → Nat
  | 0 => 0
  | k + 1 => am_sum S f k + S f k
def am_gs (T : am_T) (S : am_S) : Nat → Int32
  | 0 => 0
  | k + 1 => if am_gv T S k = true then am_gs T S k ||| (1 <<< (nI k &&& 31)) else am_gs T S k
/-- from k on, d of them: the first whose THIRST is x or more; k + d else -/
def am_ft (S : am_S) (x : Nat) : Nat → Nat → Nat
  | 0, k => k
  | d + 1, k => if x ≤ S 4 k then k else am_ft S x d (k + 1)
theorem am_ft_ge {S : am_S} {x : Nat} : ∀ (d k : Nat), k ≤ am_ft S x d k ∧ am_ft S x d k ≤ k + d
  | 0, k => ⟨Nat.le_refl _, Nat.le_refl _⟩
  | d + 1, k => by
    unfold am_ft
    split
    · omega
    · have := am_ft_ge (S := S) (x := x) d (k + 1)
      omega
theorem am_sum_le {S : am_S} {f m : Nat} (h : ∀ p, p < 8 → S f p ≤ m) : ∀ k, k ≤ 8 → am_sum S f k ≤ k * m
  | 0, _ => by simp [am_sum]
  | k + 1, hk => by
    have := am_sum_le h k (by omega)
    have h2 := h k (by omega)
    unfold am_sum
    rw [Nat.add_mul, Nat.one_mul]
    omega
section AMSU
variable {X : am_X} {D q a : Nat} {S : am_S} {T U : am_T}
theorem am_m28 {G : am_G} (hb : am_ispe a) (hS : am_cp a G S) (hw : am_wf S) : am_CD X (D + 1) 28 [.ref a] (am_L0 q, G) = some (some (.int (nI (am_sum S 3 (S 13 0)))), (am_L0 q, G)) := by
  have h8 := hw.1
  have hl : ∀ (d k : Nat), k + d = S 13 0 → ∀ o, am_Rn X D (some .int) am_J28 4 [some (.ref a), some (.int (nI (am_sum S 3 k))), some (.int (nI k))] [] (am_L0 q, G) o = am_Rn X D (some .int) am_J28 27 [some (.ref a), some (.int (nI (am_sum S 3 (S 13 0)))), some (.int (nI (S 13 0)))] [] (am_L0 q, G) o := by
    intro d
    induction d with
    | zero =>
      intro k hk o
      obtain rfl : k = S 13 0 := by omega
      have h1 : ¬ nI (S 13 0) < nI (S 13 0) := Int32.lt_irrefl
      simp only [am_s28_4, am_s28_5, am_s28_6, am_s28_9, am_fa_8 hb, hS.2.2.1, h1, eq_self, am_os_some, Option.toList_some, Option.toList_none, List.cons_append, List.nil_append, if_true, if_false, true_and, am_nw1_i, am_nw1_r, am_nw1_n, cond_true]
    | succ d ih =>
      intro k hk o
      have hk8 : k < 8 := by omega
      have h1 : nI k < nI (S 13 0) := nI_lt (by omega) (by omega)
      have hi : nI k + 1 = nI (k + 1) := nI_add k 1
      obtain ⟨-, -, -, kw, -⟩ := hS.1 k hk8
      have hs : nI (am_sum S 3 k) + nI (S 3 k) = nI (am_sum S 3 (k + 1)) := nI_add _ _
      simp only [am_s28_4, am_s28_5, am_s28_6, am_s28_9, am_s28_12, am_s28_13, am_s28_14, am_s28_17, am_s28_18, am_s28_19, am_s28_20, am_s28_21, am_fa_8 hb, hS.2.2.1, h1, am_fa_5 hb, am_ap_4 hb hk8, kw, hs, eq_self, am_os_some, Option.toList_some, Option.toList_none, List.cons_append, List.nil_append, if_true, if_false, true_and, am_nw1_i, am_nw1_r, am_nw1_n, cond_true]
      rw [am_s28_24, hi]
      exact ih (k + 1) (by omega) o
  refine am_CD_of (M := am_N28) rfl rfl ?_
  show am_Rn _ _ ((Option.some FieldType.int)) am_J28 0 [some (.ref a), none, none] [] (am_L0 q, G) _
  simp only [am_s28_0, am_s28_1, am_s28_2, am_s28_3, eq_self, am_os_some, Option.toList_some, Option.toList_none, List.cons_append, List.nil_append, if_true, if_false, true_and, am_nw1_i, am_nw1_r, am_nw1_n, cond_true]
  refine (hl (S 13 0) 0 (by omega) _).mpr ?_
  simp only [am_s28_27, am_s28_28, eq_self, am_os_some, Option.toList_some, Option.toList_none, List.cons_append, List.nil_append, if_true, if_false, true_and, am_nw1_i, am_nw1_r, am_nw1_n, cond_true]
theorem am_m29 {G : am_G} (hb : am_ispe a) (hS : am_cp a G S) (hw : am_wf S) : am_CD X (D + 1) 29 [.ref a] (am_L0 q, G) = some (some (.int (nI (am_sum S 4 (S 13 0)))), (am_L0 q, G)) := by
  have h8 := hw.1
  have hl : ∀ (d k : Nat), k + d = S 13 0 → ∀ o, am_Rn X D (some .int) am_J29 4 [some (.ref a), some (.int (nI (am_sum S 4 k))), some (.int (nI k))] [] (am_L0 q, G) o = am_Rn X D (some .int) am_J29 27 [some (.ref a), some (.int (nI (am_sum S 4 (S 13 0)))), some (.int (nI (S 13 0)))] [] (am_L0 q, G) o := by
    intro d
    induction d with
    | zero =>
      intro k hk o
      obtain rfl : k = S 13 0 := by omega
      have h1 : ¬ nI (S 13 0) < nI (S 13 0) := Int32.lt_irrefl
      simp only [am_s29_4, am_s29_5, am_s29_6, am_s29_9, am_fa_8 hb, hS.2.2.1, h1, eq_self, am_os_some, Option.toList_some, Option.toList_none, List.cons_append, List.nil_append, if_true, if_false, true_and, am_nw1_i, am_nw1_r, am_nw1_n, cond_true]
    | succ d ih =>
      intro k hk o
      have hk8 : k < 8 := by omega
      have h1 : nI k < nI (S 13 0) := nI_lt (by omega) (by omega)
      have hi : nI k + 1 = nI (k + 1) := nI_add k 1
      obtain ⟨-, -, -, -, kw⟩ := hS.1 k hk8
      have hs : nI (am_sum S 4 k) + nI (S 4 k) = nI (am_sum S 4 (k + 1)) := nI_add _ _
      simp only [am_s29_4, am_s29_5, am_s29_6, am_s29_9, am_s29_12, am_s29_13, am_s29_14, am_s29_17, am_s29_18, am_s29_19, am_s29_20, am_s29_21, am_fa_8 hb, hS.2.2.1, h1, am_fa_6 hb, am_ap_5 hb hk8, kw, hs, eq_self, am_os_some, Option.toList_some, Option.toList_none, List.cons_append, List.nil_append, if_true, if_false, true_and, am_nw1_i, am_nw1_r, am_nw1_n, cond_true]
      rw [am_s29_24, hi]
      exact ih (k + 1) (by omega) o
  refine am_CD_of (M := am_N29) rfl rfl ?_
  show am_Rn _ _ ((Option.some FieldType.int)) am_J29 0 [some (.ref a), none, none] [] (am_L0 q, G) _
  simp only [am_s29_0, am_s29_1, am_s29_2, am_s29_3, eq_self, am_os_some, Option.toList_some, Option.toList_none, List.cons_append, List.nil_append, if_true, if_false, true_and, am_nw1_i, am_nw1_r, am_nw1_n, cond_true]
  refine (hl (S 13 0) 0 (by omega) _).mpr ?_
  simp only [am_s29_27, am_s29_28, eq_self, am_os_some, Option.toList_some, Option.toList_none, List.cons_append, List.nil_append, if_true, if_false, true_and, am_nw1_i, am_nw1_r, am_nw1_n, cond_true]
theorem am_m27 {G : am_G} (ha : am_ist a) (hS : am_cp a G S) (hw : am_wf S) (hT : am_cw 2 0 G T) (ht : am_wt T) (hd : S 13 1 < 2 ^ 31) : ∃ G' : am_G, (∀ i j, i ≠ 5 → G' i j = G i j) ∧ am_CD X (D + 5) 27 [.ref a] (am_L0 q, G) = some (some (.int (am_gs T S (S 13 0))), (am_L0 q, G')) := by
  have hb := am_ist_p ha
  have h8 := hw.1
  have hl : ∀ (d k : Nat) (G : am_G), k + d = S 13 0 → am_cp a G S → am_cw 2 0 G T → ∃ G' : am_G, (∀ i j, i ≠ 5 → G' i j = G i j) ∧ ∀ o, am_Rn X (D + 4) (some .int) am_J27 4 [some (.ref a), some (.int (am_gs T S k)), some (.int (nI k))] [] (am_L0 q, G) o = am_Rn X (D + 4) (some .int) am_J27 32 [some (.ref a), some (.int (am_gs T S (S 13 0))), some (.int (nI (S 13 0)))] [] (am_L0 q, G') o := by
    intro d
    induction d with
    | zero =>
      intro k G hk hS _
      obtain rfl : k = S 13 0 := by omega
      have h1 : ¬ nI (S 13 0) < nI (S 13 0) := Int32.lt_irrefl
      refine ⟨G, fun _ _ _ => rfl, fun o => ?_⟩
      simp only [am_s27_4, am_s27_5, am_s27_6, am_s27_9, am_fa_8 hb, hS.2.2.1, h1, eq_self, am_os_some, Option.toList_some, Option.toList_none, List.cons_append, List.nil_append, if_true, if_false, true_and, am_nw1_i, am_nw1_r, am_nw1_n, cond_true]
    | succ d ih =>
      intro k G hk hS hT
      have hk8 : k < 8 := by omega
      have h1 : nI k < nI (S 13 0) := nI_lt (by omega) (by omega)
      have hi : nI k + 1 = nI (k + 1) := nI_add k 1
      obtain ⟨G1, f1, g1⟩ := am_m26 (X := X) (D := D) (q := q) ha hS hT ht hd hk8
      obtain ⟨G', f2, g2⟩ := ih (k + 1) G1 (by omega) (am_cp_fr hS fun i j a1 a2 => f1 i j (by rcases ha with rfl | rfl | rfl <;> omega)) (am_cw_fr hT fun i j a1 a2 => f1 i j (by omega))
      refine ⟨G', fun i j hx => by rw [f2 i j hx, f1 i j hx], fun o => ?_⟩
      cases hg : am_gv T S k with
      | false =>
        rw [hg] at g1
        have e : am_gs T S (k + 1) = am_gs T S k := by rw [am_gs, hg]; rfl
        rw [e] at g2
        simp only [am_s27_4, am_s27_5, am_s27_6, am_s27_9, am_s27_12, am_s27_13, am_s27_14, am_s27_17, am_s27_20, am_s27_21, am_s27_22, am_s27_23, am_s27_24, am_s27_25, am_s27_26, am_fa_8 hb, hS.2.2.1, h1, am_cal_ok am_cat_0 (am_va hb) (g1), am_bI, reduceCtorEq, eq_self, am_os_some, Option.toList_some, Option.toList_none, List.cons_append, List.nil_append, if_true, if_false, true_and, am_nw1_i, am_nw1_r, am_nw1_n, cond_true]
        rw [am_s27_29, hi]
        exact g2 o
      | true =>
        rw [hg] at g1
        have e : am_gs T S (k + 1) = am_gs T S k ||| (1 <<< (nI k &&& 31)) := by rw [am_gs, hg]; rfl
        rw [e] at g2
        have e10 : ((1 : Int32) = 0) = False := by decide
        simp only [am_s27_4, am_s27_5, am_s27_6, am_s27_9, am_s27_12, am_s27_13, am_s27_14, am_s27_17, am_s27_20, am_s27_21, am_s27_22, am_s27_23, am_s27_24, am_s27_25, am_s27_26, am_fa_8 hb, hS.2.2.1, h1, am_cal_ok am_cat_0 (am_va hb) (g1), am_bI, e10, eq_self, am_os_some, Option.toList_some, Option.toList_none, List.cons_append, List.nil_append, if_true, if_false, true_and, am_nw1_i, am_nw1_r, am_nw1_n, cond_true]
        rw [am_s27_29, hi]
        exact g2 o
  obtain ⟨G', f, g⟩ := hl (S 13 0) 0 G (by omega) hS hT
  refine ⟨G', f, ?_⟩
  refine am_CD_of (M := am_N27) rfl rfl ?_
  show am_Rn _ _ ((Option.some FieldType.int)) am_J27 0 [some (.ref a), none, none] [] (am_L0 q, G) _
  simp only [am_s27_0, am_s27_1, am_s27_2, am_s27_3, eq_self, am_os_some, Option.toList_some, Option.toList_none, List.cons_append, List.nil_append, if_true, if_false, true_and, am_nw1_i, am_nw1_r, am_nw1_n, cond_true]
  refine (g _).mpr ?_
  simp only [am_s27_32, am_s27_33, eq_self, am_os_some, Option.toList_some, Option.toList_none, List.cons_append, List.nil_append, if_true, if_false, true_and, am_nw1_i, am_nw1_r, am_nw1_n, cond_true]
theorem am_m34 {G : am_G} (hb : am_ispe a) (hS : am_cp a G S) (hw : am_wf S) {x : Nat} (hx : x < 1000) : am_CD X (D + 1) 34 [.ref a, .int (nI x)] (am_L0 q, G) = some (some (.int (if am_ft S x (S 13 0) 0 < S 13 0 then nI (am_ft S x (S 13 0) 0) else -1)), (am_L0 q, G)) := by
  have h8 := hw.1
  have hl : ∀ (d k : Nat), k + d = S 13 0 → am_Rn X D (some .int) am_J34 2 [some (.ref a), some (.int (nI x)), some (.int (nI k))] [] (am_L0 q, G) (some (.int (if am_ft S x d k < S 13 0 then nI (am_ft S x d k) else -1)), (am_L0 q, G)) := by
    intro d
    induction d with
    | zero =>
      intro k hk
      obtain rfl : k = S 13 0 := by omega
      have h1 : ¬ nI (S 13 0) < nI (S 13 0) := Int32.lt_irrefl
      have h2 : ¬ am_ft S x 0 (S 13 0) < S 13 0 := Nat.lt_irrefl _
      simp only [am_s34_2, am_s34_3, am_s34_4, am_s34_7, am_s34_28, am_s34_29, am_fa_8 hb, hS.2.2.1, h1, h2, eq_self, am_os_some, Option.toList_some, Option.toList_none, List.cons_append, List.nil_append, if_true, if_false, true_and, am_nw1_i, am_nw1_r, am_nw1_n, cond_true]
    | succ d ih =>
      intro k hk
      have hk8 : k < 8 := by omega
      have h1 : nI k < nI (S 13 0) := nI_lt (by omega) (by omega)
      have hi : nI k + 1 = nI (k + 1) := nI_add k 1
      obtain ⟨-, -, -, -, kw⟩ := hS.1 k hk8
      have hb4 := (hw.2.1 k hk8).2.2.2.2
      unfold am_ft
      by_cases c : x ≤ S 4 k
      · have h2 : ¬ nI (S 4 k) < nI x := nI_nlt (by omega) (by omega)
        have h3 : k < S 13 0 := by omega
        simp only [am_s34_2, am_s34_3, am_s34_4, am_s34_7, am_s34_10, am_s34_11, am_s34_14, am_s34_15, am_s34_16, am_s34_17, am_s34_20, am_s34_21, am_fa_8 hb, hS.2.2.1, h1, am_fa_6 hb, am_ap_5 hb hk8, kw, h2, c, h3, eq_self, am_os_some, Option.toList_some, Option.toList_none, List.cons_append, List.nil_append, if_true, if_false, true_and, am_nw1_i, am_nw1_r, am_nw1_n, cond_true]
      · have h2 : nI (S 4 k) < nI x := nI_lt (by omega) (by omega)
        simp only [am_s34_2, am_s34_3, am_s34_4, am_s34_7, am_s34_10, am_s34_11, am_s34_14, am_s34_15, am_s34_16, am_s34_17, am_s34_20, am_s34_21, am_s34_22, am_fa_8 hb, hS.2.2.1, h1, am_fa_6 hb, am_ap_5 hb hk8, kw, h2, c, eq_self, am_os_some, Option.toList_some, Option.toList_none, List.cons_append, List.nil_append, if_true, if_false, true_and, am_nw1_i, am_nw1_r, am_nw1_n, cond_true]
        rw [am_s34_25, hi]
        exact ih (k + 1) (by omega)
  refine am_CD_of (M := am_N34) rfl rfl ?_
  show am_Rn _ _ ((Option.some FieldType.int)) am_J34 0 [some (.ref a), some (.int (nI x)), none] [] (am_L0 q, G) _
  simp only [am_s34_0, am_s34_1, eq_self, am_os_some, Option.toList_some, Option.toList_none, List.cons_append, List.nil_append, if_true, if_false, true_and, am_nw1_i, am_nw1_r, am_nw1_n, cond_true]
  exact hl (S 13 0) 0 (by omega)
/-- a row of 8 is copied -/
theorem am_cpy_get (G : am_G) (s d sp dp n i j : Nat) : am_cpy G s d sp dp n i j = if i = d then (if dp ≤ j ∧ j < dp + n then G s (sp + (j - dp)) else G d j) else G i j := rfl
theorem am_acp8 {G : am_G} {s d : Nat} {st : List Value} (hc : am_cat st = true) (hs : (am_L0 q)[s]? = some (.inr (.inl 8))) (hd : (am_L0 q)[d]? = some (.inr (.inl 8))) : am_acpS st (am_L0 q, G) s d 0 0 8 = some (am_L0 q, am_cpy G s d 0 0 8) := by
  have e0 : (0 : Int32).toNatClampNeg = 0 := by decide +kernel
  have e8 : (8 : Int32).toNatClampNeg = 8 := by decide +kernel
  unfold am_acpS am_acpM
  simp only [hc, hs, hd, e0, e8, cond_true]
  exact am_bt (by decide +kernel)
theorem am_lp_1 (h : am_ispe a) : (am_L0 q)[a + 1]? = some (.inr (.inl 8)) := by rcases h with rfl | rfl | rfl | rfl <;> rfl
theorem am_lp_2 (h : am_ispe a) : (am_L0 q)[a + 2]? = some (.inr (.inl 8)) := by rcases h with rfl | rfl | rfl | rfl <;> rfl
theorem am_lp_3 (h : am_ispe a) : (am_L0 q)[a + 3]? = some (.inr (.inl 8)) := by rcases h with rfl | rfl | rfl | rfl <;> rfl
theorem am_lp_4 (h : am_ispe a) : (am_L0 q)[a + 4]? = some (.inr (.inl 8)) := by rcases h with rfl | rfl | rfl | rfl <;> rfl
theorem am_lp_5 (h : am_ispe a) : (am_L0 q)[a + 5]? = some (.inr (.inl 8)) := by rcases h with rfl | rfl | rfl | rfl <;> rfl
theorem am_m2 {b : Nat} {G : am_G} (ha : am_ispe a) (hb : am_ispe b) (hab : a + 16 ≤ b ∨ b + 16 ≤ a) : ∃ G' : am_G, (∀ i j, i < b + 8 ∨ b + 16 ≤ i → G' i j = G i j) ∧ (∀ i j, i < 8 → j < 8 → G' (b + 8 + i) j = G (a + 8 + i) j) ∧ am_CD X (D + 1) 2 [.ref (b + 6), .ref (a + 6)] (am_L0 q, G) = some (none, (am_L0 q, G')) := by
  have hl : ∀ (d k : Nat) (G : am_G), k + d = 8 → ∃ G' : am_G, (∀ i j, i < b + 8 + k ∨ b + 16 ≤ i → G' i j = G i j) ∧ (∀ i j, k ≤ i → i < 8 → j < 8 → G' (b + 8 + i) j = G (a + 8 + i) j) ∧ am_Rn X D none am_J2 2 [some (.ref (b + 6)), some (.ref (a + 6)), some (.int (nI k))] [] (am_L0 q, G) (none, (am_L0 q, G')) := by
    intro d
    induction d with
    | zero =>
      intro k G hk
      obtain rfl : k = 8 := by omega
      have h1 : ¬ nI 8 < 8 := by decide +kernel
      refine ⟨G, fun _ _ _ => rfl, fun i j h1 h2 _ => by omega, ?_⟩
      simp only [am_s2_2, am_s2_3, am_s2_5, am_s2_33, h1, eq_self, am_os_some, Option.toList_some, Option.toList_none, List.cons_append, List.nil_append, if_true, if_false, true_and, am_nw1_i, am_nw1_r, am_nw1_n, cond_true]
    | succ d ih =>
      intro k G hk
      have hk8 : k < 8 := by omega
      have h1 : nI k < 8 := nI_lt hk8 (by decide)
      have hi : nI k + 1 = nI (k + 1) := nI_add k 1
      obtain ⟨G', f1, f2, g⟩ := ih (k + 1) (am_cpy G (a + 8 + k) (b + 8 + k) 0 0 8) (by omega)
      refine ⟨G', fun i j hx => ?_, fun i j h2 h3 h4 => ?_, ?_⟩
      · rw [f1 i j (by omega), am_cpy_get, if_neg (by omega)]
      · by_cases e : i = k
        · subst e
          rw [f1 _ j (by omega), am_cpy_get, if_pos rfl, if_pos (by omega)]
          rw [Nat.zero_add, Nat.sub_zero]
        · rw [f2 i j (by omega) h3 h4, am_cpy_get, if_neg (by omega)]
      · simp only [am_s2_2, am_s2_3, am_s2_5, am_s2_8, am_s2_9, am_s2_12, am_s2_13, am_s2_14, am_s2_15, am_s2_16, am_s2_19, am_s2_20, am_s2_21, am_s2_22, am_s2_24, am_s2_27, h1, am_fa_d ha, am_fa_d hb, am_ra ha hk8, am_ra hb hk8, am_acp8 am_cat_0 (am_lz ha hk8) (am_lz hb hk8), eq_self, am_os_some, Option.toList_some, Option.toList_none, List.cons_append, List.nil_append, if_true, if_false, true_and, am_nw1_i, am_nw1_r, am_nw1_n, cond_true]
        rw [am_s2_30, hi]
        exact g
  obtain ⟨G', f1, f2, g⟩ := hl 8 0 G rfl
  refine ⟨G', f1, fun i j h1 h2 => f2 i j (by omega) h1 h2, ?_⟩
  refine am_CD_of (M := am_N2) rfl rfl ?_
  show am_Rn _ _ none am_J2 0 [some (.ref (b + 6)), some (.ref (a + 6)), none] [] (am_L0 q, G) _
  simp only [am_s2_0, am_s2_1, eq_self, am_os_some, Option.toList_some, Option.toList_none, List.cons_append, List.nil_append, if_true, if_false, true_and, am_nw1_i, am_nw1_r, am_nw1_n, cond_true]
  exact g
theorem am_m21 {b : Nat} {G : am_G} (ha : am_ispe a) (hb : am_ispe b) (hab : a + 16 ≤ b ∨ b + 16 ≤ a) (hS : am_cp a G S) : ∃ G' : am_G, (∀ i j, am_out b i → G' i j = G i j) ∧ am_cp b G' S ∧ am_CD X (D + 2) 21 [.ref b, .ref a] (am_L0 q, G) = some (none, (am_L0 q, G')) := by
  obtain ⟨h1, h2, h3, h4⟩ := hS
  generalize hG1 : am_cpy G (a + 1) (b + 1) 0 0 8 = G1
  generalize hG2 : am_cpy G1 (a + 2) (b + 2) 0 0 8 = G2
  generalize hG3 : am_cpy G2 (a + 3) (b + 3) 0 0 8 = G3
  generalize hG4 : am_cpy G3 (a + 4) (b + 4) 0 0 8 = G4
  generalize hG5 : am_cpy G4 (a + 5) (b + 5) 0 0 8 = G5
  obtain ⟨G6, f6, e6, g6⟩ := am_m2 (X := X) (D := D) (q := q) (G := G5) ha hb hab
  have fr5 : ∀ i j, (i < b + 1 ∨ b + 6 ≤ i) → G5 i j = G i j := by
    intro i j hi
    rw [← hG5, am_cpy_get, if_neg (by omega), ← hG4, am_cpy_get, if_neg (by omega), ← hG3, am_cpy_get, if_neg (by omega), ← hG2, am_cpy_get, if_neg (by omega), ← hG1, am_cpy_get, if_neg (by omega)]
  have v1 : ∀ p, p < 8 → G5 (b + 1) p = G (a + 1) p := by
    intro p hp
    rw [← hG5, am_cpy_get, if_neg (by omega), ← hG4, am_cpy_get, if_neg (by omega), ← hG3, am_cpy_get, if_neg (by omega), ← hG2, am_cpy_get, if_neg (by omega), ← hG1, am_cpy_get, if_pos rfl, if_pos (by omega), Nat.zero_add, Nat.sub_zero]
  have v2 : ∀ p, p < 8 → G5 (b + 2) p = G (a + 2) p := by
    intro p hp
    rw [← hG5, am_cpy_get, if_neg (by omega), ← hG4, am_cpy_get, if_neg (by omega), ← hG3, am_cpy_get, if_neg (by omega), ← hG2, am_cpy_get, if_pos rfl, if_pos (by omega), Nat.zero_add, Nat.sub_zero, ← hG1, am_cpy_get, if_neg (by omega)]
  have v3 : ∀ p, p < 8 → G5 (b + 3) p = G (a + 3) p := by
    intro p hp
    rw [← hG5, am_cpy_get, if_neg (by omega), ← hG4, am_cpy_get, if_neg (by omega), ← hG3, am_cpy_get, if_pos rfl, if_pos (by omega), Nat.zero_add, Nat.sub_zero, ← hG2, am_cpy_get, if_neg (by omega), ← hG1, am_cpy_get, if_neg (by omega)]
  have v4 : ∀ p, p < 8 → G5 (b + 4) p = G (a + 4) p := by
    intro p hp
    rw [← hG5, am_cpy_get, if_neg (by omega), ← hG4, am_cpy_get, if_pos rfl, if_pos (by omega), Nat.zero_add, Nat.sub_zero, ← hG3, am_cpy_get, if_neg (by omega), ← hG2, am_cpy_get, if_neg (by omega), ← hG1, am_cpy_get, if_neg (by omega)]
  have v5 : ∀ p, p < 8 → G5 (b + 5) p = G (a + 5) p := by
    intro p hp
    rw [← hG5, am_cpy_get, if_pos rfl, if_pos (by omega), Nat.zero_add, Nat.sub_zero, ← hG4, am_cpy_get, if_neg (by omega), ← hG3, am_cpy_get, if_neg (by omega), ← hG2, am_cpy_get, if_neg (by omega), ← hG1, am_cpy_get, if_neg (by omega)]
  have k8 : G6 a 8 = nI (S 13 0) := by rw [f6 a 8 (by omega), fr5 a 8 (by omega)]; exact h3
  have k9 : am_up G6 b 8 (nI (S 13 0)) a 9 = nI (S 13 1) := by rw [am_up_get, if_neg (by omega), f6 a 9 (by omega), fr5 a 9 (by omega)]; exact h4
  refine ⟨am_up (am_up G6 b 8 (nI (S 13 0))) b 9 (nI (S 13 1)), fun i j hx => ?_, ⟨fun p hp => ?_, fun i j hi hj => ?_, ?_, ?_⟩, ?_⟩
  · unfold am_out at hx
    rw [am_up_get, if_neg (by omega), am_up_get, if_neg (by omega), f6 i j (by omega), fr5 i j (by omega)]
  · have fr6 : ∀ i j, i < b + 8 → i ≠ b → am_up (am_up G6 b 8 (nI (S 13 0))) b 9 (nI (S 13 1)) i j = G5 i j := fun i j h1 h2 => by rw [am_up_get, if_neg h2, am_up_get, if_neg h2, f6 i j (Or.inl h1)]
    rw [fr6 _ _ (by omega) (by omega), fr6 _ _ (by omega) (by omega), fr6 _ _ (by omega) (by omega), fr6 _ _ (by omega) (by omega), fr6 _ _ (by omega) (by omega), v1 p hp, v2 p hp, v3 p hp, v4 p hp, v5 p hp]
    exact h1 p hp
  · rw [am_up_get, if_neg (by omega), am_up_get, if_neg (by omega), e6 i j hi hj, fr5 _ _ (by omega)]
    exact h2 i j hi hj
  · rw [am_up_get, if_pos rfl, if_neg (by decide), am_up_get, if_pos rfl, if_pos rfl]
  · rw [am_up_get, if_pos rfl, if_pos rfl]
  · refine am_CD_of (M := am_N21) rfl rfl ?_
    show am_Rn _ _ none am_J21 0 [some (.ref b), some (.ref a)] [] (am_L0 q, G) _
    simp only [am_s21_0, am_s21_1, am_s21_4, am_s21_5, am_s21_6, am_s21_9, am_s21_10, am_s21_12, am_s21_15, am_s21_16, am_s21_19, am_s21_20, am_s21_21, am_s21_24, am_s21_25, am_s21_27, am_s21_30, am_s21_31, am_s21_34, am_s21_35, am_s21_36, am_s21_39, am_s21_40, am_s21_42, am_s21_45, am_s21_46, am_s21_49, am_s21_50, am_s21_51, am_s21_54, am_s21_55, am_s21_57, am_s21_60, am_s21_61, am_s21_64, am_s21_65, am_s21_66, am_s21_69, am_s21_70, am_s21_72, am_s21_75, am_s21_76, am_s21_79, am_s21_80, am_s21_83, am_s21_86, am_s21_87, am_s21_88, am_s21_91, am_s21_94, am_s21_95, am_s21_96, am_s21_99, am_s21_102, am_fa_2 ha, am_fa_2 hb, am_fa_3 ha, am_fa_3 hb, am_fa_4 ha, am_fa_4 hb, am_fa_5 ha, am_fa_5 hb, am_fa_6 ha, am_fa_6 hb, am_fa_7 ha, am_fa_7 hb, am_fa_8 ha, am_fa_9 ha, am_pa_8 hb, am_pa_9 hb, am_acp8 am_cat_0 (am_lp_1 ha) (am_lp_1 hb), am_acp8 am_cat_0 (am_lp_2 ha) (am_lp_2 hb), am_acp8 am_cat_0 (am_lp_3 ha) (am_lp_3 hb), am_acp8 am_cat_0 (am_lp_4 ha) (am_lp_4 hb), am_acp8 am_cat_0 (am_lp_5 ha) (am_lp_5 hb), hG1, hG2, hG3, hG4, hG5, am_cal_ok am_cat_0 (am_vd hb) g6, k8, k9, eq_self, am_os_some, Option.toList_some, Option.toList_none, List.cons_append, List.nil_append, if_true, if_false, true_and, am_nw1_i, am_nw1_r, am_nw1_n, cond_true]
end AMSU
