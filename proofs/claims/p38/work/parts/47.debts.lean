/-! debts: sums, NET; the class -/
def am_rw (S : am_S) (i : Nat) : Nat → Nat
  | 0 => 0
  | k + 1 => am_rw S i k + S (5 + i) k
def am_al (S : am_S) : Nat → Nat
  | 0 => 0
  | k + 1 => am_al S k + am_rw S k 8
def am_nt (S : am_S) (p : Nat) : Nat → Int32
  | 0 => 0
  | k + 1 => am_nt S p k + (nI (S (5 + k) p) - nI (S (5 + p) k))
section AMDE
variable {X : am_X} {D q a : Nat} {S : am_S} {G : am_G}
theorem am_m4 (hb : am_ispe a) (hS : am_cp a G S) : am_CD X (D + 1) 4 [.ref (a + 6)] (am_L0 q, G) = some (some (.int (nI (am_al S 8))), (am_L0 q, G)) := by
  have hi : ∀ i, i < 8 → ∀ (d k : Nat), k + d = 8 → ∀ o, am_Rn X D (some .int) am_J4 12 [some (.ref (a + 6)), some (.int (nI (am_al S i + am_rw S i k))), some (.int (nI i)), some (.int (nI k))] [] (am_L0 q, G) o = am_Rn X D (some .int) am_J4 35 [some (.ref (a + 6)), some (.int (nI (am_al S (i + 1)))), some (.int (nI i)), some (.int (nI 8))] [] (am_L0 q, G) o := by
    intro i hi d
    induction d with
    | zero =>
      intro k hk o
      obtain rfl : k = 8 := by omega
      have h1 : ¬ nI 8 < 8 := by decide +kernel
      simp only [am_s4_12, am_s4_13, am_s4_15, h1, eq_self, am_os_some, Option.toList_some, Option.toList_none, List.cons_append, List.nil_append, if_true, if_false, true_and, am_nw1_i, am_nw1_r, am_nw1_n, cond_true]
      rfl
    | succ d ih =>
      intro k hk o
      have hk8 : k < 8 := by omega
      have h1 : nI k < 8 := nI_lt hk8 (by decide)
      have hk1 : nI k + 1 = nI (k + 1) := nI_add k 1
      have hv := hS.2.1 i k hi hk8
      have hs : nI (am_al S i + am_rw S i k) + nI (S (5 + i) k) = nI (am_al S i + am_rw S i (k + 1)) := (nI_add _ _).trans (congrArg nI (by rw [am_rw]; omega))
      simp only [am_s4_12, am_s4_13, am_s4_15, am_s4_18, am_s4_19, am_s4_20, am_s4_23, am_s4_24, am_s4_25, am_s4_26, am_s4_27, am_s4_28, am_s4_29, h1, am_fa_d hb, am_ra hb hi, am_ad hb hi hk8, hv, hs, eq_self, am_os_some, Option.toList_some, Option.toList_none, List.cons_append, List.nil_append, if_true, if_false, true_and, am_nw1_i, am_nw1_r, am_nw1_n, cond_true]
      rw [am_s4_32, hk1]
      exact ih (k + 1) (by omega) o
  have ho : ∀ (d i : Nat) (z : Option Value), i + d = 8 → ∃ z' : Option Value, ∀ o, am_Rn X D (some .int) am_J4 4 [some (.ref (a + 6)), some (.int (nI (am_al S i))), some (.int (nI i)), z] [] (am_L0 q, G) o = am_Rn X D (some .int) am_J4 41 [some (.ref (a + 6)), some (.int (nI (am_al S 8))), some (.int (nI 8)), z'] [] (am_L0 q, G) o := by
    intro d
    induction d with
    | zero =>
      intro i z h
      obtain rfl : i = 8 := by omega
      have h1 : ¬ nI 8 < 8 := by decide +kernel
      refine ⟨z, fun o => ?_⟩
      simp only [am_s4_4, am_s4_5, am_s4_7, h1, eq_self, am_os_some, Option.toList_some, Option.toList_none, List.cons_append, List.nil_append, if_true, if_false, true_and, am_nw1_i, am_nw1_r, am_nw1_n, cond_true]
    | succ d ih =>
      intro i z h
      have h1 : nI i < 8 := nI_lt (show i < 8 by omega) (by decide)
      have hi1 : nI i + 1 = nI (i + 1) := nI_add i 1
      obtain ⟨z', hh⟩ := ih (i + 1) (some (.int (nI 8))) (by omega)
      refine ⟨z', fun o => ?_⟩
      have hin := hi i (by omega) 8 0 rfl o
      simp only [am_rw, Nat.add_zero, nI_0] at hin
      simp only [am_s4_4, am_s4_5, am_s4_7, am_s4_10, am_s4_11, h1, eq_self, am_os_some, Option.toList_some, Option.toList_none, List.cons_append, List.nil_append, if_true, if_false, true_and, am_nw1_i, am_nw1_r, am_nw1_n, cond_true]
      rw [hin]
      simp only [am_s4_35, am_s4_38, hi1, eq_self, am_os_some, Option.toList_some, Option.toList_none, List.cons_append, List.nil_append, if_true, if_false, true_and, am_nw1_i, am_nw1_r, am_nw1_n, cond_true]
      exact hh o
  obtain ⟨z', hh⟩ := ho 8 0 none rfl
  refine am_CD_of (M := am_N4) rfl rfl ?_
  show am_Rn _ _ ((Option.some FieldType.int)) am_J4 0 [some (.ref (a + 6)), none, none, none] [] (am_L0 q, G) _
  simp only [am_s4_0, am_s4_1, am_s4_2, am_s4_3, eq_self, am_os_some, Option.toList_some, Option.toList_none, List.cons_append, List.nil_append, if_true, if_false, true_and, am_nw1_i, am_nw1_r, am_nw1_n, cond_true]
  refine (hh _).mpr ?_
  simp only [am_s4_41, am_s4_42, eq_self, am_os_some, Option.toList_some, Option.toList_none, List.cons_append, List.nil_append, if_true, if_false, true_and, am_nw1_i, am_nw1_r, am_nw1_n, cond_true]
theorem am_m5 (hb : am_ispe a) (hS : am_cp a G S) {p : Nat} (hp : p < 8) : am_CD X (D + 1) 5 [.ref (a + 6), .int (nI p)] (am_L0 q, G) = some (some (.int (am_nt S p 8)), (am_L0 q, G)) := by
  have hl : ∀ (d k : Nat), k + d = 8 → ∀ o, am_Rn X D (some .int) am_J5 4 [some (.ref (a + 6)), some (.int (nI p)), some (.int (am_nt S p k)), some (.int (nI k))] [] (am_L0 q, G) o = am_Rn X D (some .int) am_J5 36 [some (.ref (a + 6)), some (.int (nI p)), some (.int (am_nt S p 8)), some (.int (nI 8))] [] (am_L0 q, G) o := by
    intro d
    induction d with
    | zero =>
      intro k hk o
      obtain rfl : k = 8 := by omega
      have h1 : ¬ nI 8 < 8 := by decide +kernel
      simp only [am_s5_4, am_s5_5, am_s5_7, h1, eq_self, am_os_some, Option.toList_some, Option.toList_none, List.cons_append, List.nil_append, if_true, if_false, true_and, am_nw1_i, am_nw1_r, am_nw1_n, cond_true]
    | succ d ih =>
      intro k hk o
      have hk8 : k < 8 := by omega
      have h1 : nI k < 8 := nI_lt hk8 (by decide)
      have hk1 : nI k + 1 = nI (k + 1) := nI_add k 1
      have hv1 := hS.2.1 k p hk8 hp
      have hv2 := hS.2.1 p k hp hk8
      simp only [am_s5_4, am_s5_5, am_s5_7, am_s5_10, am_s5_11, am_s5_12, am_s5_15, am_s5_16, am_s5_17, am_s5_18, am_s5_19, am_s5_20, am_s5_23, am_s5_24, am_s5_25, am_s5_26, am_s5_27, am_s5_28, am_s5_29, am_s5_30, h1, am_fa_d hb, am_ra hb hp, am_ra hb hk8, am_ad hb hp hk8, am_ad hb hk8 hp, hv1, hv2, eq_self, am_os_some, Option.toList_some, Option.toList_none, List.cons_append, List.nil_append, if_true, if_false, true_and, am_nw1_i, am_nw1_r, am_nw1_n, cond_true]
      rw [am_s5_33, hk1]
      exact ih (k + 1) (by omega) o
  refine am_CD_of (M := am_N5) rfl rfl ?_
  show am_Rn _ _ ((Option.some FieldType.int)) am_J5 0 [some (.ref (a + 6)), some (.int (nI p)), none, none] [] (am_L0 q, G) _
  simp only [am_s5_0, am_s5_1, am_s5_2, am_s5_3, eq_self, am_os_some, Option.toList_some, Option.toList_none, List.cons_append, List.nil_append, if_true, if_false, true_and, am_nw1_i, am_nw1_r, am_nw1_n, cond_true]
  refine (hl 8 0 rfl _).mpr ?_
  simp only [am_s5_36, am_s5_37, eq_self, am_os_some, Option.toList_some, Option.toList_none, List.cons_append, List.nil_append, if_true, if_false, true_and, am_nw1_i, am_nw1_r, am_nw1_n, cond_true]
end AMDE
