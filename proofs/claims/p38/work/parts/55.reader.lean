/-! the reader at work: small methods -/
def am_nx (B : Nat → Nat) (n i : Nat) : Int32 := if i < n then nI (B i) else -1
/-- draft L, place i, fault ft; the bytes -/
def am_rdr (B : Nat → Nat) (n : Nat) (G : am_G) (L : am_T) (i : Nat) (ft : Int32) : Prop := G 92 3 = nI i ∧ G 92 4 = ft ∧ G 93 4 = nI L.length ∧ (∀ j, j < L.length → G 94 j = nI (L.getD j (0, 0)).1 ∧ G 95 j = nI (L.getD j (0, 0)).2) ∧ G 97 1 = nI n ∧ (∀ j, j < n → G 98 j = nI (B j)) ∧ n ≤ 50 ∧ (∀ j, j < n → B j < 256)
def am_frr (G G' : am_G) : Prop := ∀ i j, i ≠ 92 → i ≠ 93 → i ≠ 94 → i ≠ 95 → G' i j = G i j
theorem am_frr.tr {G G1 G2 : am_G} (h1 : am_frr G G1) (h2 : am_frr G1 G2) : am_frr G G2 := fun i j a b c d => by rw [h2 i j a b c d, h1 i j a b c d]
theorem am_frr.rf (G : am_G) : am_frr G G := fun _ _ _ _ _ _ => rfl
/-- after a fault -/
def am_rdf (G : am_G) (i : Nat) : Prop := G 92 4 = nI i ∧ ∃ s, s ≤ 50 ∧ G 93 4 = nI s
theorem am_nx_eq {B : Nat → Nat} {n i c : Nat} (hB : ∀ j, j < n → B j < 256) (hc : c < 256) : am_nx B n i = nI c ↔ am_byt B n i = c := by
  unfold am_nx am_byt
  split
  · rename_i h
    have := hB i h
    exact nI_eq (by omega) (by omega)
  · refine ⟨fun h => ?_, fun h => by omega⟩
    have := congrArg Int32.toInt h
    rw [nI_toInt (by omega)] at this
    have e : (-1 : Int32).toInt = -1 := by decide +kernel
    rw [e] at this
    omega
def am_lvi (c : Nat) : Int32 := if am_lvl c < 5 then nI (am_lvl c) else -1
theorem am_lvi_eq {c l : Nat} (hl : l < 5) : am_lvi c = nI l ↔ am_lvl c = l := by
  unfold am_lvi
  split
  · exact nI_eq (by omega) (by omega)
  · refine ⟨fun h => ?_, fun h => by omega⟩
    have := congrArg Int32.toInt h
    rw [nI_toInt (by omega)] at this
    have e : (-1 : Int32).toInt = -1 := by decide +kernel
    rw [e] at this
    omega
theorem am_mul10 (v : Nat) : (10 : Int32) * nI v = nI (10 * v) := (Int32.ofNat_mul 10 v).symm
section AMRD
variable {X : am_X} {D q : Nat} {B : Nat → Nat} {n : Nat}
theorem am_93 : am_isl 93 := Or.inr (Or.inr (Or.inr (Or.inr rfl)))
theorem am_m41 {G : am_G} {L : am_T} {i : Nat} {ft : Int32} (h : am_rdr B n G L i ft) (hi : i ≤ n) : am_CD X (D + 1) 41 [.ref 92] (am_L0 q, G) = some (some (.int (am_nx B n i)), (am_L0 q, G)) := by
  obtain ⟨h1, -, -, -, h5, h6, h7, -⟩ := h
  have e1 : ¬ nI i < 0 := nI_pos (by omega)
  refine am_CD_of (M := am_N41) rfl rfl ?_
  show am_Rn _ _ ((Option.some FieldType.int)) am_J41 0 [some (.ref 92)] [] (am_L0 q, G) _
  unfold am_nx
  by_cases c : i < n
  · have e2 : nI i < nI n := nI_lt c (by omega)
    simp only [am_s41_0, am_s41_1, am_s41_4, am_s41_7, am_s41_8, am_s41_11, am_s41_12, am_s41_15, am_s41_18, am_s41_21, am_s41_22, am_s41_25, am_s41_28, am_s41_29, am_s41_32, am_s41_33, am_s41_36, am_s41_37, am_f92_3, am_f92_1, am_f97_0, am_f97_1, h1, h5, e1, e2, c, am_a98, am_in_nI (show i < 50 by omega) (by decide), nI_clamp (show i < 2 ^ 31 by omega), h6 i c, eq_self, am_os_some, Option.toList_some, Option.toList_none, List.cons_append, List.nil_append, if_true, if_false, true_and, am_nw1_i, am_nw1_r, am_nw1_n, cond_true]
  · have e2 : ¬ nI i < nI n := nI_nlt (by omega) (by omega)
    simp only [am_s41_0, am_s41_1, am_s41_4, am_s41_7, am_s41_8, am_s41_11, am_s41_12, am_s41_15, am_s41_18, am_s41_21, am_s41_22, am_s41_25, am_s41_28, am_s41_29, am_s41_32, am_s41_33, am_s41_36, am_s41_37, am_f92_3, am_f92_1, am_f97_0, am_f97_1, h1, h5, e1, e2, c, eq_self, am_os_some, Option.toList_some, Option.toList_none, List.cons_append, List.nil_append, if_true, if_false, true_and, am_nw1_i, am_nw1_r, am_nw1_n, cond_true]
theorem am_m46 {c : Nat} (hB : ∀ j, j < n → B j < 256) {i : Nat} {w : am_M} : am_CD X (D + 1) 46 [.int (am_nx B n i)] w = some (some (.int (am_bI (am_dig (am_byt B n i)))), w) := by
  refine am_CD_of (M := am_N46) rfl rfl ?_
  show am_Rn _ _ ((Option.some FieldType.boolean)) am_J46 0 [some (.int (am_nx B n i))] [] w _
  unfold am_nx am_byt
  by_cases c : i < n
  · rw [if_pos c, if_pos c]
    have hb := hB i c
    unfold am_dig
    by_cases c1 : 48 ≤ B i
    · have e1 : ¬ nI (B i) < 48 := nI_nlt (b := 48) c1 (by omega)
      have f1 : Nat.ble 48 (B i) = true := Nat.ble_eq_true_of_le c1
      by_cases c2 : B i ≤ 57
      · have e2 : nI (B i) ≤ 57 := nI_le (b := 57) c2 (by decide)
        have f2 : Nat.ble (B i) 57 = true := Nat.ble_eq_true_of_le c2
        simp only [am_s46_0, am_s46_1, am_s46_3, am_s46_6, am_s46_7, am_s46_9, am_s46_12, am_s46_13, am_s46_16, am_s46_17, e1, e2, f1, f2, Bool.and_self, am_bI, or_true, eq_self, am_os_some, Option.toList_some, Option.toList_none, List.cons_append, List.nil_append, if_true, if_false, true_and, am_nw1_i, am_nw1_r, am_nw1_n, cond_true]
      · have e2 : ¬ nI (B i) ≤ 57 := nI_ge (a := 57) (by omega) (by omega)
        have f2 : Nat.ble (B i) 57 = false := by
          cases h : Nat.ble (B i) 57 with
          | false => rfl
          | true => exact absurd (Nat.le_of_ble_eq_true h) c2
        simp only [am_s46_0, am_s46_1, am_s46_3, am_s46_6, am_s46_7, am_s46_9, am_s46_12, am_s46_13, am_s46_16, am_s46_17, e1, e2, f1, f2, Bool.and_false, am_bI, reduceCtorEq, true_or, eq_self, am_os_some, Option.toList_some, Option.toList_none, List.cons_append, List.nil_append, if_true, if_false, true_and, am_nw1_i, am_nw1_r, am_nw1_n, cond_true]
    · have e1 : nI (B i) < 48 := nI_lt (b := 48) (by omega) (by decide)
      have f1 : Nat.ble 48 (B i) = false := by
        cases h : Nat.ble 48 (B i) with
        | false => rfl
        | true => exact absurd (Nat.le_of_ble_eq_true h) c1
      simp only [am_s46_0, am_s46_1, am_s46_3, am_s46_6, am_s46_7, am_s46_9, am_s46_12, am_s46_13, am_s46_16, am_s46_17, e1, f1, Bool.false_and, am_bI, reduceCtorEq, true_or, eq_self, am_os_some, Option.toList_some, Option.toList_none, List.cons_append, List.nil_append, if_true, if_false, true_and, am_nw1_i, am_nw1_r, am_nw1_n, cond_true]
  · rw [if_neg c, if_neg c]
    have e1 : ((-1 : Int32) < 48) = True := by decide
    have f1 : am_dig 1000 = false := by decide
    simp only [am_s46_0, am_s46_1, am_s46_3, am_s46_6, am_s46_7, am_s46_9, am_s46_12, am_s46_13, am_s46_16, am_s46_17, e1, f1, am_bI, reduceCtorEq, true_or, eq_self, am_os_some, Option.toList_some, Option.toList_none, List.cons_append, List.nil_append, if_true, if_false, true_and, am_nw1_i, am_nw1_r, am_nw1_n, cond_true]
theorem am_lsw47 : ∀ c : Fin 256, am_lsw 1 (101) #[(37, 99), (38, 93), (42, 99), (43, 97), (45, 97), (47, 99), (60, 95), (61, 95), (62, 95), (124, 91)] (nI c.1) = some (if am_lvl c.1 = 0 then 92 else if am_lvl c.1 = 1 then 94 else if am_lvl c.1 = 2 then 96 else if am_lvl c.1 = 3 then 98 else if am_lvl c.1 = 4 then 100 else 102) := by decide +kernel
theorem am_m47 (hB : ∀ j, j < n → B j < 256) {i : Nat} {w : am_M} : am_CD X (D + 1) 47 [.int (am_nx B n i)] w = some (some (.int (am_lvi (am_byt B n i))), w) := by
  refine am_CD_of (M := am_N47) rfl rfl ?_
  show am_Rn _ _ ((Option.some FieldType.int)) am_J47 0 [some (.int (am_nx B n i))] [] w _
  unfold am_nx am_byt
  by_cases c : i < n
  · rw [if_pos c, if_pos c]
    have hb := hB i c
    have e := am_lsw47 ⟨B i, hb⟩
    dsimp only at e
    simp only [am_s47_0, am_s47_1, e, eq_self, am_os_some, Option.toList_some, Option.toList_none, List.cons_append, List.nil_append, if_true, if_false, true_and, am_nw1_i, am_nw1_r, am_nw1_n, cond_true]
    unfold am_lvi
    by_cases c0 : am_lvl (B i) = 0
    · simp only [c0, if_true, am_s47_92, am_s47_93, am_s47_94, am_s47_95, am_s47_96, am_s47_97, am_s47_98, am_s47_99, am_s47_100, am_s47_101, am_s47_102, am_s47_103, eq_self, am_os_some, Option.toList_some, Option.toList_none, List.cons_append, List.nil_append, if_true, if_false, true_and, am_nw1_i, am_nw1_r, am_nw1_n, cond_true]; rfl
    · by_cases c1 : am_lvl (B i) = 1
      · simp only [c1, Nat.reduceEqDiff, am_s47_92, am_s47_93, am_s47_94, am_s47_95, am_s47_96, am_s47_97, am_s47_98, am_s47_99, am_s47_100, am_s47_101, am_s47_102, am_s47_103, eq_self, am_os_some, Option.toList_some, Option.toList_none, List.cons_append, List.nil_append, if_true, if_false, true_and, am_nw1_i, am_nw1_r, am_nw1_n, cond_true]; rfl
      · by_cases c2 : am_lvl (B i) = 2
        · simp only [c2, Nat.reduceEqDiff, am_s47_92, am_s47_93, am_s47_94, am_s47_95, am_s47_96, am_s47_97, am_s47_98, am_s47_99, am_s47_100, am_s47_101, am_s47_102, am_s47_103, eq_self, am_os_some, Option.toList_some, Option.toList_none, List.cons_append, List.nil_append, if_true, if_false, true_and, am_nw1_i, am_nw1_r, am_nw1_n, cond_true]; rfl
        · by_cases c3 : am_lvl (B i) = 3
          · simp only [c3, Nat.reduceEqDiff, am_s47_92, am_s47_93, am_s47_94, am_s47_95, am_s47_96, am_s47_97, am_s47_98, am_s47_99, am_s47_100, am_s47_101, am_s47_102, am_s47_103, eq_self, am_os_some, Option.toList_some, Option.toList_none, List.cons_append, List.nil_append, if_true, if_false, true_and, am_nw1_i, am_nw1_r, am_nw1_n, cond_true]; rfl
          · by_cases c4 : am_lvl (B i) = 4
            · simp only [c4, Nat.reduceEqDiff, am_s47_92, am_s47_93, am_s47_94, am_s47_95, am_s47_96, am_s47_97, am_s47_98, am_s47_99, am_s47_100, am_s47_101, am_s47_102, am_s47_103, eq_self, am_os_some, Option.toList_some, Option.toList_none, List.cons_append, List.nil_append, if_true, if_false, true_and, am_nw1_i, am_nw1_r, am_nw1_n, cond_true]; rfl
            · have c5 : ¬ am_lvl (B i) < 5 := by omega
              simp only [c0, c1, c2, c3, c4, c5, am_s47_92, am_s47_93, am_s47_94, am_s47_95, am_s47_96, am_s47_97, am_s47_98, am_s47_99, am_s47_100, am_s47_101, am_s47_102, am_s47_103, eq_self, am_os_some, Option.toList_some, Option.toList_none, List.cons_append, List.nil_append, if_true, if_false, true_and, am_nw1_i, am_nw1_r, am_nw1_n, cond_true]
  · rw [if_neg c, if_neg c]
    have e : am_lsw 1 (101) #[(37, 99), (38, 93), (42, 99), (43, 97), (45, 97), (47, 99), (60, 95), (61, 95), (62, 95), (124, 91)] (-1) = some 102 := by decide +kernel
    have f : am_lvi 1000 = -1 := by decide +kernel
    simp only [am_s47_0, am_s47_1, am_s47_92, am_s47_93, am_s47_94, am_s47_95, am_s47_96, am_s47_97, am_s47_98, am_s47_99, am_s47_100, am_s47_101, am_s47_102, am_s47_103, e, f, eq_self, am_os_some, Option.toList_some, Option.toList_none, List.cons_append, List.nil_append, if_true, if_false, true_and, am_nw1_i, am_nw1_r, am_nw1_n, cond_true]
/-- a sign more in the draft -/
theorem am_m15 {G : am_G} {L : am_T} {i : Nat} {ft : Int32} (h : am_rdr B n G L i ft) (hL : L.length < 50) (s v : Nat) : ∃ G' : am_G, am_frr G G' ∧ am_rdr B n G' (L ++ [(s, v)]) i ft ∧ am_CD X (D + 1) 15 [.ref 93, .int (nI s), .int (nI v)] (am_L0 q, G) = some (none, (am_L0 q, G')) := by
  obtain ⟨h1, h2, h3, h4, h5, h6, h7, h8⟩ := h
  have e1 : nI L.length < Int32.ofNat 50 := nI_lt hL (by decide)
  have s1 : nI L.length + 1 = nI (L.length + 1) := nI_add _ 1
  refine ⟨am_up (am_up (am_up G 94 L.length (nI s)) 95 L.length (nI v)) 93 4 (nI (L.length + 1)), fun i j a b c d => by rw [am_up_get, if_neg b, am_up_get, if_neg d, am_up_get, if_neg c], ⟨?_, ?_, ?_, fun j hj => ?_, ?_, fun j hj => ?_, h7, h8⟩, ?_⟩
  · rw [am_up_get, if_neg (by decide), am_up_get, if_neg (by decide), am_up_get, if_neg (by decide)]; exact h1
  · rw [am_up_get, if_neg (by decide), am_up_get, if_neg (by decide), am_up_get, if_neg (by decide)]; exact h2
  · rw [am_up_get, if_pos rfl, if_pos rfl, List.length_append]; rfl
  · rw [List.length_append, List.length_singleton] at hj
    simp only [am_up_get, Nat.reduceEqDiff, if_true, if_false]
    by_cases e : j = L.length
    · subst e
      rw [if_pos rfl, if_pos rfl, List.getD_eq_getElem?_getD, List.getElem?_append_right (Nat.le_refl _), Nat.sub_self]
      exact ⟨rfl, rfl⟩
    · rw [if_neg e, if_neg e, List.getD_eq_getElem?_getD, List.getElem?_append_left (by omega), ← List.getD_eq_getElem?_getD]
      exact h4 j (by omega)
  · rw [am_up_get, if_neg (by decide), am_up_get, if_neg (by decide), am_up_get, if_neg (by decide)]; exact h5
  · rw [am_up_get, if_neg (by decide), am_up_get, if_neg (by decide), am_up_get, if_neg (by decide)]; exact h6 j hj
  · refine am_CD_of (M := am_N15) rfl rfl ?_
    show am_Rn _ _ none am_J15 0 [some (.ref 93), some (.int (nI s)), some (.int (nI v))] [] (am_L0 q, G) _
    simp only [am_s15_0, am_s15_1, am_s15_4, am_s15_5, am_s15_8, am_s15_9, am_s15_12, am_s15_13, am_s15_14, am_s15_17, am_s15_18, am_s15_21, am_s15_22, am_s15_23, am_s15_24, am_s15_27, am_s15_28, am_s15_31, am_s15_32, am_s15_33, am_s15_34, am_s15_34a, am_s15_35, am_s15_38, am_s15_39, am_s15_40, am_s15_43, am_f93_1, am_f93_2, am_f93_4, am_p93_4, am_n94, h3, e1, am_t94, am_t95, am_in_nI hL (by decide), nI_clamp (show L.length < 2 ^ 31 by omega), am_up_get, Nat.reduceEqDiff, s1, eq_self, am_os_some, Option.toList_some, Option.toList_none, List.cons_append, List.nil_append, if_true, if_false, true_and, am_nw1_i, am_nw1_r, am_nw1_n, cond_true]
/-- after a fault -/
theorem am_m15f {G : am_G} {i : Nat} (h : am_rdf G i) (s v : Int32) : ∃ G' : am_G, am_frr G G' ∧ am_rdf G' i ∧ am_CD X (D + 1) 15 [.ref 93, .int s, .int v] (am_L0 q, G) = some (none, (am_L0 q, G')) := by
  obtain ⟨h1, k, h2, h3⟩ := h
  by_cases c : k < 50
  · have e1 : nI k < Int32.ofNat 50 := nI_lt c (by decide)
    have s1 : nI k + 1 = nI (k + 1) := nI_add _ 1
    refine ⟨am_up (am_up (am_up G 94 k s) 95 k v) 93 4 (nI (k + 1)), fun i j a b c d => by rw [am_up_get, if_neg b, am_up_get, if_neg d, am_up_get, if_neg c], ⟨?_, k + 1, by omega, ?_⟩, ?_⟩
    · rw [am_up_get, if_neg (by decide), am_up_get, if_neg (by decide), am_up_get, if_neg (by decide)]; exact h1
    · rw [am_up_get, if_pos rfl, if_pos rfl]
    · refine am_CD_of (M := am_N15) rfl rfl ?_
      show am_Rn _ _ none am_J15 0 [some (.ref 93), some (.int s), some (.int v)] [] (am_L0 q, G) _
      simp only [am_s15_0, am_s15_1, am_s15_4, am_s15_5, am_s15_8, am_s15_9, am_s15_12, am_s15_13, am_s15_14, am_s15_17, am_s15_18, am_s15_21, am_s15_22, am_s15_23, am_s15_24, am_s15_27, am_s15_28, am_s15_31, am_s15_32, am_s15_33, am_s15_34, am_s15_34a, am_s15_35, am_s15_38, am_s15_39, am_s15_40, am_s15_43, am_f93_1, am_f93_2, am_f93_4, am_p93_4, am_n94, h3, e1, am_t94, am_t95, am_in_nI c (by decide), nI_clamp (show k < 2 ^ 31 by omega), am_up_get, Nat.reduceEqDiff, s1, eq_self, am_os_some, Option.toList_some, Option.toList_none, List.cons_append, List.nil_append, if_true, if_false, true_and, am_nw1_i, am_nw1_r, am_nw1_n, cond_true]
  · have e1 : ¬ nI k < Int32.ofNat 50 := nI_nlt (b := 50) (by omega) (by omega)
    refine ⟨G, am_frr.rf G, ⟨h1, k, h2, h3⟩, ?_⟩
    refine am_CD_of (M := am_N15) rfl rfl ?_
    show am_Rn _ _ none am_J15 0 [some (.ref 93), some (.int s), some (.int v)] [] (am_L0 q, G) _
    simp only [am_s15_0, am_s15_1, am_s15_4, am_s15_5, am_s15_8, am_s15_9, am_s15_12, am_s15_13, am_s15_14, am_s15_17, am_s15_18, am_s15_21, am_s15_22, am_s15_23, am_s15_24, am_s15_27, am_s15_28, am_s15_31, am_s15_32, am_s15_33, am_s15_34, am_s15_34a, am_s15_35, am_s15_38, am_s15_39, am_s15_40, am_s15_43, am_f93_1, am_f93_4, am_n94, h3, e1, eq_self, am_os_some, Option.toList_some, Option.toList_none, List.cons_append, List.nil_append, if_true, if_false, true_and, am_nw1_i, am_nw1_r, am_nw1_n, cond_true]
/-- the place is one further -/
theorem am_rdr_at {G : am_G} {L : am_T} {i : Nat} {ft : Int32} (h : am_rdr B n G L i ft) : am_rdr B n (am_up G 92 3 (nI (i + 1))) L (i + 1) ft := by
  obtain ⟨h1, h2, h3, h4, h5, h6, h7, h8⟩ := h
  refine ⟨by rw [am_up_get, if_pos rfl, if_pos rfl], by rw [am_up_get, if_pos rfl, if_neg (by decide)]; exact h2, by rw [am_up_get, if_neg (by decide)]; exact h3, fun j hj => ?_, by rw [am_up_get, if_neg (by decide)]; exact h5, fun j hj => by rw [am_up_get, if_neg (by decide)]; exact h6 j hj, h7, h8⟩
  rw [am_up_get, if_neg (by decide), am_up_get, if_neg (by decide)]
  exact h4 j hj
theorem am_frr_at (G : am_G) (j : Nat) (x : Int32) : am_frr G (am_up G 92 j x) := fun i k a _ _ _ => by rw [am_up_get, if_neg a]
theorem am_m45 {G : am_G} {L : am_T} {i : Nat} (h : am_rdr B n G L i (-1)) (hi : i ≤ n) (hL : L.length < 50) : ∃ G' : am_G, am_frr G G' ∧ am_rdr B n G' (L ++ [(48, (am_num B n 4 i 0).1)]) (am_num B n 4 i 0).2 (-1) ∧ am_CD X (D + 2) 45 [.ref 92] (am_L0 q, G) = some (none, (am_L0 q, G')) := by
  have hB := h.2.2.2.2.2.2.2
  have hl : ∀ (d k i v : Nat) (G : am_G), k + d = 4 → i ≤ n → v < 10 ^ k → am_rdr B n G L i (-1) → ∃ G' : am_G, am_frr G G' ∧ am_rdr B n G' (L ++ [(48, (am_num B n d i v).1)]) (am_num B n d i v).2 (-1) ∧ am_Rn X (D + 1) none am_J45 4 [some (.ref 92), some (.int (nI v)), some (.int (nI k))] [] (am_L0 q, G) (none, (am_L0 q, G')) := by
    intro d
    induction d with
    | zero =>
      intro k i v G hk hi hv h
      obtain rfl : k = 4 := by omega
      have h1 : ¬ nI 4 < 4 := by decide +kernel
      obtain ⟨G', f, c, g⟩ := am_m15 (X := X) (D := D) (q := q) h hL 48 v
      have g' : am_CD X (D + 1) 15 [.ref 93, .int 48, .int (nI v)] (am_L0 q, G) = some (none, (am_L0 q, G')) := g
      refine ⟨G', f, c, ?_⟩
      simp only [am_s45_4, am_s45_5, am_s45_6, am_s45_48, am_s45_49, am_s45_52, am_s45_54, am_s45_55, am_s45_58, h1, am_f92_0, am_cal_ok am_cat_0 am_v93 (g'), eq_self, am_os_some, Option.toList_some, Option.toList_none, List.cons_append, List.nil_append, if_true, if_false, true_and, am_nw1_i, am_nw1_r, am_nw1_n, cond_true]
    | succ d ih =>
      intro k i v G hk hi hv h
      have h1 : nI k < 4 := nI_lt (show k < 4 by omega) (by decide)
      have hi1 : nI k + 1 = nI (k + 1) := nI_add k 1
      have g1 := am_m41 (X := X) (D := D) (q := q) h hi
      have g2 := am_m46 (X := X) (D := D) (c := 0) hB (i := i) (w := (am_L0 q, G))
      have e10 : ((1 : Int32) = 0) = False := by decide
      have hat : G 92 3 = nI i := h.1
      unfold am_num
      cases hd : am_dig (am_byt B n i) with
      | true =>
        rw [hd] at g2
        have hc := am_dig_lt hd
        have hnx : am_nx B n i = nI (am_byt B n i) := (am_nx_eq hB (by omega)).mpr rfl
        have s1 : nI (10 * v) + nI (am_byt B n i) - 48 = nI (10 * v + (am_byt B n i - 48)) := by
          rw [nI_add, show (48 : Int32) = nI 48 from rfl, am_sub (by omega)]
          exact congrArg nI (by omega)
        have s2 : nI i + 1 = nI (i + 1) := nI_add i 1
        have hp : 10 * v + (am_byt B n i - 48) < 10 ^ (k + 1) := by rw [Nat.pow_succ]; omega
        obtain ⟨G', f, c, g⟩ := ih (k + 1) (i + 1) (10 * v + (am_byt B n i - 48)) _ (by omega) (by omega) hp (am_rdr_at h)
        refine ⟨G', (am_frr_at G 3 _).tr f, c, ?_⟩
        rw [hnx] at g1 g2
        simp only [am_s45_4, am_s45_5, am_s45_6, am_s45_9, am_s45_10, am_s45_13, am_s45_16, am_s45_19, am_s45_21, am_s45_22, am_s45_23, am_s45_24, am_s45_27, am_s45_28, am_s45_30, am_s45_31, am_s45_32, am_s45_33, am_s45_33a, am_s45_34, am_s45_37, am_s45_38, am_s45_39, am_s45_42, h1, am_cal_ok am_cat_0 am_v92 (g1), am_cal_ok am_cat_0 am_rcv_f (g2), am_bI, e10, am_mul10, am_cal_ok (am_cat_1 _) am_v92 (g1), s1, am_f92_3, am_p92_3, hat, s2, eq_self, am_os_some, Option.toList_some, Option.toList_none, List.cons_append, List.nil_append, if_true, if_false, true_and, am_nw1_i, am_nw1_r, am_nw1_n, cond_true]
        rw [am_s45_45, hi1]
        exact g
      | false =>
        rw [hd] at g2
        obtain ⟨G', f, c, g⟩ := am_m15 (X := X) (D := D) (q := q) h hL 48 v
        have g' : am_CD X (D + 1) 15 [.ref 93, .int 48, .int (nI v)] (am_L0 q, G) = some (none, (am_L0 q, G')) := g
        refine ⟨G', f, c, ?_⟩
        simp only [am_s45_4, am_s45_5, am_s45_6, am_s45_9, am_s45_10, am_s45_13, am_s45_16, am_s45_48, am_s45_49, am_s45_52, am_s45_54, am_s45_55, am_s45_58, h1, am_cal_ok am_cat_0 am_v92 (g1), am_cal_ok am_cat_0 am_rcv_f (g2), am_bI, reduceCtorEq, am_f92_0, am_cal_ok am_cat_0 am_v93 (g'), eq_self, am_os_some, Option.toList_some, Option.toList_none, List.cons_append, List.nil_append, if_true, if_false, true_and, am_nw1_i, am_nw1_r, am_nw1_n, cond_true]
  obtain ⟨G', f, c, g⟩ := hl 4 0 i 0 G rfl hi (by decide) h
  refine ⟨G', f, c, ?_⟩
  refine am_CD_of (M := am_N45) rfl rfl ?_
  show am_Rn _ _ none am_J45 0 [some (.ref 92), none, none] [] (am_L0 q, G) _
  simp only [am_s45_0, am_s45_1, am_s45_2, am_s45_3, eq_self, am_os_some, Option.toList_some, Option.toList_none, List.cons_append, List.nil_append, if_true, if_false, true_and, am_nw1_i, am_nw1_r, am_nw1_n, cond_true]
  exact g
end AMRD
