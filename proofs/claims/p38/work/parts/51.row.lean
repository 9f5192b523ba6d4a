/-! rows that grow (THE TAPE, the numbers that wait, THE TRACE, the reader's bytes); the class -/
def am_isw (r n : Nat) : Prop := (r = 26 ∧ n = 50) ∨ (r = 28 ∧ n = 20) ∨ (r = 55 ∧ n = 50) ∨ (r = 57 ∧ n = 20) ∨ (r = 97 ∧ n = 50) ∨ (r = 102 ∧ n = 40)
def am_crw (G : am_G) (r : Nat) (L : List Int32) : Prop := G r 1 = nI L.length ∧ ∀ i, i < L.length → G (r + 1) i = L.getD i 0
theorem am_crw_fr {G G' : am_G} {r : Nat} {L : List Int32} (h : am_crw G r L) (hf : ∀ j, G' r j = G r j ∧ G' (r + 1) j = G (r + 1) j) : am_crw G' r L :=
  ⟨by rw [(hf 1).1]; exact h.1, fun i hi => by rw [(hf i).2]; exact h.2 i hi⟩
theorem am_getD_snoc (L : List Int32) (v : Int32) (i : Nat) (hi : i < L.length + 1) : (L ++ [v]).getD i 0 = if i = L.length then v else L.getD i 0 := by
  by_cases e : i = L.length
  · subst e
    rw [if_pos rfl, List.getD_eq_getElem?_getD, List.getElem?_append_right (Nat.le_refl _), Nat.sub_self]
    rfl
  · rw [if_neg e, List.getD_eq_getElem?_getD, List.getElem?_append_left (by omega), ← List.getD_eq_getElem?_getD]
section AMRW
variable {X : am_X} {D q r n : Nat} {G : am_G}
theorem am_fw_0 (h : am_isw r n) : am_fld (am_L0 q, G) r 4 0 = some (.ref (r + 1)) := by rcases h with ⟨rfl, rfl⟩ | ⟨rfl, rfl⟩ | ⟨rfl, rfl⟩ | ⟨rfl, rfl⟩ | ⟨rfl, rfl⟩ | ⟨rfl, rfl⟩ <;> rfl
theorem am_fw_1 (h : am_isw r n) : am_fld (am_L0 q, G) r 4 1 = some (.int (G r 1)) := by rcases h with ⟨rfl, rfl⟩ | ⟨rfl, rfl⟩ | ⟨rfl, rfl⟩ | ⟨rfl, rfl⟩ | ⟨rfl, rfl⟩ | ⟨rfl, rfl⟩ <;> rfl
theorem am_pw_1 {x : Int32} (h : am_isw r n) : am_putM (am_L0 q, G) r 4 1 (.int x) = some (am_L0 q, am_up G r 1 x) := by rcases h with ⟨rfl, rfl⟩ | ⟨rfl, rfl⟩ | ⟨rfl, rfl⟩ | ⟨rfl, rfl⟩ | ⟨rfl, rfl⟩ | ⟨rfl, rfl⟩ <;> rfl
theorem am_vw {as : List Value} (h : am_isw r n) : am_rcv true 4 (.ref r :: as) (am_L0 q, G) = true := by rcases h with ⟨rfl, rfl⟩ | ⟨rfl, rfl⟩ | ⟨rfl, rfl⟩ | ⟨rfl, rfl⟩ | ⟨rfl, rfl⟩ | ⟨rfl, rfl⟩ <;> rfl
theorem am_lw (h : am_isw r n) : (am_L0 q)[r + 1]? = some (.inr (.inl n)) := by rcases h with ⟨rfl, rfl⟩ | ⟨rfl, rfl⟩ | ⟨rfl, rfl⟩ | ⟨rfl, rfl⟩ | ⟨rfl, rfl⟩ | ⟨rfl, rfl⟩ <;> rfl
theorem am_isw_n (h : am_isw r n) : n ≤ 50 := by rcases h with ⟨rfl, rfl⟩ | ⟨rfl, rfl⟩ | ⟨rfl, rfl⟩ | ⟨rfl, rfl⟩ | ⟨rfl, rfl⟩ | ⟨rfl, rfl⟩ <;> decide
theorem am_aw {i : Nat} (h : am_isw r n) (hi : i < n) : am_ald X (am_L0 q, G) (r + 1) (nI i) = some (G (r + 1) i) := by
  have := am_isw_n h
  unfold am_ald
  simp only [am_lw h, am_in_nI hi (by omega), cond_true, nI_clamp (show i < 2 ^ 31 by omega)]
theorem am_tww {i : Nat} {x : Int32} (h : am_isw r n) (hi : i < n) : am_astM (am_L0 q, G) (r + 1) (nI i) x = some (am_L0 q, am_up G (r + 1) i x) := by
  have := am_isw_n h
  unfold am_astM
  simp only [am_lw h, am_in_nI hi (by omega), cond_true, nI_clamp (show i < 2 ^ 31 by omega)]
theorem am_nw_n (h : am_isw r n) : am_len X (am_L0 q, G) (r + 1) = some n := by
  unfold am_len
  simp only [am_lw h]
theorem am_m49 {L : List Int32} (h : am_isw r n) (hL : am_crw G r L) (hn : L.length < n) (v : Int32) : ∃ G' : am_G, (∀ i j, i ≠ r → i ≠ r + 1 → G' i j = G i j) ∧ am_crw G' r (L ++ [v]) ∧ am_CD X (D + 1) 49 [.ref r, .int v] (am_L0 q, G) = some (none, (am_L0 q, G')) := by
  have hn5 := am_isw_n h
  obtain ⟨h1, h2⟩ := hL
  have s1 : nI L.length + 1 = nI (L.length + 1) := nI_add _ 1
  refine ⟨am_up (am_up G (r + 1) L.length v) r 1 (nI (L.length + 1)), fun i j a b => by rw [am_up_get, if_neg a, am_up_get, if_neg b], ⟨?_, fun i hi => ?_⟩, ?_⟩
  · rw [am_up_get, if_pos rfl, if_pos rfl, List.length_append]
    rfl
  · rw [List.length_append, List.length_singleton] at hi
    rw [am_up_get, if_neg (by omega), am_up_get, if_pos rfl, am_getD_snoc _ _ _ hi]
    split
    · rfl
    · exact h2 i (by omega)
  · have e1 : ¬ nI L.length < 0 := nI_pos (by omega)
    have e2 : nI L.length < Int32.ofNat n := nI_lt hn (by omega)
    have e3 : am_up G (r + 1) L.length v r 1 = nI L.length := by rw [am_up_get, if_neg (by omega)]; exact h1
    refine am_CD_of (M := am_N49) rfl rfl ?_
    show am_Rn _ _ none am_J49 0 [some (.ref r), some (.int v)] [] (am_L0 q, G) _
    simp only [am_s49_0, am_s49_1, am_s49_4, am_s49_7, am_s49_8, am_s49_11, am_s49_12, am_s49_15, am_s49_16, am_s49_19, am_s49_20, am_s49_21, am_s49_24, am_s49_25, am_s49_28, am_s49_29, am_s49_30, am_s49_31, am_s49_31a, am_s49_32, am_s49_35, am_s49_36, am_s49_37, am_s49_40, am_fw_0 h, am_fw_1 h, am_pw_1 h, am_nw_n h, h1, e1, e2, e3, am_tww h hn, s1, eq_self, am_os_some, Option.toList_some, Option.toList_none, List.cons_append, List.nil_append, if_true, if_false, true_and, am_nw1_i, am_nw1_r, am_nw1_n, cond_true]
theorem am_m50 {o : Nat} {L : List Int32} (h : am_isw r n) (ho : am_isw o n) (hro : r + 2 ≤ o ∨ o + 2 ≤ r) (hL : am_crw G o L) (hn : L.length ≤ n) : ∃ G' : am_G, (∀ i j, i ≠ r → i ≠ r + 1 → G' i j = G i j) ∧ am_crw G' r L ∧ am_CD X (D + 2) 50 [.ref r, .ref o] (am_L0 q, G) = some (none, (am_L0 q, G')) := by
  have hn5 := am_isw_n h
  have hl : ∀ (d k : Nat) (G : am_G), k + d = L.length → am_crw G o L → am_crw G r (L.take k) → ∃ G' : am_G, (∀ i j, i ≠ r → i ≠ r + 1 → G' i j = G i j) ∧ am_crw G' r L ∧ am_Rn X (D + 1) none am_J50 7 [some (.ref r), some (.ref o), some (.int (nI k))] [] (am_L0 q, G) (none, (am_L0 q, G')) := by
    intro d
    induction d with
    | zero =>
      intro k G hk hL hr
      obtain rfl : k = L.length := by omega
      rw [List.take_length] at hr
      have h1 : ¬ nI L.length < nI L.length := Int32.lt_irrefl
      refine ⟨G, fun _ _ _ _ => rfl, hr, ?_⟩
      simp only [am_s50_7, am_s50_8, am_s50_9, am_s50_12, am_s50_40, am_fw_1 ho, hL.1, h1, eq_self, am_os_some, Option.toList_some, Option.toList_none, List.cons_append, List.nil_append, if_true, if_false, true_and, am_nw1_i, am_nw1_r, am_nw1_n, cond_true]
    | succ d ih =>
      intro k G hk hL hr
      have hk2 : k < L.length := by omega
      have h1 : nI k < nI L.length := nI_lt hk2 (by omega)
      have h2 : nI k < Int32.ofNat n := nI_lt (show k < n by omega) (by omega)
      have hi : nI k + 1 = nI (k + 1) := nI_add k 1
      obtain ⟨G1, f1, c1, g1⟩ := am_m49 (X := X) (D := D) (q := q) h hr (by rw [List.length_take]; omega) (L.getD k 0)
      have et : L.take k ++ [L.getD k 0] = L.take (k + 1) := by
        rw [List.take_succ_eq_append_getElem hk2, List.getD_eq_getElem?_getD, List.getElem?_eq_getElem hk2]
        rfl
      rw [et] at c1
      have hL1 : am_crw G1 o L := am_crw_fr hL fun j => ⟨f1 o j (by omega) (by omega), f1 (o + 1) j (by omega) (by omega)⟩
      obtain ⟨G', f2, c2, g2⟩ := ih (k + 1) G1 (by omega) hL1 c1
      refine ⟨G', fun i j a b => by rw [f2 i j a b, f1 i j a b], c2, ?_⟩
      simp only [am_s50_7, am_s50_8, am_s50_9, am_s50_12, am_s50_15, am_s50_16, am_s50_17, am_s50_20, am_s50_21, am_s50_24, am_s50_25, am_s50_26, am_s50_29, am_s50_30, am_s50_31, am_s50_34, am_fw_0 ho, am_fw_1 ho, hL.1, h1, am_nw_n ho, h2, am_aw ho (show k < n by omega), hL.2 k hk2, am_cal_ok am_cat_0 (am_vw h) (g1), eq_self, am_os_some, Option.toList_some, Option.toList_none, List.cons_append, List.nil_append, if_true, if_false, true_and, am_nw1_i, am_nw1_r, am_nw1_n, cond_true]
      rw [am_s50_37, hi]
      exact g2
  obtain ⟨G', f, c, g⟩ := hl L.length 0 (am_up G r 1 0) (by omega) (am_crw_fr hL fun j => ⟨by rw [am_up_get, if_neg (by omega)], by rw [am_up_get, if_neg (by omega)]⟩) ⟨by rw [am_up_get, if_pos rfl, if_pos rfl]; rfl, fun i hi => by simp at hi⟩
  refine ⟨G', fun i j a b => by rw [f i j a b, am_up_get, if_neg a], c, ?_⟩
  refine am_CD_of (M := am_N50) rfl rfl ?_
  show am_Rn _ _ none am_J50 0 [some (.ref r), some (.ref o), none] [] (am_L0 q, G) _
  simp only [am_s50_0, am_s50_1, am_s50_2, am_s50_5, am_s50_6, am_pw_1 h, eq_self, am_os_some, Option.toList_some, Option.toList_none, List.cons_append, List.nil_append, if_true, if_false, true_and, am_nw1_i, am_nw1_r, am_nw1_n, cond_true]
  exact g
end AMRW
