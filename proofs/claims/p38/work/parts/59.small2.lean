/-! more of the class's small methods -/
/-- a reading: the signs, or where the fault is -/
def am_rdt (u : Nat) (B : Nat → Nat) (n : Nat) : Option am_T × Nat := match am_pr u B n 500 0 0 0 with
  | some (T, i, true) => if i = n then (some T, 0) else (none, i)
  | some (_, i, false) => (none, i)
  | none => (none, 0)
theorem am_rdt_wt {u : Nat} {B : Nat → Nat} {n : Nat} {T : am_T} (h : (am_rdt u B n).1 = some T) : am_wt T := by
  unfold am_rdt at h
  split at h
  · rename_i T1 i hp
    split at h
    · cases h
      obtain ⟨-, -, -, h4⟩ := am_pr_ok 500 0 0 0 _ (Nat.zero_le _) (by decide) hp
      obtain ⟨-, -, h5, h6, -⟩ := h4 rfl
      refine Or.inr ⟨h5, fun a b c => ?_⟩
      obtain ⟨v, e⟩ := h6 (by decide) a b c
      exact ⟨v, e []⟩
    · cases h
  · cases h
  · cases h
theorem am_rdt_le {u : Nat} {B : Nat → Nat} {n : Nat} (hn : n ≤ 50) : (am_rdt u B n).2 ≤ 50 := by
  unfold am_rdt
  split
  · rename_i T1 i hp
    have h1 := (am_pr_ok 500 0 0 0 _ (Nat.zero_le _) (by decide) hp).2.1
    dsimp only at h1
    split
    · exact Nat.zero_le _
    · show i ≤ 50; omega
  · rename_i T1 i hp
    have h1 := (am_pr_ok 500 0 0 0 _ (Nat.zero_le _) (by decide) hp).2.1
    dsimp only at h1
    show i ≤ 50; omega
  · exact Nat.zero_le _
section AMS2
variable {X : am_X} {D q : Nat} {G : am_G}
theorem am_m13 {l u : Nat} (hl : am_isl l) (hu : u < 2) (h : G l 0 = nI u) : am_CD X (D + 1) 13 [.ref l] (am_L0 q, G) = some (some (.ref (1001 + u)), (am_L0 q, G)) := by
  refine am_CD_of (M := am_N13) rfl rfl ?_
  show am_Rn _ _ ((Option.some (FieldType.object "java/lang/String"))) am_J13 0 [some (.ref l)] [] (am_L0 q, G) _
  match u, hu with
  | 0, _ =>
    have e : (nI 0 = 0) = True := by decide
    simp only [am_s13_0, am_s13_1, am_s13_4, am_s13_7, am_s13_9, am_s13_12, am_s13_14, am_fl_0 hl, h, e, not_true_eq_false, eq_self, am_os_some, Option.toList_some, Option.toList_none, List.cons_append, List.nil_append, if_true, if_false, true_and, am_nw1_i, am_nw1_r, am_nw1_n, cond_true]
  | 1, _ =>
    have e : (nI 1 = 0) = False := by decide
    simp only [am_s13_0, am_s13_1, am_s13_4, am_s13_7, am_s13_9, am_s13_12, am_s13_14, am_fl_0 hl, h, e, not_false_eq_true, eq_self, am_os_some, Option.toList_some, Option.toList_none, List.cons_append, List.nil_append, if_true, if_false, true_and, am_nw1_i, am_nw1_r, am_nw1_n, cond_true]
theorem am_m75 {u : Nat} (hu : u < 2) : am_CD X (D + 1) 75 [.ref 1, .int (nI u)] (am_L0 q, G) = some (some (.ref (if u = 0 then 2 else 6)), (am_L0 q, G)) := by
  refine am_CD_of (M := am_N75) rfl rfl ?_
  show am_Rn _ _ ((Option.some (FieldType.object "WellRefuses$Law"))) am_J75 0 [some (.ref 1), some (.int (nI u))] [] (am_L0 q, G) _
  match u, hu with
  | 0, _ =>
    have e : (nI 0 = 0) = True := by decide
    simp only [am_s75_0, am_s75_1, am_s75_4, am_s75_5, am_s75_8, am_s75_11, am_s75_12, am_s75_15, am_f1_0, am_f1_1, e, not_true_eq_false, eq_self, am_os_some, Option.toList_some, Option.toList_none, List.cons_append, List.nil_append, if_true, if_false, true_and, am_nw1_i, am_nw1_r, am_nw1_n, cond_true]
  | 1, _ =>
    have e : (nI 1 = 0) = False := by decide
    have e2 : ((1 : Nat) = 0) = False := by decide
    simp only [am_s75_0, am_s75_1, am_s75_4, am_s75_5, am_s75_8, am_s75_11, am_s75_12, am_s75_15, am_f1_0, am_f1_1, e, e2, not_false_eq_true, eq_self, am_os_some, Option.toList_some, Option.toList_none, List.cons_append, List.nil_append, if_true, if_false, true_and, am_nw1_i, am_nw1_r, am_nw1_n, cond_true]
theorem am_m14 : am_CD X (D + 1) 14 [.ref 93] (am_L0 q, G) = some (none, (am_L0 q, am_up G 93 4 0)) := by
  refine am_CD_of (M := am_N14) rfl rfl ?_
  show am_Rn _ _ none am_J14 0 [some (.ref 93)] [] (am_L0 q, G) _
  simp only [am_s14_0, am_s14_1, am_s14_2, am_s14_5, am_p93_4, eq_self, am_os_some, Option.toList_some, Option.toList_none, List.cons_append, List.nil_append, if_true, if_false, true_and, am_nw1_i, am_nw1_r, am_nw1_n, cond_true]
theorem am_m40 {l u n : Nat} {B : Nat → Nat} {T : am_T} (hl : l = 2 ∨ l = 6) (hu : u < 2) (hT : am_cw l u G T) (hb : am_tap 1 G (B, n)) (hn : n ≤ 50) (hB : ∀ j, j < n → B j < 256) : ∃ G' : am_G, (∀ i j, ¬ (92 ≤ i ∧ i < 99) → ¬ (l ≤ i ∧ i < l + 3) → G' i j = G i j) ∧ am_cw l u G' ((am_rdt u B n).1.getD T) ∧ am_CD X (D + 60) 40 [.ref 92, .ref 26, .ref l] (am_L0 q, G) = some (some (.int (if (am_rdt u B n).1.isSome = true then -1 else nI (am_rdt u B n).2)), (am_L0 (1001 + u), G')) := by
  have hli : am_isl l := by rcases hl with rfl | rfl; exact Or.inl rfl; exact Or.inr (Or.inl rfl)
  have hl9 : l < 92 - 4 := by rcases hl with rfl | rfl <;> decide
  have r26 : am_isw 26 50 := Or.inl ⟨rfl, rfl⟩
  have r97 : am_isw 97 50 := Or.inr (Or.inr (Or.inr (Or.inr (Or.inl ⟨rfl, rfl⟩))))
  have hrow : ∀ (L : List Int32), L = (List.range n).map (fun j => nI (B j)) → L.length = n ∧ ∀ j, j < n → L.getD j 0 = nI (B j) := fun L hL => by
    subst hL
    exact ⟨by simp, fun j hj => by rw [List.getD_eq_getElem?_getD]; simp [hj]⟩
  obtain ⟨r1, r2⟩ := hrow _ rfl
  generalize (List.range n).map (fun j => nI (B j)) = LB at r1 r2
  generalize hG1 : am_up G 93 4 0 = G1
  have c1 : am_crw G1 26 LB := by
    rw [← hG1]
    exact ⟨by rw [am_up_get, if_neg (by decide), r1]; exact hb.1, fun i hi => by rw [r1] at hi; rw [am_up_get, if_neg (by decide), r2 i hi]; exact hb.2 i hi⟩
  obtain ⟨G2, f2, c2, g2⟩ := am_m50 (X := X) (D := D + 57) (q := q) (G := G1) (L := LB) r97 r26 (by omega) c1 (by omega)
  generalize hG3 : am_up (am_up G2 92 3 0) 92 4 (-1) = G3
  have g14 : am_CD X (D + 59) 14 [.ref 93] (am_L0 q, G) = some (none, (am_L0 q, G1)) := by rw [← hG1]; exact am_m14
  have g13 : am_CD X (D + 59) 13 [.ref l] (am_L0 q, G2) = some (some (.ref (1001 + u)), (am_L0 q, G2)) := am_m13 hli hu (by rw [f2 l 0 (by omega) (by omega), ← hG1, am_up_get, if_neg (by omega)]; exact hT.1)
  have hR : am_rdr B n G3 [] 0 (-1) := by
    rw [← hG3]
    refine ⟨?_, ?_, ?_, (fun j hj => absurd hj (Nat.not_lt_zero _)), ?_, fun j hj => ?_, hn, hB⟩
    · rw [am_up_get, if_pos rfl, if_neg (by decide), am_up_get, if_pos rfl, if_pos rfl]; rfl
    · rw [am_up_get, if_pos rfl, if_pos rfl]
    · rw [am_up_get, if_neg (by decide), am_up_get, if_neg (by decide), f2 93 4 (by decide) (by decide), ← hG1, am_up_get, if_pos rfl, if_pos rfl]; rfl
    · rw [am_up_get, if_neg (by decide), am_up_get, if_neg (by decide), c2.1, r1]
    · rw [am_up_get, if_neg (by decide), am_up_get, if_neg (by decide), c2.2 j (by omega), r2 j hj]
  obtain ⟨z, hz⟩ := Option.isSome_iff_exists.mp (am_pr_tot (u := u) (B := B) (n := n) 500 0 0 0 (Nat.zero_le _) (by decide) (by unfold am_rank; simp; omega))
  have hok := am_pr_ok 500 0 0 0 z (Nat.zero_le _) (by decide) hz
  obtain ⟨G4, f4, p4, g4⟩ := (am_rmain (X := X) hu 500 0 0 0 z [] G3 hz (by decide) (by decide) (Nat.zero_le _) (Nat.le_refl _) hR).1 (D + 59) (by decide) (by unfold am_dep; omega)
  have g4' : am_CD X (D + 59) 42 [.ref 92, .int 0, .int 0] (am_L0 (1001 + u), G3) = some (none, (am_L0 (1001 + u), G4)) := g4
  obtain ⟨T1, i, b⟩ := z
  dsimp only [am_prok] at hok
  have fr4 : ∀ i j, ¬ (92 ≤ i ∧ i < 99) → G4 i j = G i j := fun i j h => by
    rw [f4 i j (by omega) (by omega) (by omega) (by omega), ← hG3, am_up_get, if_neg (by omega), am_up_get, if_neg (by omega), f2 i j (by omega) (by omega), ← hG1, am_up_get, if_neg (by omega)]
  have cwT : am_cw l u G4 T := am_cw_fr hT fun i j a b => fr4 i j (by omega)
  have run : ∀ o, am_Rn X (D + 59) (some .int) am_J40 39 [some (.ref 92), some (.ref 26), some (.ref l)] [] (am_L0 (1001 + u), G4) o → am_Rn X (D + 59) (some .int) am_J40 0 [some (.ref 92), some (.ref 26), some (.ref l)] [] (am_L0 q, G) o := fun o ho => by
    simp only [am_s40_0, am_s40_1, am_s40_4, am_s40_7, am_s40_8, am_s40_11, am_s40_12, am_s40_15, am_s40_16, am_s40_17, am_s40_20, am_s40_23, am_s40_24, am_s40_25, am_s40_28, am_s40_29, am_s40_30, am_s40_33, am_s40_34, am_s40_35, am_s40_36, am_f92_0, am_f92_1, am_p92_2, am_p92_3, am_p92_4, am_cal_ok am_cat_0 am_v93 (g14), am_cal_ok am_cat_0 (am_vw r97) (g2), am_cal_ok (am_cat_1 _) (am_rl_v hli) (g13), hG3, am_cal_ok am_cat_0 am_v92 (g4'), eq_self, am_os_some, Option.toList_some, Option.toList_none, List.cons_append, List.nil_append, if_true, if_false, true_and, am_nw1_i, am_nw1_r, am_nw1_n, cond_true]
    exact ho
  cases b with
  | false =>
    obtain ⟨-, hp⟩ := p4
    obtain ⟨h44, -⟩ := hp rfl
    dsimp only at h44
    have e : am_rdt u B n = (none, i) := by unfold am_rdt; rw [hz]
    have hi : i < 2 ^ 31 := by omega
    have n1 := am_nIm1 hi
    have n2 : ¬ nI i = -1 := n1
    refine ⟨G4, fun i j h _ => fr4 i j h, by rw [e]; exact cwT, ?_⟩
    rw [e]
    refine am_CD_of (M := am_N40) rfl rfl (run _ ?_)
    have e3 : (Option.none (α := am_T)).isSome = true ↔ False := by simp
    simp only [am_s40_39, am_s40_40, am_s40_43, am_s40_44, am_s40_47, am_s40_48, am_s40_51, am_s40_52, am_s40_55, am_s40_56, am_s40_57, am_s40_60, am_s40_63, am_s40_64, am_s40_67, am_s40_68, am_s40_71, am_s40_72, am_s40_73, am_s40_76, am_s40_79, am_s40_80, am_s40_83, am_f92_4, h44, n2, not_false_eq_true, e3, eq_self, am_os_some, Option.toList_some, Option.toList_none, List.cons_append, List.nil_append, if_true, if_false, true_and, am_nw1_i, am_nw1_r, am_nw1_n, cond_true]
  | true =>
    obtain ⟨hp, -⟩ := p4
    have hq := hp rfl
    rw [List.nil_append] at hq
    dsimp only at hq
    have h41 : am_CD X (D + 59) 41 [.ref 92] (am_L0 (1001 + u), G4) = _ := am_m41 (D := D + 58) hq (by omega)
    have h43 := hq.1
    have h44 := hq.2.1
    by_cases hin : i = n
    · have e : am_rdt u B n = (some T1, 0) := by unfold am_rdt; rw [hz]; simp [hin]
      have enx : am_nx B n i = -1 := by unfold am_nx; rw [if_neg (by omega)]
      rw [enx] at h41
      have hlen := (hok.2.2.2 rfl).1
      have hc93 : am_cwc 93 G4 T1 := ⟨hq.2.2.1, by omega, hq.2.2.2.1⟩
      obtain ⟨G5, f5, e5, c5, g5⟩ := am_m16 (X := X) (D := D + 58) (q := 1001 + u) hli (Or.inr (Or.inr (Or.inr (Or.inr rfl)))) (by omega) hc93
      refine ⟨G5, fun i j h1 h2 => by rw [f5 i j (by omega) (by omega) (by omega)]; exact fr4 i j h1, ?_, ?_⟩
      · rw [e]
        exact ⟨by rw [e5]; exact cwT.1, c5.1, c5.2.1, c5.2.2⟩
      · rw [e]
        refine am_CD_of (M := am_N40) rfl rfl (run _ ?_)
        have e3 : (Option.some T1).isSome = true ↔ True := by simp
        simp only [am_s40_39, am_s40_40, am_s40_43, am_s40_44, am_s40_47, am_s40_48, am_s40_51, am_s40_52, am_s40_55, am_s40_56, am_s40_57, am_s40_60, am_s40_63, am_s40_64, am_s40_67, am_s40_68, am_s40_71, am_s40_72, am_s40_73, am_s40_76, am_s40_79, am_s40_80, am_s40_83, am_f92_0, am_f92_4, h44, am_cal_ok am_cat_0 am_v92 (h41), am_cal_ok am_cat_0 (am_rl_v hli) (g5), not_true_eq_false, f5 92 4 (by omega) (by omega) (by omega), e3, eq_self, am_os_some, Option.toList_some, Option.toList_none, List.cons_append, List.nil_append, if_true, if_false, true_and, am_nw1_i, am_nw1_r, am_nw1_n, cond_true]
    · have e : am_rdt u B n = (none, i) := by unfold am_rdt; rw [hz]; simp [hin]
      have hi : i < 2 ^ 31 := by omega
      have n1 := am_nIm1 hi
      have enx : ¬ am_nx B n i = -1 := by
        unfold am_nx; rw [if_pos (by omega)]
        exact am_nIm1 (by have := hB i (by omega); omega)
      refine ⟨am_up G4 92 4 (nI i), fun i j h _ => by rw [am_up_get, if_neg (by omega)]; exact fr4 i j h, by rw [e]; exact am_cw_fr cwT fun i j a b => by rw [am_up_get, if_neg (by omega)], ?_⟩
      rw [e]
      refine am_CD_of (M := am_N40) rfl rfl (run _ ?_)
      have e3 : (Option.none (α := am_T)).isSome = true ↔ False := by simp
      simp only [am_s40_39, am_s40_40, am_s40_43, am_s40_44, am_s40_47, am_s40_48, am_s40_51, am_s40_52, am_s40_55, am_s40_56, am_s40_57, am_s40_60, am_s40_63, am_s40_64, am_s40_67, am_s40_68, am_s40_71, am_s40_72, am_s40_73, am_s40_76, am_s40_79, am_s40_80, am_s40_83, am_f92_3, am_f92_4, am_p92_4, h43, h44, am_cal_ok am_cat_0 am_v92 (h41), enx, not_true_eq_false, not_false_eq_true, am_up_get, n1, e3, eq_self, am_os_some, Option.toList_some, Option.toList_none, List.cons_append, List.nil_append, if_true, if_false, true_and, am_nw1_i, am_nw1_r, am_nw1_n, cond_true]
/-- isUnder -/
def am_und (a b : Nat) : Bool := match a with
  | 0 => decide (b = 0)
  | 1 => decide (b = 1) || decide (b = 0)
  | 2 => decide (b = 2) || decide (b = 0)
  | 3 => decide (b = 3) || decide (b = 0)
  | 4 => decide (b = 4) || (decide (b = 1) || decide (b = 0))
  | 5 => decide (b = 5) || (decide (b = 2) || decide (b = 0))
  | 6 => decide (b = 6) || (decide (b = 3) || decide (b = 0))
  | _ => false
theorem am_L0_Xn {N : Nat} {xs : Nat → Int32} : am_len (am_X0 N xs) (am_L0 q, G) 1004 = some 7 := rfl
theorem am_m9 {N : Nat} {xs : Nat → Int32} {a b : Nat} (ha : a ≤ 6) (hb : b ≤ 6) : am_CD (am_X0 N xs) (D + 1) 9 [.int (nI a), .int (nI b)] (am_L0 q, G) = some (some (.int (am_bI (am_und a b))), (am_L0 q, G)) := by
  have hs : ∀ (c j : Nat) (o : Option Value × am_M), c ≤ 6 → j < 7 → am_Rn (am_X0 N xs) D (some .boolean) am_J9 4 [some (.int (nI a)), some (.int (nI b)), some (.int (nI c)), some (.int (nI j))] [] (am_L0 q, G) o = if c = b then (True ∧ o = (some (.int 1), (am_L0 q, G))) else am_Rn (am_X0 N xs) D (some .boolean) am_J9 4 [some (.int (nI a)), some (.int (nI b)), some (.int (am_above c)), some (.int (nI (j + 1)))] [] (am_L0 q, G) o := by
    intro c j o hc hj
    have h1 : ¬ nI c < 0 := nI_pos (by omega)
    have h2 : nI j < Int32.ofNat 7 := nI_lt hj (by decide)
    have h3 : nI c < Int32.ofNat 7 := nI_lt (show c < 7 by omega) (by decide)
    have h4 : (nI c = nI b) = (c = b) := propext (nI_eq (by omega) (by omega))
    have hi : nI j + 1 = nI (j + 1) := nI_add j 1
    by_cases e : c = b
    · rw [if_pos e]
      subst e
      simp only [am_s9_4, am_s9_5, am_s9_8, am_s9_9, am_s9_12, am_s9_13, am_s9_16, am_s9_17, am_s9_20, am_s9_21, am_s9_24, am_s9_25, am_s9_26, am_s9_29, am_s9_30, am_s9_31, am_s9_34, am_s9_35, am_s9_36, am_s9_37, am_L0_Xn, am_L0_X (show c < 7 by omega), h1, h2, h3, not_true_eq_false, not_false_eq_true, eq_self, am_os_some, Option.toList_some, Option.toList_none, List.cons_append, List.nil_append, if_true, if_false, true_and, am_nw1_i, am_nw1_r, am_nw1_n, cond_true]
      simp
    · rw [if_neg e, ← hi]
      refine Eq.trans ?_ am_s9_40
      simp only [am_s9_4, am_s9_5, am_s9_8, am_s9_9, am_s9_12, am_s9_13, am_s9_16, am_s9_17, am_s9_20, am_s9_21, am_s9_24, am_s9_25, am_s9_26, am_s9_29, am_s9_30, am_s9_31, am_s9_34, am_s9_35, am_s9_36, am_s9_37, am_L0_Xn, am_L0_X (show c < 7 by omega), h1, h2, h3, h4, e, not_false_eq_true, eq_self, am_os_some, Option.toList_some, Option.toList_none, List.cons_append, List.nil_append, if_true, if_false, true_and, am_nw1_i, am_nw1_r, am_nw1_n, cond_true]
  have he : ∀ (j : Nat) (o : Option Value × am_M), j < 7 → am_Rn (am_X0 N xs) D (some .boolean) am_J9 4 [some (.int (nI a)), some (.int (nI b)), some (.int (-1)), some (.int (nI j))] [] (am_L0 q, G) o = (True ∧ o = (some (.int 0), (am_L0 q, G))) := by
    intro j o hj
    have h2 : nI j < Int32.ofNat 7 := nI_lt hj (by decide)
    have h3 : ((-1 : Int32) < 0) = True := by decide
    simp only [am_s9_4, am_s9_5, am_s9_8, am_s9_9, am_s9_12, am_s9_13, am_s9_43, am_s9_44, am_L0_Xn, h2, h3, eq_self, am_os_some, Option.toList_some, Option.toList_none, List.cons_append, List.nil_append, if_true, if_false, true_and, am_nw1_i, am_nw1_r, am_nw1_n, cond_true]
    simp
  refine am_CD_of (M := am_N9) rfl rfl ?_
  show am_Rn _ _ ((Option.some FieldType.boolean)) am_J9 0 [some (.int (nI a)), some (.int (nI b)), none, none] [] (am_L0 q, G) _
  simp only [am_s9_0, am_s9_1, am_s9_2, am_s9_3, eq_self, am_os_some, Option.toList_some, Option.toList_none, List.cons_append, List.nil_append, if_true, if_false, true_and, am_nw1_i, am_nw1_r, am_nw1_n, cond_true]
  match a, ha with
  | 0, _ =>
    rw [show (0 : Int32) = nI 0 from rfl, hs 0 0 _ (by decide) (by decide)]
    rw [show am_above 0 = -1 from rfl, he 1 _ (by decide)]
    unfold am_und
    simp only [am_bI]
    by_cases e0 : 0 = b
    · subst e0; simp
    · rw [if_neg e0]
      simp [Ne.symm e0]
  | 1, _ =>
    rw [show (0 : Int32) = nI 0 from rfl, hs 1 0 _ (by decide) (by decide)]
    rw [show am_above 1 = nI 0 from rfl, hs 0 1 _ (by decide) (by decide)]
    rw [show am_above 0 = -1 from rfl, he 2 _ (by decide)]
    unfold am_und
    simp only [am_bI]
    by_cases e0 : 1 = b
    · subst e0; simp
    · rw [if_neg e0]
      by_cases e1 : 0 = b
      · subst e1; simp
      · rw [if_neg e1]
        simp [Ne.symm e0, Ne.symm e1]
  | 2, _ =>
    rw [show (0 : Int32) = nI 0 from rfl, hs 2 0 _ (by decide) (by decide)]
    rw [show am_above 2 = nI 0 from rfl, hs 0 1 _ (by decide) (by decide)]
    rw [show am_above 0 = -1 from rfl, he 2 _ (by decide)]
    unfold am_und
    simp only [am_bI]
    by_cases e0 : 2 = b
    · subst e0; simp
    · rw [if_neg e0]
      by_cases e1 : 0 = b
      · subst e1; simp
      · rw [if_neg e1]
        simp [Ne.symm e0, Ne.symm e1]
  | 3, _ =>
    rw [show (0 : Int32) = nI 0 from rfl, hs 3 0 _ (by decide) (by decide)]
    rw [show am_above 3 = nI 0 from rfl, hs 0 1 _ (by decide) (by decide)]
    rw [show am_above 0 = -1 from rfl, he 2 _ (by decide)]
    unfold am_und
    simp only [am_bI]
    by_cases e0 : 3 = b
    · subst e0; simp
    · rw [if_neg e0]
      by_cases e1 : 0 = b
      · subst e1; simp
      · rw [if_neg e1]
        simp [Ne.symm e0, Ne.symm e1]
  | 4, _ =>
    rw [show (0 : Int32) = nI 0 from rfl, hs 4 0 _ (by decide) (by decide)]
    rw [show am_above 4 = nI 1 from rfl, hs 1 1 _ (by decide) (by decide)]
    rw [show am_above 1 = nI 0 from rfl, hs 0 2 _ (by decide) (by decide)]
    rw [show am_above 0 = -1 from rfl, he 3 _ (by decide)]
    unfold am_und
    simp only [am_bI]
    by_cases e0 : 4 = b
    · subst e0; simp
    · rw [if_neg e0]
      by_cases e1 : 1 = b
      · subst e1; simp
      · rw [if_neg e1]
        by_cases e2 : 0 = b
        · subst e2; simp
        · rw [if_neg e2]
          simp [Ne.symm e0, Ne.symm e1, Ne.symm e2]
  | 5, _ =>
    rw [show (0 : Int32) = nI 0 from rfl, hs 5 0 _ (by decide) (by decide)]
    rw [show am_above 5 = nI 2 from rfl, hs 2 1 _ (by decide) (by decide)]
    rw [show am_above 2 = nI 0 from rfl, hs 0 2 _ (by decide) (by decide)]
    rw [show am_above 0 = -1 from rfl, he 3 _ (by decide)]
    unfold am_und
    simp only [am_bI]
    by_cases e0 : 5 = b
    · subst e0; simp
    · rw [if_neg e0]
      by_cases e1 : 2 = b
      · subst e1; simp
      · rw [if_neg e1]
        by_cases e2 : 0 = b
        · subst e2; simp
        · rw [if_neg e2]
          simp [Ne.symm e0, Ne.symm e1, Ne.symm e2]
  | 6, _ =>
    rw [show (0 : Int32) = nI 0 from rfl, hs 6 0 _ (by decide) (by decide)]
    rw [show am_above 6 = nI 3 from rfl, hs 3 1 _ (by decide) (by decide)]
    rw [show am_above 3 = nI 0 from rfl, hs 0 2 _ (by decide) (by decide)]
    rw [show am_above 0 = -1 from rfl, he 3 _ (by decide)]
    unfold am_und
    simp only [am_bI]
    by_cases e0 : 6 = b
    · subst e0; simp
    · rw [if_neg e0]
      by_cases e1 : 3 = b
      · subst e1; simp
      · rw [if_neg e1]
        by_cases e2 : 0 = b
        · subst e2; simp
        · rw [if_neg e2]
          simp [Ne.symm e0, Ne.symm e1, Ne.symm e2]
end AMS2
