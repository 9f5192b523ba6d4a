/-! laws and WELLS are copied; draws; a TEXT is read; the class -/
def am_cwc (l : Nat) (G : am_G) (T : am_T) : Prop := G l 4 = nI T.length ∧ T.length ≤ 50 ∧ ∀ i, i < T.length → G (l + 1) i = nI (T.getD i (0, 0)).1 ∧ G (l + 2) i = nI (T.getD i (0, 0)).2
/-- z's next, what is drawn -/
def am_zn (z : Int32) : Int32 := z * 1103515245 + 12345
def am_zd (z : Int32) : Int32 := am_us (am_zn z) 8
/-- TRAITS by a draw -/
def am_tn (d : Int32) (t : Nat) : Int32 := if d - d / 8 * 8 = 0 then nI t ^^^ (1 <<< ((d / 8 - d / 8 / 4 * 4) &&& 31)) else nI t
section AMWE
variable {X : am_X} {D q : Nat}
theorem am_acp50 {G : am_G} {s d : Nat} {st : List Value} (hc : am_cat st = true) (hs : (am_L0 q)[s]? = some (.inr (.inl 50))) (hd : (am_L0 q)[d]? = some (.inr (.inl 50))) : am_acpS st (am_L0 q, G) s d 0 0 (Int32.ofNat 50) = some (am_L0 q, am_cpy G s d 0 0 50) := by
  have e0 : (0 : Int32).toNatClampNeg = 0 := by decide +kernel
  have e8 : (Int32.ofNat 50).toNatClampNeg = 50 := by decide +kernel
  unfold am_acpS am_acpM
  simp only [hc, hs, hd, e0, e8, cond_true]
  exact am_bt (by decide +kernel)
theorem am_ll_1 {l : Nat} (hl : am_isl l) : (am_L0 q)[l + 1]? = some (.inr (.inl 50)) := by rcases hl with rfl | rfl | rfl | rfl | rfl <;> rfl
theorem am_ll_2 {l : Nat} (hl : am_isl l) : (am_L0 q)[l + 2]? = some (.inr (.inl 50)) := by rcases hl with rfl | rfl | rfl | rfl | rfl <;> rfl
theorem am_m16 {G : am_G} {l o : Nat} {T : am_T} (hl : am_isl l) (ho : am_isl o) (hlo : l + 4 ≤ o ∨ o + 4 ≤ l) (h : am_cwc o G T) : ∃ G' : am_G, (∀ i j, i ≠ l → i ≠ l + 1 → i ≠ l + 2 → G' i j = G i j) ∧ G' l 0 = G l 0 ∧ am_cwc l G' T ∧ am_CD X (D + 1) 16 [.ref l, .ref o] (am_L0 q, G) = some (none, (am_L0 q, G')) := by
  obtain ⟨h1, h2, h3⟩ := h
  generalize hG1 : am_cpy G (o + 1) (l + 1) 0 0 50 = G1
  generalize hG2 : am_cpy G1 (o + 2) (l + 2) 0 0 50 = G2
  have k4 : G2 o 4 = nI T.length := by rw [← hG2, am_cpy_get, if_neg (by omega), ← hG1, am_cpy_get, if_neg (by omega)]; exact h1
  refine ⟨am_up G2 l 4 (nI T.length), fun i j a b c => ?_, ?_, ⟨?_, h2, fun i hi => ?_⟩, ?_⟩
  · rw [am_up_get, if_neg a, ← hG2, am_cpy_get, if_neg c, ← hG1, am_cpy_get, if_neg b]
  · rw [am_up_get, if_pos rfl, if_neg (by decide), ← hG2, am_cpy_get, if_neg (by omega), ← hG1, am_cpy_get, if_neg (by omega)]
  · rw [am_up_get, if_pos rfl, if_pos rfl]
  · have h3i := h3 i hi
    rw [am_up_get, if_neg (by omega), am_up_get, if_neg (by omega), ← hG2, am_cpy_get, if_neg (by omega), am_cpy_get, if_pos rfl, if_pos (by omega), Nat.zero_add, Nat.sub_zero, ← hG1, am_cpy_get, if_pos rfl, if_pos (by omega), Nat.zero_add, Nat.sub_zero, am_cpy_get, if_neg (by omega)]
    exact h3i
  · refine am_CD_of (M := am_N16) rfl rfl ?_
    show am_Rn _ _ none am_J16 0 [some (.ref l), some (.ref o)] [] (am_L0 q, G) _
    simp only [am_s16_0, am_s16_1, am_s16_4, am_s16_5, am_s16_6, am_s16_9, am_s16_10, am_s16_11, am_s16_14, am_s16_15, am_s16_18, am_s16_19, am_s16_22, am_s16_23, am_s16_24, am_s16_27, am_s16_28, am_s16_29, am_s16_32, am_s16_33, am_s16_36, am_s16_37, am_s16_38, am_s16_41, am_s16_44, am_fl_1 hl, am_fl_1 ho, am_fl_2 hl, am_fl_2 ho, am_fl_4 ho, am_pl_4 hl, am_nl_1 hl, am_nl_2 hl, am_acp50 am_cat_0 (am_ll_1 ho) (am_ll_1 hl), am_acp50 am_cat_0 (am_ll_2 ho) (am_ll_2 hl), hG1, hG2, k4, eq_self, am_os_some, Option.toList_some, Option.toList_none, List.cons_append, List.nil_append, if_true, if_false, true_and, am_nw1_i, am_nw1_r, am_nw1_n, cond_true]
/-- a WELL is copied to the other place -/
def am_isv (w : Nat) : Prop := w = 1 ∨ w = 30
theorem am_m77 {G : am_G} {w v : Nat} {W W0 : am_We} (hw : am_isv w) (hv : am_isv v) (hne : w ≠ v) (h : am_cwe v G W) (h0 : am_cwe w G W0) (hk : am_wwf W) : ∃ G' : am_G, (∀ i j, i < w ∨ w + 29 ≤ i → G' i j = G i j) ∧ am_cwe w G' W ∧ am_CD X (D + 4) 77 [.ref w, .ref v] (am_L0 q, G) = some (none, (am_L0 q, G')) := by
  obtain ⟨S, T, U, ⟨B, n⟩, ⟨V, m⟩, z⟩ := W
  obtain ⟨h1, h2, h3, h4, h5, h6⟩ := h
  obtain ⟨-, -, -, -, hn, hB, hm⟩ := hk
  dsimp only at h1 h2 h3 h4 h5 h6 hn hB hm
  have l1 : am_isl (w + 1) := by rcases hw with rfl | rfl; exact Or.inl rfl; exact Or.inr (Or.inr (Or.inl rfl))
  have l2 : am_isl (w + 5) := by rcases hw with rfl | rfl; exact Or.inr (Or.inl rfl); exact Or.inr (Or.inr (Or.inr (Or.inl rfl)))
  have l3 : am_isl (v + 1) := by rcases hv with rfl | rfl; exact Or.inl rfl; exact Or.inr (Or.inr (Or.inl rfl))
  have l4 : am_isl (v + 5) := by rcases hv with rfl | rfl; exact Or.inr (Or.inl rfl); exact Or.inr (Or.inr (Or.inr (Or.inl rfl)))
  have p1 : am_ispe (w + 9) := by rcases hw with rfl | rfl; exact Or.inl rfl; exact Or.inr (Or.inl rfl)
  have p2 : am_ispe (v + 9) := by rcases hv with rfl | rfl; exact Or.inl rfl; exact Or.inr (Or.inl rfl)
  have t1 : am_isw (w + 25) 50 := by rcases hw with rfl | rfl; exact Or.inl ⟨rfl, rfl⟩; exact Or.inr (Or.inr (Or.inl ⟨rfl, rfl⟩))
  have t2 : am_isw (v + 25) 50 := by rcases hv with rfl | rfl; exact Or.inl ⟨rfl, rfl⟩; exact Or.inr (Or.inr (Or.inl ⟨rfl, rfl⟩))
  have u1 : am_isw (w + 27) 20 := by rcases hw with rfl | rfl; exact Or.inr (Or.inl ⟨rfl, rfl⟩); exact Or.inr (Or.inr (Or.inr (Or.inl ⟨rfl, rfl⟩)))
  have u2 : am_isw (v + 27) 20 := by rcases hv with rfl | rfl; exact Or.inr (Or.inl ⟨rfl, rfl⟩); exact Or.inr (Or.inr (Or.inr (Or.inl ⟨rfl, rfl⟩)))
  have far : w + 29 ≤ v ∨ v + 29 ≤ w := by rcases hw with rfl | rfl <;> rcases hv with rfl | rfl <;> omega
  obtain ⟨G1, f1, e1, c1, g1⟩ := am_m16 (X := X) (D := D + 2) (q := q) l1 l3 (by omega) (⟨h2.2.1, h2.2.2.1, h2.2.2.2⟩ : am_cwc (v + 1) G T)
  have a1 : am_cwc (v + 5) G1 U := ⟨by rw [f1 _ _ (by omega) (by omega) (by omega)]; exact h3.2.1, h3.2.2.1, fun i hi => by rw [f1 _ _ (by omega) (by omega) (by omega), f1 _ _ (by omega) (by omega) (by omega)]; exact h3.2.2.2 i hi⟩
  obtain ⟨G2, f2, e2, c2, g2⟩ := am_m16 (X := X) (D := D + 2) (q := q) l2 l4 (by omega) a1
  have a2 : am_cp (v + 9) G2 S := am_cp_fr h1 fun i j x y => by rw [f2 i j (by omega) (by omega) (by omega), f1 i j (by omega) (by omega) (by omega)]
  obtain ⟨G3, f3, c3, g3⟩ := am_m21 (X := X) (D := D + 1) (q := q) (a := v + 9) (b := w + 9) p2 p1 (by omega) a2
  have hrow : ∀ (L : List Int32), L = (List.range n).map (fun j => nI (B j)) → L.length = n ∧ ∀ j, j < n → L.getD j 0 = nI (B j) := fun L hL => by
    subst hL
    exact ⟨by simp, fun j hj => by rw [List.getD_eq_getElem?_getD]; simp [hj]⟩
  obtain ⟨r1, r2⟩ := hrow _ rfl
  generalize (List.range n).map (fun j => nI (B j)) = LB at r1 r2
  have o3 : ∀ i j, v + 25 ≤ i → i < v + 29 → G3 i j = G i j := fun i j x y => by rw [f3 i j (by unfold am_out; omega), f2 i j (by omega) (by omega) (by omega), f1 i j (by omega) (by omega) (by omega)]
  obtain ⟨G4, f4, c4, g4⟩ := am_m50 (X := X) (D := D + 1) (q := q) (G := G3) (L := LB) t1 t2 (by omega) ⟨by rw [o3 _ _ (by omega) (by omega), r1]; exact h4.1, fun i hi => by rw [r1] at hi; rw [r2 i hi, o3 _ _ (by omega) (by omega)]; exact h4.2 i hi⟩ (by omega)
  have hrow2 : ∀ (L : List Int32), L = (List.range m).map (fun j => V j) → L.length = m ∧ ∀ j, j < m → L.getD j 0 = V j := fun L hL => by
    subst hL
    exact ⟨by simp, fun j hj => by rw [List.getD_eq_getElem?_getD]; simp [hj]⟩
  obtain ⟨s1, s2⟩ := hrow2 _ rfl
  generalize (List.range m).map (fun j => V j) = LV at s1 s2
  have o4 : ∀ i j, v + 27 ≤ i → i < v + 29 → G4 i j = G i j := fun i j x y => by rw [f4 i j (by omega) (by omega), o3 i j (by omega) (by omega)]
  obtain ⟨G5, f5, c5, g5⟩ := am_m50 (X := X) (D := D + 1) (q := q) (G := G4) (L := LV) u1 u2 (by omega) ⟨by rw [o4 _ _ (by omega) (by omega), s1]; exact h5.1, fun i hi => by rw [s1] at hi; rw [s2 i hi, o4 _ _ (by omega) (by omega)]; exact h5.2 i hi⟩ (by omega)
  have hz : G5 v 5 = z := by rw [f5 v 5 (by omega) (by omega), f4 v 5 (by omega) (by omega), f3 v 5 (by unfold am_out; omega), f2 v 5 (by omega) (by omega) (by omega), f1 v 5 (by omega) (by omega) (by omega)]; exact h6
  have F : ∀ i j, i ≠ w → am_up G5 w 5 z i j = G5 i j := fun i j hi => by rw [am_up_get, if_neg hi]
  refine ⟨am_up G5 w 5 z, fun i j hi => ?_, ⟨?_, ?_, ?_, ?_, ?_, ?_⟩, ?_⟩
  · rw [F i j (by omega), f5 i j (by omega) (by omega), f4 i j (by omega) (by omega), f3 i j (by unfold am_out; omega), f2 i j (by omega) (by omega) (by omega), f1 i j (by omega) (by omega) (by omega)]
  · exact am_cp_fr c3 fun i j x y => by rw [F i j (by omega), f5 i j (by omega) (by omega), f4 i j (by omega) (by omega)]
  · have fr : ∀ i j, w + 1 ≤ i → i < w + 4 → am_up G5 w 5 z i j = G1 i j := fun i j x y => by rw [F i j (by omega), f5 i j (by omega) (by omega), f4 i j (by omega) (by omega), f3 i j (by unfold am_out; omega), f2 i j (by omega) (by omega) (by omega)]
    refine ⟨by rw [fr _ _ (by omega) (by omega), e1]; exact h0.2.1.1, by rw [fr _ _ (by omega) (by omega)]; exact c1.1, c1.2.1, fun i hi => ?_⟩
    dsimp only
    rw [fr _ _ (by omega) (by omega), fr _ _ (by omega) (by omega)]
    exact c1.2.2 i hi
  · have fr : ∀ i j, w + 5 ≤ i → i < w + 8 → am_up G5 w 5 z i j = G2 i j := fun i j x y => by rw [F i j (by omega), f5 i j (by omega) (by omega), f4 i j (by omega) (by omega), f3 i j (by unfold am_out; omega)]
    refine ⟨by rw [fr _ _ (by omega) (by omega), e2, f1 _ _ (by omega) (by omega) (by omega)]; exact h0.2.2.1.1, by rw [fr _ _ (by omega) (by omega)]; exact c2.1, c2.2.1, fun i hi => ?_⟩
    dsimp only
    rw [fr _ _ (by omega) (by omega), fr _ _ (by omega) (by omega)]
    exact c2.2.2 i hi
  · refine ⟨?_, fun j hj => ?_⟩
    · dsimp only
      rw [F _ _ (by omega), f5 _ _ (by omega) (by omega), c4.1, r1]
    · dsimp only at hj ⊢
      rw [F _ _ (by omega), f5 _ _ (by omega) (by omega)]
      have := c4.2 j (by omega)
      rw [r2 j hj] at this
      exact this
  · refine ⟨?_, fun j hj => ?_⟩
    · dsimp only
      rw [F _ _ (by omega), c5.1, s1]
    · dsimp only at hj ⊢
      rw [F _ _ (by omega)]
      have := c5.2 j (by omega)
      rw [s2 j hj] at this
      exact this
  · dsimp only
    rw [am_up_get, if_pos rfl, if_pos rfl]
  · have fl : ∀ (x : Nat) (hx : am_isv x) (G : am_G), am_fld (am_L0 q, G) x 9 0 = some (.ref (x + 1)) ∧ am_fld (am_L0 q, G) x 9 1 = some (.ref (x + 5)) ∧ am_fld (am_L0 q, G) x 9 2 = some (.ref (x + 9)) ∧ am_fld (am_L0 q, G) x 9 3 = some (.ref (x + 25)) ∧ am_fld (am_L0 q, G) x 9 4 = some (.ref (x + 27)) ∧ am_fld (am_L0 q, G) x 9 5 = some (.int (G x 5)) := fun x hx G => by rcases hx with rfl | rfl <;> exact ⟨rfl, rfl, rfl, rfl, rfl, rfl⟩
    have ft : am_putM (am_L0 q, G5) w 9 5 (.int z) = some (am_L0 q, am_up G5 w 5 z) := by rcases hw with rfl | rfl <;> rfl
    refine am_CD_of (M := am_N77) rfl rfl ?_
    show am_Rn _ _ none am_J77 0 [some (.ref w), some (.ref v)] [] (am_L0 q, G) _
    simp only [am_s77_0, am_s77_1, am_s77_4, am_s77_5, am_s77_8, am_s77_11, am_s77_12, am_s77_15, am_s77_16, am_s77_19, am_s77_22, am_s77_23, am_s77_26, am_s77_27, am_s77_30, am_s77_33, am_s77_34, am_s77_37, am_s77_38, am_s77_41, am_s77_44, am_s77_45, am_s77_48, am_s77_49, am_s77_52, am_s77_55, am_s77_56, am_s77_57, am_s77_60, am_s77_63, (fl w hw _).1, (fl w hw _).2.1, (fl w hw _).2.2.1, (fl w hw _).2.2.2.1, (fl w hw _).2.2.2.2.1, (fl v hv _).1, (fl v hv _).2.1, (fl v hv _).2.2.1, (fl v hv _).2.2.2.1, (fl v hv _).2.2.2.2.1, (fl v hv _).2.2.2.2.2, am_cal_ok am_cat_0 (am_rl_v l1) g1, am_cal_ok am_cat_0 (am_rl_v l2) g2, am_cal_ok am_cat_0 (am_va p1) g3, am_cal_ok am_cat_0 (am_vw t1) g4, am_cal_ok am_cat_0 (am_vw u1) g5, hz, ft, eq_self, am_os_some, Option.toList_some, Option.toList_none, List.cons_append, List.nil_append, if_true, if_false, true_and, am_nw1_i, am_nw1_r, am_nw1_n, cond_true]
theorem am_m79 {G : am_G} : am_CD X (D + 1) 79 [.ref 1] (am_L0 q, G) = some (some (.int (am_zd (G 1 5))), (am_L0 q, am_up G 1 5 (am_zn (G 1 5)))) := by
  refine am_CD_of (M := am_N79) rfl rfl ?_
  show am_Rn _ _ ((Option.some FieldType.int)) am_J79 0 [some (.ref 1)] [] (am_L0 q, G) _
  unfold am_zd am_us am_zn
  simp only [am_s79_0, am_s79_1, am_s79_2, am_s79_5, am_s79_7, am_s79_8, am_s79_11, am_s79_12, am_s79_15, am_s79_16, am_s79_19, am_s79_21, am_s79_22, am_f1_5, am_p1_5, am_up_get, eq_self, am_os_some, Option.toList_some, Option.toList_none, List.cons_append, List.nil_append, if_true, if_false, true_and, am_nw1_i, am_nw1_r, am_nw1_n, cond_true]
end AMWE
