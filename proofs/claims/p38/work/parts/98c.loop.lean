/-! the law, on every script (printed by loop.py) -/
def am_tgt (k : Nat) : Nat := ([196, 229, 262, 305, 348, 381, 414, 447, 510, 533, 586, 609, 632, 645, 688, 721, 754, 787, 800, 833, 856, 879, 912, 925, 948, 991, 1014, 1057, 1100, 1163, 1186, 1209, 1222, 1235, 1258, 1271, 1294] : List Nat).getD k 1317
theorem am_tsw_k : ∀ k : Fin 64, am_tsw 33 1284 0 36 #[163, 196, 229, 272, 315, 348, 381, 414, 477, 500, 553, 576, 599, 612, 655, 688, 721, 754, 767, 800, 823, 846, 879, 892, 915, 958, 981, 1024, 1067, 1130, 1153, 1176, 1189, 1202, 1225, 1238, 1261] (nI k.1) = some (am_tgt k.1) := by decide +kernel
section AMLP
variable {L : Nat} {xs : Nat → Int32}
theorem am_loop (hL : L ≤ 3072) : ∀ (d i q : Nat) (G : am_G) (s : am_St), L ≤ i + d → i ≤ 3072 → am_IV G s → s.2.2.1 ≤ i → ∃ (q1 : Nat) (G1 : am_G), am_Rn (am_X0 L xs) 100 (some .boolean) am_J0 18 (am_lv i) [] (am_L0 q, G) (some (.int 1), (am_L0 q1, G1)) := by
  intro d
  induction d with
  | zero =>
    intro i q G s hd hi _ _
    exact ⟨q, G, am_lawX hL hi (by omega)⟩
  | succ d ih =>
    intro i q G s hd hi hI hcn
    by_cases h6 : i + 6 ≤ L
    · have hs := hI.2.2
      have hc : s.2.2.1 < 2 ^ 31 := by omega
      obtain ⟨k, hk, e⟩ := am_and63 (xs i)
      have nxt : ∀ (q1 : Nat) (G1 : am_G) (s1 : am_St), am_IV G1 s1 → s1.2.2.1 ≤ s.2.2.1 + 1 → ∃ (q2 : Nat) (G2 : am_G), am_Rn (am_X0 L xs) 100 (some .boolean) am_J0 1317 (am_lv i) [] (am_L0 q1, G1) (some (.int 1), (am_L0 q2, G2)) := fun q1 G1 s1 h1 h2 => by
        obtain ⟨q2, G2, g⟩ := ih (i + 6) q1 G1 s1 (by omega) (by omega) h1 (by omega)
        exact ⟨q2, G2, by rw [am_lawN]; exact g⟩
      have go : ∀ (q2 : Nat) (G2 : am_G), am_Rn (am_X0 L xs) 100 (some .boolean) am_J0 (am_tgt k) (am_lv i) [] (am_L0 q, G) (some (.int 1), (am_L0 q2, G2)) → am_Rn (am_X0 L xs) 100 (some .boolean) am_J0 18 (am_lv i) [] (am_L0 q, G) (some (.int 1), (am_L0 q2, G2)) := fun q2 G2 h => by
        rw [am_lawH hL h6, e, am_tsw_k ⟨k, hk⟩, am_os_some]
        exact h
      by_cases hk37 : k < 37
      · match k, hk37, go with
        | 0, _, go =>
          obtain ⟨r, r2, q1, G1, G2, s1, e1, e2, hI1, hc1⟩ := am_st_2 (am_op0 hs hc (xs (i + 1)) (xs (i + 2))).t L xs q hI
          obtain ⟨q2, G3, g⟩ := nxt q1 G2 s1 hI1 hc1
          exact ⟨q2, G3, go q2 G3 ((am_lk0 (q1 := q1) (q2 := q1) (r := r) (r2 := r2) hL h6 e1 e2).mpr g)⟩
        | 1, _, go =>
          obtain ⟨r, r2, q1, G1, G2, s1, e1, e2, hI1, hc1⟩ := am_st_2 (am_op1 hs hc (xs (i + 1)) (xs (i + 2))).t L xs q hI
          obtain ⟨q2, G3, g⟩ := nxt q1 G2 s1 hI1 hc1
          exact ⟨q2, G3, go q2 G3 ((am_lk1 (q1 := q1) (q2 := q1) (r := r) (r2 := r2) hL h6 e1 e2).mpr g)⟩
        | 2, _, go =>
          obtain ⟨r, r2, q1, G1, G2, s1, e1, e2, hI1, hc1⟩ := am_st_2 (am_op2 hs hc (xs (i + 1)) (xs (i + 2)) (xs (i + 3))).t L xs q hI
          obtain ⟨q2, G3, g⟩ := nxt q1 G2 s1 hI1 hc1
          exact ⟨q2, G3, go q2 G3 ((am_lk2 (q1 := q1) (q2 := q1) (r := r) (r2 := r2) hL h6 e1 e2).mpr g)⟩
        | 3, _, go =>
          obtain ⟨r, r2, q1, G1, G2, s1, e1, e2, hI1, hc1⟩ := am_st_2 (am_op3 hs hc (xs (i + 1)) (xs (i + 2)) (xs (i + 3))).t L xs q hI
          obtain ⟨q2, G3, g⟩ := nxt q1 G2 s1 hI1 hc1
          exact ⟨q2, G3, go q2 G3 ((am_lk3 (q1 := q1) (q2 := q1) (r := r) (r2 := r2) hL h6 e1 e2).mpr g)⟩
        | 4, _, go =>
          obtain ⟨r, r2, q1, G1, G2, s1, e1, e2, hI1, hc1⟩ := am_st_2 (am_op4 hs hc (xs (i + 1)) (xs (i + 2))).t L xs q hI
          obtain ⟨q2, G3, g⟩ := nxt q1 G2 s1 hI1 hc1
          exact ⟨q2, G3, go q2 G3 ((am_lk4 (q1 := q1) (q2 := q1) (r := r) (r2 := r2) hL h6 e1 e2).mpr g)⟩
        | 5, _, go =>
          obtain ⟨r, r2, q1, G1, G2, s1, e1, e2, hI1, hc1⟩ := am_st_2 (am_op5 hs hc (xs (i + 1)) (xs (i + 2))).t L xs q hI
          obtain ⟨q2, G3, g⟩ := nxt q1 G2 s1 hI1 hc1
          exact ⟨q2, G3, go q2 G3 ((am_lk5 (q1 := q1) (q2 := q1) (r := r) (r2 := r2) hL h6 e1 e2).mpr g)⟩
        | 6, _, go =>
          obtain ⟨r, r2, q1, G1, G2, s1, e1, e2, hI1, hc1⟩ := am_st_2 (am_op6 hs hc (xs (i + 1)) (xs (i + 2))).t L xs q hI
          obtain ⟨q2, G3, g⟩ := nxt q1 G2 s1 hI1 hc1
          exact ⟨q2, G3, go q2 G3 ((am_lk6 (q1 := q1) (q2 := q1) (r := r) (r2 := r2) hL h6 e1 e2).mpr g)⟩
        | 7, _, go =>
          obtain ⟨r, r2, q1, G1, G2, s1, e1, e2, hI1, hc1⟩ := am_st_2 (am_op7 hs hc _ (xs (i + 3))).t L xs q hI
          obtain ⟨q2, G3, g⟩ := nxt q1 G2 s1 hI1 hc1
          exact ⟨q2, G3, go q2 G3 ((am_lk7 (q1 := q1) (q2 := q1) (r := r) (r2 := r2) hL h6 e1 e2).mpr g)⟩
        | 8, _, go =>
          obtain ⟨r, r2, q1, G1, G2, s1, e1, e2, hI1, hc1⟩ := am_st_2 (am_op8 hs hc (xs (i + 1))).t L xs q hI
          obtain ⟨q2, G3, g⟩ := nxt q1 G2 s1 hI1 hc1
          exact ⟨q2, G3, go q2 G3 ((am_lk8 (q1 := q1) (q2 := q1) (r := r) (r2 := r2) hL h6 e1 e2).mpr g)⟩
        | 9, _, go =>
          obtain ⟨r, r2, q1, G1, G2, s1, e1, e2, hI1, hc1⟩ := am_st_2 (am_op9 hs hc (xs (i + 1)) (xs (i + 2)) (xs (i + 3)) (xs (i + 4))).t L xs q hI
          obtain ⟨q2, G3, g⟩ := nxt q1 G2 s1 hI1 hc1
          exact ⟨q2, G3, go q2 G3 ((am_lk9 (q1 := q1) (q2 := q1) (r := r) (r2 := r2) hL h6 e1 e2).mpr g)⟩
        | 10, _, go =>
          obtain ⟨r, r2, q1, G1, G2, s1, e1, e2, hI1, hc1⟩ := am_st_2 (am_op10 hs hc (xs (i + 1))).t L xs q hI
          obtain ⟨q2, G3, g⟩ := nxt q1 G2 s1 hI1 hc1
          exact ⟨q2, G3, go q2 G3 ((am_lk10 (q1 := q1) (q2 := q1) (r := r) (r2 := r2) hL h6 e1 e2).mpr g)⟩
        | 11, _, go =>
          obtain ⟨r, r2, q1, G1, G2, s1, e1, e2, hI1, hc1⟩ := am_st_2 (am_op11 hs hc (xs (i + 1))).t L xs q hI
          obtain ⟨q2, G3, g⟩ := nxt q1 G2 s1 hI1 hc1
          exact ⟨q2, G3, go q2 G3 ((am_lk11 (q1 := q1) (q2 := q1) (r := r) (r2 := r2) hL h6 e1 e2).mpr g)⟩
        | 12, _, go =>
          obtain ⟨r, r2, q1, G1, G2, s1, e1, e2, hI1, hc1⟩ := am_st_2 (am_op12 hs hc ).t L xs q hI
          obtain ⟨q2, G3, g⟩ := nxt q1 G2 s1 hI1 hc1
          exact ⟨q2, G3, go q2 G3 ((am_lk12 (q1 := q1) (q2 := q1) (r := r) (r2 := r2) hL h6 e1 e2).mpr g)⟩
        | 13, _, go =>
          obtain ⟨r, r2, q1, G1, G2, s1, e1, e2, hI1, hc1⟩ := am_st_2 (am_op13 hs hc (xs (i + 1)) (xs (i + 2)) (xs (i + 3))).t L xs q hI
          obtain ⟨q2, G3, g⟩ := nxt q1 G2 s1 hI1 hc1
          exact ⟨q2, G3, go q2 G3 ((am_lk13 (q1 := q1) (q2 := q1) (r := r) (r2 := r2) hL h6 e1 e2).mpr g)⟩
        | 14, _, go =>
          obtain ⟨r, r2, q1, G1, G2, s1, e1, e2, hI1, hc1⟩ := am_st_2 (am_op14 hs hc (xs (i + 1)) (xs (i + 2))).t L xs q hI
          obtain ⟨q2, G3, g⟩ := nxt q1 G2 s1 hI1 hc1
          exact ⟨q2, G3, go q2 G3 ((am_lk14 (q1 := q1) (q2 := q1) (r := r) (r2 := r2) hL h6 e1 e2).mpr g)⟩
        | 15, _, go =>
          obtain ⟨r, r2, q1, G1, G2, s1, e1, e2, hI1, hc1⟩ := am_st_2 (am_op15 hs hc (xs (i + 1)) (xs (i + 2))).t L xs q hI
          obtain ⟨q2, G3, g⟩ := nxt q1 G2 s1 hI1 hc1
          exact ⟨q2, G3, go q2 G3 ((am_lk15 (q1 := q1) (q2 := q1) (r := r) (r2 := r2) hL h6 e1 e2).mpr g)⟩
        | 16, _, go =>
          obtain ⟨r, r2, q1, G1, G2, s1, e1, e2, hI1, hc1⟩ := am_st_2 (am_op16 hs hc (xs (i + 1)) (xs (i + 2))).t L xs q hI
          obtain ⟨q2, G3, g⟩ := nxt q1 G2 s1 hI1 hc1
          exact ⟨q2, G3, go q2 G3 ((am_lk16 (q1 := q1) (q2 := q1) (r := r) (r2 := r2) hL h6 e1 e2).mpr g)⟩
        | 17, _, go =>
          obtain ⟨r, r2, q1, G1, G2, s1, e1, e2, hI1, hc1⟩ := am_st_2 (am_op17 hs hc ).t L xs q hI
          obtain ⟨q2, G3, g⟩ := nxt q1 G2 s1 hI1 hc1
          exact ⟨q2, G3, go q2 G3 ((am_lk17 (q1 := q1) (q2 := q1) (r := r) (r2 := r2) hL h6 e1 e2).mpr g)⟩
        | 18, _, go =>
          obtain ⟨r, r2, q1, G1, G2, s1, e1, e2, hI1, hc1⟩ := am_st_2 (am_op18 hs hc (xs (i + 1)) (xs (i + 2))).t L xs q hI
          obtain ⟨q2, G3, g⟩ := nxt q1 G2 s1 hI1 hc1
          exact ⟨q2, G3, go q2 G3 ((am_lk18 (q1 := q1) (q2 := q1) (r := r) (r2 := r2) hL h6 e1 e2).mpr g)⟩
        | 19, _, go =>
          obtain ⟨r, r2, q1, G1, G2, s1, e1, e2, hI1, hc1⟩ := am_st_2 (am_op19 hs hc (xs (i + 1))).t L xs q hI
          obtain ⟨q2, G3, g⟩ := nxt q1 G2 s1 hI1 hc1
          exact ⟨q2, G3, go q2 G3 ((am_lk19 (q1 := q1) (q2 := q1) (r := r) (r2 := r2) hL h6 e1 e2).mpr g)⟩
        | 20, _, go =>
          obtain ⟨r, r2, q1, G1, G2, s1, e1, e2, hI1, hc1⟩ := am_st_2 (am_op20 hs hc (xs (i + 1))).t L xs q hI
          obtain ⟨q2, G3, g⟩ := nxt q1 G2 s1 hI1 hc1
          exact ⟨q2, G3, go q2 G3 ((am_lk20 (q1 := q1) (q2 := q1) (r := r) (r2 := r2) hL h6 e1 e2).mpr g)⟩
        | 21, _, go =>
          obtain ⟨r, r2, q1, G1, G2, s1, e1, e2, hI1, hc1⟩ := am_st_2 (am_op21 hs hc (xs (i + 1)) (xs (i + 2))).t L xs q hI
          obtain ⟨q2, G3, g⟩ := nxt q1 G2 s1 hI1 hc1
          exact ⟨q2, G3, go q2 G3 ((am_lk21 (q1 := q1) (q2 := q1) (r := r) (r2 := r2) hL h6 e1 e2).mpr g)⟩
        | 22, _, go =>
          obtain ⟨r, r2, q1, G1, G2, s1, e1, e2, hI1, hc1⟩ := am_st_2 (am_op22 hs hc ).t L xs q hI
          obtain ⟨q2, G3, g⟩ := nxt q1 G2 s1 hI1 hc1
          exact ⟨q2, G3, go q2 G3 ((am_lk22 (q1 := q1) (q2 := q1) (r := r) (r2 := r2) hL h6 e1 e2).mpr g)⟩
        | 23, _, go =>
          obtain ⟨r, r2, q1, G1, G2, s1, e1, e2, hI1, hc1⟩ := am_st_2 (am_op23 hs hc (xs (i + 1))).t L xs q hI
          obtain ⟨q2, G3, g⟩ := nxt q1 G2 s1 hI1 hc1
          exact ⟨q2, G3, go q2 G3 ((am_lk23 (q1 := q1) (q2 := q1) (r := r) (r2 := r2) hL h6 e1 e2).mpr g)⟩
        | 24, _, go =>
          obtain ⟨r, r2, q1, G1, G2, s1, e1, e2, hI1, hc1⟩ := am_st_2 (am_op24 hs hc (xs (i + 1)) (xs (i + 2)) (xs (i + 3))).t L xs q hI
          obtain ⟨q2, G3, g⟩ := nxt q1 G2 s1 hI1 hc1
          exact ⟨q2, G3, go q2 G3 ((am_lk24 (q1 := q1) (q2 := q1) (r := r) (r2 := r2) hL h6 e1 e2).mpr g)⟩
        | 25, _, go =>
          obtain ⟨r, r2, q1, G1, G2, s1, e1, e2, hI1, hc1⟩ := am_st_2 (am_op25 hs hc (xs (i + 1))).t L xs q hI
          obtain ⟨q2, G3, g⟩ := nxt q1 G2 s1 hI1 hc1
          exact ⟨q2, G3, go q2 G3 ((am_lk25 (q1 := q1) (q2 := q1) (r := r) (r2 := r2) hL h6 e1 e2).mpr g)⟩
        | 26, _, go =>
          obtain ⟨r, r2, q1, G1, G2, s1, e1, e2, hI1, hc1⟩ := am_st_2 (am_op26 hs hc (xs (i + 1)) (xs (i + 2)) (xs (i + 3))).t L xs q hI
          obtain ⟨q2, G3, g⟩ := nxt q1 G2 s1 hI1 hc1
          exact ⟨q2, G3, go q2 G3 ((am_lk26 (q1 := q1) (q2 := q1) (r := r) (r2 := r2) hL h6 e1 e2).mpr g)⟩
        | 27, _, go =>
          obtain ⟨r, r2, q1, G1, G2, s1, e1, e2, hI1, hc1⟩ := am_st_2 (am_op27 hs hc (xs (i + 1)) (xs (i + 2)) (xs (i + 3))).t L xs q hI
          obtain ⟨q2, G3, g⟩ := nxt q1 G2 s1 hI1 hc1
          exact ⟨q2, G3, go q2 G3 ((am_lk27 (q1 := q1) (q2 := q1) (r := r) (r2 := r2) hL h6 e1 e2).mpr g)⟩
        | 28, _, go =>
          obtain ⟨r, r2, q1, G1, G2, s1, e1, e2, hI1, hc1⟩ := am_st_2 (am_op28 hs hc (xs (i + 1)) (xs (i + 2)) (xs (i + 3)) (xs (i + 4)) (xs (i + 5))).t L xs q hI
          obtain ⟨q2, G3, g⟩ := nxt q1 G2 s1 hI1 hc1
          exact ⟨q2, G3, go q2 G3 ((am_lk28 (q1 := q1) (q2 := q1) (r := r) (r2 := r2) hL h6 e1 e2).mpr g)⟩
        | 29, _, go =>
          obtain ⟨r, r2, q1, G1, G2, s1, e1, e2, hI1, hc1⟩ := am_st_2 (am_op29 hs hc (xs (i + 1))).t L xs q hI
          obtain ⟨q2, G3, g⟩ := nxt q1 G2 s1 hI1 hc1
          exact ⟨q2, G3, go q2 G3 ((am_lk29 (q1 := q1) (q2 := q1) (r := r) (r2 := r2) hL h6 e1 e2).mpr g)⟩
        | 30, _, go =>
          obtain ⟨r, r2, q1, G1, G2, s1, e1, e2, hI1, hc1⟩ := am_st_2 (am_op30 hs hc (xs (i + 1))) L xs q hI
          obtain ⟨q2, G3, g⟩ := nxt q1 G2 s1 hI1 hc1
          exact ⟨q2, G3, go q2 G3 ((am_lk30 (q1 := q1) (q2 := q1) (r := r) (r2 := r2) hL h6 e1 e2).mpr g)⟩
        | 31, _, go =>
          obtain ⟨r, r2, q1, G1, G2, s1, e1, e2, hI1, hc1⟩ := am_st_2 (am_op31 hs hc ).t L xs q hI
          obtain ⟨q2, G3, g⟩ := nxt q1 G2 s1 hI1 hc1
          exact ⟨q2, G3, go q2 G3 ((am_lk31 (q1 := q1) (q2 := q1) (r := r) (r2 := r2) hL h6 e1 e2).mpr g)⟩
        | 32, _, go =>
          obtain ⟨r, r2, q1, G1, G2, s1, e1, e2, hI1, hc1⟩ := am_st_2 (am_op32 hs hc ).t L xs q hI
          obtain ⟨q2, G3, g⟩ := nxt q1 G2 s1 hI1 hc1
          exact ⟨q2, G3, go q2 G3 ((am_lk32 (q1 := q1) (q2 := q1) (r := r) (r2 := r2) hL h6 e1 e2).mpr g)⟩
        | 33, _, go =>
          obtain ⟨r, r2, q1, G1, G2, s1, e1, e2, hI1, hc1⟩ := am_st_2 (am_op33 hs hc (xs (i + 1))).t L xs q hI
          obtain ⟨q2, G3, g⟩ := nxt q1 G2 s1 hI1 hc1
          exact ⟨q2, G3, go q2 G3 ((am_lk33 (q1 := q1) (q2 := q1) (r := r) (r2 := r2) hL h6 e1 e2).mpr g)⟩
        | 34, _, go =>
          obtain ⟨r, r2, q1, G1, G2, s1, e1, e2, hI1, hc1⟩ := am_st_2 (am_op34 hs hc ).t L xs q hI
          obtain ⟨q2, G3, g⟩ := nxt q1 G2 s1 hI1 hc1
          exact ⟨q2, G3, go q2 G3 ((am_lk34 (q1 := q1) (q2 := q1) (r := r) (r2 := r2) hL h6 e1 e2).mpr g)⟩
        | 35, _, go =>
          obtain ⟨r, r2, q1, G1, G2, s1, e1, e2, hI1, hc1⟩ := am_st_2 (am_op35 hs hc (xs (i + 1))).t L xs q hI
          obtain ⟨q2, G3, g⟩ := nxt q1 G2 s1 hI1 hc1
          exact ⟨q2, G3, go q2 G3 ((am_lk35 (q1 := q1) (q2 := q1) (r := r) (r2 := r2) hL h6 e1 e2).mpr g)⟩
        | 36, _, go =>
          obtain ⟨r, q1, G1, G2, s1, e1, e2, hI1, hc1⟩ := am_st_eq (am_op36 hs hc (xs (i + 1))) L xs q hI
          obtain ⟨q2, G3, g⟩ := nxt q1 G2 s1 hI1 hc1
          exact ⟨q2, G3, go q2 G3 ((am_lk36 (q1 := q1) (q2 := q1) (r := r) hL h6 e1 e2).mpr g)⟩
        | k + 37, h, _ => omega
      · have et : am_tgt k = 1317 := by
          have : ∀ k : Fin 64, ¬ k.1 < 37 → am_tgt k.1 = 1317 := by decide +kernel
          exact this ⟨k, hk⟩ hk37
        obtain ⟨q2, G2, g⟩ := nxt q G s hI (by omega)
        exact ⟨q2, G2, go q2 G2 (by rw [et]; exact g)⟩
    · exact ⟨q, G, am_lawX hL hi h6⟩
theorem am_all (hL : L ≤ 3072) : ∃ (q : Nat) (G : am_G), am_Rn (am_X0 L xs) 100 (some .boolean) am_J0 18 am_lv0 [] (am_L0 1000, am_g0) (some (.int 1), (am_L0 q, G)) := am_loop hL L 0 1000 am_g0 am_s0 (by omega) (by decide) am_IV0 (Nat.le_refl _)
end AMLP
