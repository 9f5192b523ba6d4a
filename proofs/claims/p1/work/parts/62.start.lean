/-! the claim: one round of the law on the fresh world -/
theorem am_and63 (x : Int32) : ∃ k, k < 64 ∧ x &&& 63 = nI k := by
  refine ⟨(x.toBitVec &&& 63#32).toNat, ?_, ?_⟩
  · rw [BitVec.toNat_and]
    exact Nat.lt_of_le_of_lt Nat.and_le_right (by decide)
  · apply Int32.toBitVec_inj.mp
    rw [Int32.toBitVec_and]
    show x.toBitVec &&& 63#32 = (Int32.ofNat (x.toBitVec &&& 63#32).toNat).toBitVec
    rw [Int32.toBitVec_ofNat', BitVec.ofNat_toNat, BitVec.setWidth_eq]
def am_tgt (k : Nat) : Nat := ([196, 229, 262, 305, 348, 381, 414, 447, 510, 533, 586, 609, 632, 645, 688, 721, 754, 787, 800, 833, 856, 879, 912, 925, 948, 991, 1014, 1057, 1100, 1163, 1186, 1209, 1222, 1235, 1258, 1271, 1294] : List Nat).getD k 1317
theorem am_tsw_k : ∀ k : Fin 64, am_tsw 33 1284 0 36 #[163, 196, 229, 272, 315, 348, 381, 414, 477, 500, 553, 576, 599, 612, 655, 688, 721, 754, 767, 800, 823, 846, 879, 892, 915, 958, 981, 1024, 1067, 1130, 1153, 1176, 1189, 1202, 1225, 1238, 1261] (nI k.1) = some (am_tgt k.1) := by decide +kernel
section AMST
variable {xs : Nat → Int32}
theorem am_round : ∃ (q : Nat) (G : am_G), am_Rn (am_X0 6 xs) 50 (some .boolean) am_J0 18 (am_lv 0) [] (am_L0 1000, am_g0) (some (.int 1), (am_L0 q, G)) := by
  obtain ⟨k, hk, e⟩ := am_and63 (xs 0)
  have hL : 6 ≤ 3072 := by decide
  have h6 : 0 + 6 ≤ 6 := by decide
  have key : ∀ (q : Nat) (G : am_G), am_Rn (am_X0 6 xs) 50 (some .boolean) am_J0 1317 (am_lv 0) [] (am_L0 q, G) (some (.int 1), (am_L0 q, G)) := fun q G => by
    rw [am_lawN]
    exact am_lawX hL (by decide) (by decide)
  have ht := am_tsw_k ⟨k, hk⟩
  dsimp only at ht
  simp only [am_lawH hL h6, e, ht, am_os_some]
  clear ht e
  match k, hk with
  | 0, _ =>
    obtain ⟨r, q, G1, G2, e1, e2⟩ := am_gl0 (xs 1) (xs 2) (am_X0 6 xs)
    refine ⟨q, G2, ?_⟩
    show am_Rn _ _ _ am_J0 196 (am_lv 0) [] _ _
    rw [am_lk0 (i := 0) (q1 := q) (q2 := q) (r := r) hL h6 e1 e2]
    exact key q G2
  | 1, _ =>
    obtain ⟨r, q, G1, G2, e1, e2⟩ := am_gl1 (xs 1) (xs 2) (am_X0 6 xs)
    refine ⟨q, G2, ?_⟩
    show am_Rn _ _ _ am_J0 229 (am_lv 0) [] _ _
    rw [am_lk1 (i := 0) (q1 := q) (q2 := q) (r := r) hL h6 e1 e2]
    exact key q G2
  | 2, _ =>
    obtain ⟨r, q, G1, G2, e1, e2⟩ := am_gl2 (xs 1) (xs 2) (xs 3) (am_X0 6 xs)
    refine ⟨q, G2, ?_⟩
    show am_Rn _ _ _ am_J0 262 (am_lv 0) [] _ _
    rw [am_lk2 (i := 0) (q1 := q) (q2 := q) (r := r) hL h6 e1 e2]
    exact key q G2
  | 3, _ =>
    obtain ⟨r, q, G1, G2, e1, e2⟩ := am_gl3 (xs 1) (xs 2) (xs 3) (am_X0 6 xs)
    refine ⟨q, G2, ?_⟩
    show am_Rn _ _ _ am_J0 305 (am_lv 0) [] _ _
    rw [am_lk3 (i := 0) (q1 := q) (q2 := q) (r := r) hL h6 e1 e2]
    exact key q G2
  | 4, _ =>
    obtain ⟨r, q, G1, G2, e1, e2⟩ := am_gl4 (xs 1) (xs 2) (am_X0 6 xs)
    refine ⟨q, G2, ?_⟩
    show am_Rn _ _ _ am_J0 348 (am_lv 0) [] _ _
    rw [am_lk4 (i := 0) (q1 := q) (q2 := q) (r := r) hL h6 e1 e2]
    exact key q G2
  | 5, _ =>
    obtain ⟨r, q, G1, G2, e1, e2⟩ := am_gl5 (xs 1) (xs 2) (am_X0 6 xs)
    refine ⟨q, G2, ?_⟩
    show am_Rn _ _ _ am_J0 381 (am_lv 0) [] _ _
    rw [am_lk5 (i := 0) (q1 := q) (q2 := q) (r := r) hL h6 e1 e2]
    exact key q G2
  | 6, _ =>
    obtain ⟨r, q, G1, G2, e1, e2⟩ := am_gl6 (xs 1) (xs 2) (am_X0 6 xs)
    refine ⟨q, G2, ?_⟩
    show am_Rn _ _ _ am_J0 414 (am_lv 0) [] _ _
    rw [am_lk6 (i := 0) (q1 := q) (q2 := q) (r := r) hL h6 e1 e2]
    exact key q G2
  | 7, _ =>
    obtain ⟨r, q, G1, G2, e1, e2⟩ := am_gl7 ((xs 1).toInt64 <<< ((32 : Int32).toInt64 &&& 63) ||| (xs 2).toInt64 &&& Int64.ofNat 4294967295) (xs 3) (am_X0 6 xs)
    refine ⟨q, G2, ?_⟩
    show am_Rn _ _ _ am_J0 447 (am_lv 0) [] _ _
    rw [am_lk7 (i := 0) (q1 := q) (q2 := q) (r := r) hL h6 e1 e2]
    exact key q G2
  | 8, _ =>
    obtain ⟨r, q, G1, G2, e1, e2⟩ := am_gl8 (xs 1) (am_X0 6 xs)
    refine ⟨q, G2, ?_⟩
    show am_Rn _ _ _ am_J0 510 (am_lv 0) [] _ _
    rw [am_lk8 (i := 0) (q1 := q) (q2 := q) (r := r) hL h6 e1 e2]
    exact key q G2
  | 9, _ =>
    obtain ⟨r, q, G1, G2, e1, e2⟩ := am_gl9 (xs 1) (xs 2) (xs 3) (xs 4) (am_X0 6 xs)
    refine ⟨q, G2, ?_⟩
    show am_Rn _ _ _ am_J0 533 (am_lv 0) [] _ _
    rw [am_lk9 (i := 0) (q1 := q) (q2 := q) (r := r) hL h6 e1 e2]
    exact key q G2
  | 10, _ =>
    obtain ⟨r, q, G1, G2, e1, e2⟩ := am_gl10 (xs 1) (am_X0 6 xs)
    refine ⟨q, G2, ?_⟩
    show am_Rn _ _ _ am_J0 586 (am_lv 0) [] _ _
    rw [am_lk10 (i := 0) (q1 := q) (q2 := q) (r := r) hL h6 e1 e2]
    exact key q G2
  | 11, _ =>
    obtain ⟨r, q, G1, G2, e1, e2⟩ := am_gl11 (xs 1) (am_X0 6 xs)
    refine ⟨q, G2, ?_⟩
    show am_Rn _ _ _ am_J0 609 (am_lv 0) [] _ _
    rw [am_lk11 (i := 0) (q1 := q) (q2 := q) (r := r) hL h6 e1 e2]
    exact key q G2
  | 12, _ =>
    obtain ⟨r, q, G1, G2, e1, e2⟩ := am_gl12  (am_X0 6 xs)
    refine ⟨q, G2, ?_⟩
    show am_Rn _ _ _ am_J0 632 (am_lv 0) [] _ _
    rw [am_lk12 (i := 0) (q1 := q) (q2 := q) (r := r) hL h6 e1 e2]
    exact key q G2
  | 13, _ =>
    obtain ⟨r, q, G1, G2, e1, e2⟩ := am_gl13 (xs 1) (xs 2) (xs 3) (am_X0 6 xs)
    refine ⟨q, G2, ?_⟩
    show am_Rn _ _ _ am_J0 645 (am_lv 0) [] _ _
    rw [am_lk13 (i := 0) (q1 := q) (q2 := q) (r := r) hL h6 e1 e2]
    exact key q G2
  | 14, _ =>
    obtain ⟨r, q, G1, G2, e1, e2⟩ := am_gl14 (xs 1) (xs 2) (am_X0 6 xs)
    refine ⟨q, G2, ?_⟩
    show am_Rn _ _ _ am_J0 688 (am_lv 0) [] _ _
    rw [am_lk14 (i := 0) (q1 := q) (q2 := q) (r := r) hL h6 e1 e2]
    exact key q G2
  | 15, _ =>
    obtain ⟨r, q, G1, G2, e1, e2⟩ := am_gl15 (xs 1) (xs 2) (am_X0 6 xs)
    refine ⟨q, G2, ?_⟩
    show am_Rn _ _ _ am_J0 721 (am_lv 0) [] _ _
    rw [am_lk15 (i := 0) (q1 := q) (q2 := q) (r := r) hL h6 e1 e2]
    exact key q G2
  | 16, _ =>
    obtain ⟨r, q, G1, G2, e1, e2⟩ := am_gl16 (xs 1) (xs 2) (am_X0 6 xs)
    refine ⟨q, G2, ?_⟩
    show am_Rn _ _ _ am_J0 754 (am_lv 0) [] _ _
    rw [am_lk16 (i := 0) (q1 := q) (q2 := q) (r := r) hL h6 e1 e2]
    exact key q G2
  | 17, _ =>
    obtain ⟨r, q, G1, G2, e1, e2⟩ := am_gl17  (am_X0 6 xs)
    refine ⟨q, G2, ?_⟩
    show am_Rn _ _ _ am_J0 787 (am_lv 0) [] _ _
    rw [am_lk17 (i := 0) (q1 := q) (q2 := q) (r := r) hL h6 e1 e2]
    exact key q G2
  | 18, _ =>
    obtain ⟨r, q, G1, G2, e1, e2⟩ := am_gl18 (xs 1) (xs 2) (am_X0 6 xs)
    refine ⟨q, G2, ?_⟩
    show am_Rn _ _ _ am_J0 800 (am_lv 0) [] _ _
    rw [am_lk18 (i := 0) (q1 := q) (q2 := q) (r := r) hL h6 e1 e2]
    exact key q G2
  | 19, _ =>
    obtain ⟨r, q, G1, G2, e1, e2⟩ := am_gl19 (xs 1) (am_X0 6 xs)
    refine ⟨q, G2, ?_⟩
    show am_Rn _ _ _ am_J0 833 (am_lv 0) [] _ _
    rw [am_lk19 (i := 0) (q1 := q) (q2 := q) (r := r) hL h6 e1 e2]
    exact key q G2
  | 20, _ =>
    obtain ⟨r, q, G1, G2, e1, e2⟩ := am_gl20 (xs 1) (am_X0 6 xs)
    refine ⟨q, G2, ?_⟩
    show am_Rn _ _ _ am_J0 856 (am_lv 0) [] _ _
    rw [am_lk20 (i := 0) (q1 := q) (q2 := q) (r := r) hL h6 e1 e2]
    exact key q G2
  | 21, _ =>
    obtain ⟨r, q, G1, G2, e1, e2⟩ := am_gl21 (xs 1) (xs 2) (am_X0 6 xs)
    refine ⟨q, G2, ?_⟩
    show am_Rn _ _ _ am_J0 879 (am_lv 0) [] _ _
    rw [am_lk21 (i := 0) (q1 := q) (q2 := q) (r := r) hL h6 e1 e2]
    exact key q G2
  | 22, _ =>
    obtain ⟨r, q, G1, G2, e1, e2⟩ := am_gl22  (am_X0 6 xs)
    refine ⟨q, G2, ?_⟩
    show am_Rn _ _ _ am_J0 912 (am_lv 0) [] _ _
    rw [am_lk22 (i := 0) (q1 := q) (q2 := q) (r := r) hL h6 e1 e2]
    exact key q G2
  | 23, _ =>
    obtain ⟨r, q, G1, G2, e1, e2⟩ := am_gl23 (xs 1) (am_X0 6 xs)
    refine ⟨q, G2, ?_⟩
    show am_Rn _ _ _ am_J0 925 (am_lv 0) [] _ _
    rw [am_lk23 (i := 0) (q1 := q) (q2 := q) (r := r) hL h6 e1 e2]
    exact key q G2
  | 24, _ =>
    obtain ⟨r, q, G1, G2, e1, e2⟩ := am_gl24 (xs 1) (xs 2) (xs 3) (am_X0 6 xs)
    refine ⟨q, G2, ?_⟩
    show am_Rn _ _ _ am_J0 948 (am_lv 0) [] _ _
    rw [am_lk24 (i := 0) (q1 := q) (q2 := q) (r := r) hL h6 e1 e2]
    exact key q G2
  | 25, _ =>
    obtain ⟨r, q, G1, G2, e1, e2⟩ := am_gl25 (xs 1) (am_X0 6 xs)
    refine ⟨q, G2, ?_⟩
    show am_Rn _ _ _ am_J0 991 (am_lv 0) [] _ _
    rw [am_lk25 (i := 0) (q1 := q) (q2 := q) (r := r) hL h6 e1 e2]
    exact key q G2
  | 26, _ =>
    obtain ⟨r, q, G1, G2, e1, e2⟩ := am_gl26 (xs 1) (xs 2) (xs 3) (am_X0 6 xs)
    refine ⟨q, G2, ?_⟩
    show am_Rn _ _ _ am_J0 1014 (am_lv 0) [] _ _
    rw [am_lk26 (i := 0) (q1 := q) (q2 := q) (r := r) hL h6 e1 e2]
    exact key q G2
  | 27, _ =>
    obtain ⟨r, q, G1, G2, e1, e2⟩ := am_gl27 (xs 1) (xs 2) (xs 3) (am_X0 6 xs)
    refine ⟨q, G2, ?_⟩
    show am_Rn _ _ _ am_J0 1057 (am_lv 0) [] _ _
    rw [am_lk27 (i := 0) (q1 := q) (q2 := q) (r := r) hL h6 e1 e2]
    exact key q G2
  | 28, _ =>
    obtain ⟨r, q, G1, G2, e1, e2⟩ := am_gl28 (xs 1) (xs 2) (xs 3) (xs 4) (xs 5) (am_X0 6 xs)
    refine ⟨q, G2, ?_⟩
    show am_Rn _ _ _ am_J0 1100 (am_lv 0) [] _ _
    rw [am_lk28 (i := 0) (q1 := q) (q2 := q) (r := r) hL h6 e1 e2]
    exact key q G2
  | 29, _ =>
    obtain ⟨r, q, G1, G2, e1, e2⟩ := am_gl29 (xs 1) (am_X0 6 xs)
    refine ⟨q, G2, ?_⟩
    show am_Rn _ _ _ am_J0 1163 (am_lv 0) [] _ _
    rw [am_lk29 (i := 0) (q1 := q) (q2 := q) (r := r) hL h6 e1 e2]
    exact key q G2
  | 30, _ =>
    obtain ⟨r, q, G1, G2, e1, e2⟩ := am_gl30 (xs 1) (am_X0 6 xs)
    refine ⟨q, G2, ?_⟩
    show am_Rn _ _ _ am_J0 1186 (am_lv 0) [] _ _
    rw [am_lk30 (i := 0) (q1 := q) (q2 := q) (r := r) hL h6 e1 e2]
    exact key q G2
  | 31, _ =>
    obtain ⟨r, q, G1, G2, e1, e2⟩ := am_gl31  (am_X0 6 xs)
    refine ⟨q, G2, ?_⟩
    show am_Rn _ _ _ am_J0 1209 (am_lv 0) [] _ _
    rw [am_lk31 (i := 0) (q1 := q) (q2 := q) (r := r) hL h6 e1 e2]
    exact key q G2
  | 32, _ =>
    obtain ⟨r, q, G1, G2, e1, e2⟩ := am_gl32  (am_X0 6 xs)
    refine ⟨q, G2, ?_⟩
    show am_Rn _ _ _ am_J0 1222 (am_lv 0) [] _ _
    rw [am_lk32 (i := 0) (q1 := q) (q2 := q) (r := r) hL h6 e1 e2]
    exact key q G2
  | 33, _ =>
    obtain ⟨r, q, G1, G2, e1, e2⟩ := am_gl33 (xs 1) (am_X0 6 xs)
    refine ⟨q, G2, ?_⟩
    show am_Rn _ _ _ am_J0 1235 (am_lv 0) [] _ _
    rw [am_lk33 (i := 0) (q1 := q) (q2 := q) (r := r) hL h6 e1 e2]
    exact key q G2
  | 34, _ =>
    obtain ⟨r, q, G1, G2, e1, e2⟩ := am_gl34  (am_X0 6 xs)
    refine ⟨q, G2, ?_⟩
    show am_Rn _ _ _ am_J0 1258 (am_lv 0) [] _ _
    rw [am_lk34 (i := 0) (q1 := q) (q2 := q) (r := r) hL h6 e1 e2]
    exact key q G2
  | 35, _ =>
    obtain ⟨r, q, G1, G2, e1, e2⟩ := am_gl35 (xs 1) (am_X0 6 xs)
    refine ⟨q, G2, ?_⟩
    show am_Rn _ _ _ am_J0 1271 (am_lv 0) [] _ _
    rw [am_lk35 (i := 0) (q1 := q) (q2 := q) (r := r) hL h6 e1 e2]
    exact key q G2
  | 36, _ =>
    obtain ⟨r, q, G1, G2, e1, e2⟩ := am_gl36 (xs 1) (am_X0 6 xs)
    refine ⟨q, G2, ?_⟩
    show am_Rn _ _ _ am_J0 1294 (am_lv 0) [] _ _
    rw [am_lk36 (i := 0) (q1 := q) (q2 := q) (r := r) hL h6 e1 e2]
    exact key q G2
  | 37, _ => exact ⟨1000, am_g0, key 1000 am_g0⟩
  | 38, _ => exact ⟨1000, am_g0, key 1000 am_g0⟩
  | 39, _ => exact ⟨1000, am_g0, key 1000 am_g0⟩
  | 40, _ => exact ⟨1000, am_g0, key 1000 am_g0⟩
  | 41, _ => exact ⟨1000, am_g0, key 1000 am_g0⟩
  | 42, _ => exact ⟨1000, am_g0, key 1000 am_g0⟩
  | 43, _ => exact ⟨1000, am_g0, key 1000 am_g0⟩
  | 44, _ => exact ⟨1000, am_g0, key 1000 am_g0⟩
  | 45, _ => exact ⟨1000, am_g0, key 1000 am_g0⟩
  | 46, _ => exact ⟨1000, am_g0, key 1000 am_g0⟩
  | 47, _ => exact ⟨1000, am_g0, key 1000 am_g0⟩
  | 48, _ => exact ⟨1000, am_g0, key 1000 am_g0⟩
  | 49, _ => exact ⟨1000, am_g0, key 1000 am_g0⟩
  | 50, _ => exact ⟨1000, am_g0, key 1000 am_g0⟩
  | 51, _ => exact ⟨1000, am_g0, key 1000 am_g0⟩
  | 52, _ => exact ⟨1000, am_g0, key 1000 am_g0⟩
  | 53, _ => exact ⟨1000, am_g0, key 1000 am_g0⟩
  | 54, _ => exact ⟨1000, am_g0, key 1000 am_g0⟩
  | 55, _ => exact ⟨1000, am_g0, key 1000 am_g0⟩
  | 56, _ => exact ⟨1000, am_g0, key 1000 am_g0⟩
  | 57, _ => exact ⟨1000, am_g0, key 1000 am_g0⟩
  | 58, _ => exact ⟨1000, am_g0, key 1000 am_g0⟩
  | 59, _ => exact ⟨1000, am_g0, key 1000 am_g0⟩
  | 60, _ => exact ⟨1000, am_g0, key 1000 am_g0⟩
  | 61, _ => exact ⟨1000, am_g0, key 1000 am_g0⟩
  | 62, _ => exact ⟨1000, am_g0, key 1000 am_g0⟩
  | 63, _ => exact ⟨1000, am_g0, key 1000 am_g0⟩
  | k + 64, h => omega
theorem am_all {L : Nat} (hL : L ≤ 6) : ∃ (q : Nat) (G : am_G), am_Rn (am_X0 L xs) 50 (some .boolean) am_J0 18 am_lv0 [] (am_L0 1000, am_g0) (some (.int 1), (am_L0 q, G)) := by
  by_cases h : L = 6
  · subst h
    exact am_round
  · exact ⟨1000, am_g0, am_lawX (i := 0) (by omega) (by decide) (by omega)⟩
set_option maxRecDepth 100000 in
theorem am_sl_q (q : Nat) : am_sl (am_L0 q) = am_sl (am_L0 1000) ∧ (am_L0 q).length = (am_L0 1000).length := ⟨rfl, rfl⟩
theorem am_sl_1000 : am_sl (am_L0 1000) ≤ 7302250 ∧ (am_L0 1000).length ≤ 600000 := by decide +kernel
theorem am_L0_room (q : Nat) : (am_L0 q).length ≤ 600000 ∧ am_sl (am_L0 q) ≤ 7302250 := by
  rw [(am_sl_q q).1, (am_sl_q q).2]
  exact ⟨am_sl_1000.2, am_sl_1000.1⟩
end AMST
