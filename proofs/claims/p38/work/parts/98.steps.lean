/-! every call of the class beside the reference's: one step of the state -/
def am_cfS (G : am_G) (s : am_St) : Prop := am_cfl G s.1 s.2.1 s.2.2.1 s.2.2.2.1 s.2.2.2.2.1 s.2.2.2.2.2
def am_T2 (tc tr : Nat) (as : List Value) (s : am_St) : Prop := ∃ r r2 : Int32 × am_St, am_cO tc as s r ∧ am_rO tr as s r2 ∧ r2.2 = r.2 ∧ am_oks r.2 ∧ r.2.2.2.1 ≤ s.2.2.1 + 1
def am_E2 (tc tr : Nat) (as : List Value) (s : am_St) : Prop := ∃ r : Int32 × am_St, am_cO tc as s r ∧ am_rO tr as s r ∧ am_oks r.2 ∧ r.2.2.2.1 ≤ s.2.2.1 + 1
theorem am_E2.t {tc tr : Nat} {as : List Value} {s : am_St} (h : am_E2 tc tr as s) : am_T2 tc tr as s := by
  obtain ⟨r, h1, h2, h3, h4⟩ := h
  exact ⟨r, r, h1, h2, rfl, h3, h4⟩
/-- class and reference hold the same state -/
def am_IV (G : am_G) (s : am_St) : Prop := am_cfS G s ∧ am_rfl G s ∧ am_oks s
theorem am_two {tc tr : Nat} {as : List Value} {s : am_St} {r r2 : Int32 × am_St} (h1 : am_cO tc as s r) (h2 : am_rO tr as s r2) (h3 : r2.2 = r.2) (h4 : am_oks r.2) (N : Nat) (xs : Nat → Int32) (q : Nat) {G : am_G} (h : am_IV G s) : ∃ (q1 : Nat) (G1 G2 : am_G), am_CD (am_X0 N xs) 100 tc (.ref 0 :: as) (am_L0 q, G) = some (some (.int r.1), (am_L0 q1, G1)) ∧ am_CD (am_X0 N xs) 100 tr (.ref 114 :: as) (am_L0 q1, G1) = some (some (.int r2.1), (am_L0 q1, G2)) ∧ am_IV G2 r.2 := by
  obtain ⟨c1, c2, c3⟩ := h
  obtain ⟨q1, G1, f1, d1, e1⟩ := h1 N xs q G c1
  obtain ⟨G2, f2, d2, e2⟩ := h2 N xs q1 G1 (am_rfl_fr c2 fun i j hi _ _ _ _ _ => f1 i j hi)
  rw [h3] at d2
  exact ⟨q1, G1, G2, e1, e2, am_cfl_fr d1 fun i j hi => f2 i j (by unfold am_kee at hi; omega), d2, h4⟩
theorem am_st_eq {tc tr : Nat} {as : List Value} {s : am_St} (h1 : am_E2 tc tr as s) (N : Nat) (xs : Nat → Int32) (q : Nat) {G : am_G} (h : am_IV G s) : ∃ (r : Int32) (q1 : Nat) (G1 G2 : am_G) (s1 : am_St), am_CD (am_X0 N xs) 100 tc (.ref 0 :: as) (am_L0 q, G) = some (some (.int r), (am_L0 q1, G1)) ∧ am_CD (am_X0 N xs) 100 tr (.ref 114 :: as) (am_L0 q1, G1) = some (some (.int r), (am_L0 q1, G2)) ∧ am_IV G2 s1 ∧ s1.2.2.1 ≤ s.2.2.1 + 1 := by
  obtain ⟨r, a, b, c, d⟩ := h1
  obtain ⟨q1, G1, G2, e1, e2, e3⟩ := am_two a b rfl c N xs q h
  exact ⟨r.1, q1, G1, G2, r.2, e1, e2, e3, d⟩
theorem am_st_2 {tc tr : Nat} {as : List Value} {s : am_St} (h1 : am_T2 tc tr as s) (N : Nat) (xs : Nat → Int32) (q : Nat) {G : am_G} (h : am_IV G s) : ∃ (r r2 : Int32) (q1 : Nat) (G1 G2 : am_G) (s1 : am_St), am_CD (am_X0 N xs) 100 tc (.ref 0 :: as) (am_L0 q, G) = some (some (.int r), (am_L0 q1, G1)) ∧ am_CD (am_X0 N xs) 100 tr (.ref 114 :: as) (am_L0 q1, G1) = some (some (.int r2), (am_L0 q1, G2)) ∧ am_IV G2 s1 ∧ s1.2.2.1 ≤ s.2.2.1 + 1 := by
  obtain ⟨r, r2, a, b, b2, c, d⟩ := h1
  obtain ⟨q1, G1, G2, e1, e2, e3⟩ := am_two a b b2 c N xs q h
  exact ⟨r.1, r2.1, q1, G1, G2, r.2, e1, e2, e3, d⟩
section AMOPS
variable {s : am_St}
theorem am_ct81 (a : Int32) (b : Int32) : (am_O81 a b s).2.2.2.1 ≤ s.2.2.1 + 1 := by
  unfold am_O81
  repeat' split
  all_goals first | exact Nat.le_succ _ | exact Nat.le_refl _
theorem am_op0 (hs : am_oks s) (hc : s.2.2.1 < 2 ^ 31) (a : Int32) (b : Int32) : am_E2 81 135 [.int a, .int b] s := ⟨am_O81 a b s, am_c81 hs, am_r135 hs, am_oks_81 hs, am_ct81 a b⟩
theorem am_ct82 (a : Int32) (b : Int32) : (am_O82 a b s).2.2.2.1 ≤ s.2.2.1 + 1 := by
  unfold am_O82
  repeat' split
  all_goals first | exact Nat.le_succ _ | exact Nat.le_refl _
theorem am_op1 (hs : am_oks s) (hc : s.2.2.1 < 2 ^ 31) (a : Int32) (b : Int32) : am_E2 82 136 [.int a, .int b] s := ⟨am_O82 a b s, am_c82 hs, am_r136 hs, am_oks_82 hs, am_ct82 a b⟩
theorem am_ct83 (a : Int32) (b : Int32) (c : Int32) : (am_O83 a b c s).2.2.2.1 ≤ s.2.2.1 + 1 := by
  unfold am_O83
  repeat' split
  all_goals first | exact Nat.le_succ _ | exact Nat.le_refl _
theorem am_op2 (hs : am_oks s) (hc : s.2.2.1 < 2 ^ 31) (a : Int32) (b : Int32) (c : Int32) : am_E2 83 137 [.int a, .int b, .int c] s := ⟨am_O83 a b c s, am_c83 hs, am_r137 hs, am_oks_83 hs, am_ct83 a b c⟩
theorem am_ct84 (a : Int32) (b : Int32) (c : Int32) : (am_O84 a b c s).2.2.2.1 ≤ s.2.2.1 + 1 := by
  unfold am_O84
  repeat' split
  all_goals first | exact Nat.le_succ _ | exact Nat.le_refl _
theorem am_op3 (hs : am_oks s) (hc : s.2.2.1 < 2 ^ 31) (a : Int32) (b : Int32) (c : Int32) : am_E2 84 139 [.int a, .int b, .int c] s := ⟨am_O84 a b c s, am_c84 hs, am_r139 hs, am_oks_84 hs, am_ct84 a b c⟩
theorem am_ct85 (a : Int32) (b : Int32) : (am_O85 a b s).2.2.2.1 ≤ s.2.2.1 + 1 := by
  unfold am_O85
  repeat' split
  all_goals first | exact Nat.le_succ _ | exact Nat.le_refl _
theorem am_op4 (hs : am_oks s) (hc : s.2.2.1 < 2 ^ 31) (a : Int32) (b : Int32) : am_E2 85 140 [.int a, .int b] s := ⟨am_O85 a b s, am_c85 hs, am_r140 hs, am_oks_85 hs, am_ct85 a b⟩
theorem am_ct86 (a : Int32) (b : Int32) : (am_O86 a b s).2.2.2.1 ≤ s.2.2.1 + 1 := by
  unfold am_O86
  repeat' split
  all_goals first | exact Nat.le_succ _ | exact Nat.le_refl _
theorem am_op5 (hs : am_oks s) (hc : s.2.2.1 < 2 ^ 31) (a : Int32) (b : Int32) : am_E2 86 141 [.int a, .int b] s := ⟨am_O86 a b s, am_c86 hs, am_r141 hs, am_oks_86 hs, am_ct86 a b⟩
theorem am_ct87 (a : Int32) (b : Int32) : (am_O87 a b s).2.2.2.1 ≤ s.2.2.1 + 1 := by
  unfold am_O87
  repeat' split
  all_goals first | exact Nat.le_succ _ | exact Nat.le_refl _
theorem am_op6 (hs : am_oks s) (hc : s.2.2.1 < 2 ^ 31) (a : Int32) (b : Int32) : am_E2 87 143 [.int a, .int b] s := ⟨am_O87 a b s, am_c87 hs, am_r143 hs, am_oks_87 hs, am_ct87 a b⟩
theorem am_ct88 (L : Int64) (n : Int32) : (am_O88 L n s).2.2.2.1 ≤ s.2.2.1 + 1 := by
  unfold am_O88
  repeat' split
  all_goals first | exact Nat.le_succ _ | exact Nat.le_refl _
theorem am_op7 (hs : am_oks s) (hc : s.2.2.1 < 2 ^ 31) (L : Int64) (n : Int32) : am_E2 88 158 [.long L, .int n] s := ⟨am_O88 L n s, am_c88 hs, am_r158 hs, am_oks_88 hs, am_ct88 L n⟩
theorem am_ct89 (a : Int32) : (am_O89 a s).2.2.2.1 ≤ s.2.2.1 + 1 := by
  unfold am_O89
  repeat' split
  all_goals first | exact Nat.le_succ _ | exact Nat.le_refl _
theorem am_op8 (hs : am_oks s) (hc : s.2.2.1 < 2 ^ 31) (a : Int32) : am_E2 89 159 [.int a] s := ⟨am_O89 a s, am_c89 hs, am_r159 hs, am_oks_89 hs, am_ct89 a⟩
theorem am_ct90 (u : Int32) (a : Int32) (b : Int32) (c : Int32) : (am_O90 u a b c s).2.2.2.1 ≤ s.2.2.1 + 1 := by
  unfold am_O90
  repeat' split
  all_goals first | exact Nat.le_succ _ | exact Nat.le_refl _
theorem am_op9 (hs : am_oks s) (hc : s.2.2.1 < 2 ^ 31) (u : Int32) (a : Int32) (b : Int32) (c : Int32) : am_E2 90 157 [.int u, .int a, .int b, .int c] s := ⟨am_O90 u a b c s, am_c90 hs, am_r157, am_oks_90 hs, am_ct90 u a b c⟩
theorem am_ct91 (n : Int32) : (am_O91 n s).2.2.2.1 ≤ s.2.2.1 + 1 := by
  unfold am_O91
  repeat' split
  all_goals first | exact Nat.le_succ _ | exact Nat.le_refl _
theorem am_op10 (hs : am_oks s) (hc : s.2.2.1 < 2 ^ 31) (n : Int32) : am_E2 91 169 [.int n] s := ⟨am_O91 n s, am_c91 hs, am_r169 hs, am_oks_91 hs, am_ct91 n⟩
theorem am_ct92 (n : Int32) : (am_O92 n s).2.2.2.1 ≤ s.2.2.1 + 1 := by
  unfold am_O92
  repeat' split
  all_goals first | exact Nat.le_succ _ | exact Nat.le_refl _
theorem am_op11 (hs : am_oks s) (hc : s.2.2.1 < 2 ^ 31) (n : Int32) : am_E2 92 171 [.int n] s := ⟨am_O92 n s, am_c92 hs, am_r171 hs, am_oks_92 hs, am_ct92 n⟩
theorem am_ct93  : (am_O93 s).2.2.2.1 ≤ s.2.2.1 + 1 := by
  unfold am_O93
  repeat' split
  all_goals first | exact Nat.le_succ _ | exact Nat.le_refl _
theorem am_op12 (hs : am_oks s) (hc : s.2.2.1 < 2 ^ 31)  : am_E2 93 177 [] s := ⟨am_O93 s, am_c93 hs, am_r177 hs, am_oks_93 hs, am_ct93⟩
theorem am_ct94 (n : Int32) (a : Int32) (w : Int32) : (am_O94 n a w s).2.2.2.1 ≤ s.2.2.1 + 1 := by
  unfold am_O94
  repeat' split
  all_goals first | exact Nat.le_succ _ | exact Nat.le_refl _
theorem am_op13 (hs : am_oks s) (hc : s.2.2.1 < 2 ^ 31) (n : Int32) (a : Int32) (w : Int32) : am_E2 94 180 [.int n, .int a, .int w] s := ⟨am_O94 n a w s, am_c94 hs, am_r180 hs, am_oks_94 hs, am_ct94 n a w⟩
theorem am_ct95 (x : Int32) (w : Int32) : (am_O95 x w s).2.2.2.1 ≤ s.2.2.1 + 1 := by
  unfold am_O95
  repeat' split
  all_goals first | exact Nat.le_succ _ | exact Nat.le_refl _
theorem am_op14 (hs : am_oks s) (hc : s.2.2.1 < 2 ^ 31) (x : Int32) (w : Int32) : am_E2 95 182 [.int x, .int w] s := ⟨am_O95 x w s, am_c95 hs, am_r182 hs, am_oks_95 hs, am_ct95 x w⟩
theorem am_ct96 (a : Int32) (w : Int32) : (am_O96 a w s).2.2.2.1 ≤ s.2.2.1 + 1 := by
  unfold am_O96
  repeat' split
  all_goals first | exact Nat.le_succ _ | exact Nat.le_refl _
theorem am_op15 (hs : am_oks s) (hc : s.2.2.1 < 2 ^ 31) (a : Int32) (w : Int32) : am_E2 96 186 [.int a, .int w] s := ⟨am_O96 a w s, am_c96 hs, am_r186 hs, am_oks_96 hs, am_ct96 a w⟩
theorem am_ct97 (a : Int32) (w : Int32) : (am_O97 a w s).2.2.2.1 ≤ s.2.2.1 + 1 := by
  unfold am_O97
  repeat' split
  all_goals first | exact Nat.le_succ _ | exact Nat.le_refl _
theorem am_op16 (hs : am_oks s) (hc : s.2.2.1 < 2 ^ 31) (a : Int32) (w : Int32) : am_E2 97 189 [.int a, .int w] s := ⟨am_O97 a w s, am_c97 hs, am_r189 hs, am_oks_97 hs, am_ct97 a w⟩
theorem am_ct98  : (am_O98 s).2.2.2.1 ≤ s.2.2.1 + 1 := by
  unfold am_O98
  repeat' split
  all_goals first | exact Nat.le_succ _ | exact Nat.le_refl _
theorem am_op17 (hs : am_oks s) (hc : s.2.2.1 < 2 ^ 31)  : am_E2 98 191 [] s := ⟨am_O98 s, am_c98 hs, am_r191 hs, am_oks_98 hs, am_ct98⟩
theorem am_ct99 (a : Int32) (n : Int32) : (am_O99 a n s).2.2.2.1 ≤ s.2.2.1 + 1 := by
  unfold am_O99
  repeat' split
  all_goals first | exact Nat.le_succ _ | exact Nat.le_refl _
theorem am_op18 (hs : am_oks s) (hc : s.2.2.1 < 2 ^ 31) (a : Int32) (n : Int32) : am_E2 99 192 [.int a, .int n] s := ⟨am_O99 a n s, am_c99 hs, am_r192 hs, am_oks_99 hs, am_ct99 a n⟩
theorem am_ct100 (a : Int32) : (am_O100 a s).2.2.2.1 ≤ s.2.2.1 + 1 := by
  unfold am_O100
  repeat' split
  all_goals first | exact Nat.le_succ _ | exact Nat.le_refl _
theorem am_op19 (hs : am_oks s) (hc : s.2.2.1 < 2 ^ 31) (a : Int32) : am_E2 100 193 [.int a] s := ⟨am_O100 a s, am_c100 hs, am_r193 hs, am_oks_100 hs, am_ct100 a⟩
theorem am_ct101 (w : Int32) : (am_O101 w s).2.2.2.1 ≤ s.2.2.1 + 1 := by
  unfold am_O101
  repeat' split
  all_goals first | exact Nat.le_succ _ | exact Nat.le_refl _
theorem am_op20 (hs : am_oks s) (hc : s.2.2.1 < 2 ^ 31) (w : Int32) : am_E2 101 179 [.int w] s := ⟨am_O101 w s, am_c101 hs, am_r179 hs, am_oks_101 hs, am_ct101 w⟩
theorem am_ct102 (a : Int32) (w : Int32) : (am_O102 a w s).2.2.2.1 ≤ s.2.2.1 + 1 := by
  unfold am_O102
  repeat' split
  all_goals first | exact Nat.le_succ _ | exact Nat.le_refl _
theorem am_op21 (hs : am_oks s) (hc : s.2.2.1 < 2 ^ 31) (a : Int32) (w : Int32) : am_E2 102 195 [.int a, .int w] s := ⟨am_O102 a w s, am_c102 hs, am_r195 hs, am_oks_102 hs, am_ct102 a w⟩
theorem am_ct103  : (am_O103 s).2.2.2.1 ≤ s.2.2.1 + 1 := by
  unfold am_O103
  repeat' split
  all_goals first | exact Nat.le_succ _ | exact Nat.le_refl _
theorem am_op22 (hs : am_oks s) (hc : s.2.2.1 < 2 ^ 31)  : am_E2 103 196 [] s := ⟨am_O103 s, am_c103 hs, am_r196 hs, am_oks_103 hs, am_ct103⟩
theorem am_ct104 (v : Int32) : (am_O104 v s).2.2.2.1 ≤ s.2.2.1 + 1 := by
  unfold am_O104
  repeat' split
  all_goals first | exact Nat.le_succ _ | exact Nat.le_refl _
theorem am_op23 (hs : am_oks s) (hc : s.2.2.1 < 2 ^ 31) (v : Int32) : am_E2 104 197 [.int v] s := ⟨am_O104 v s, am_c104, am_r197, am_oks_104 hs, am_ct104 v⟩
theorem am_ct105 (a : Int32) (c : Int32) (x : Int32) : (am_O105 a c x s).2.2.2.1 ≤ s.2.2.1 + 1 := by
  unfold am_O105
  repeat' split
  all_goals first | exact Nat.le_succ _ | exact Nat.le_refl _
theorem am_op24 (hs : am_oks s) (hc : s.2.2.1 < 2 ^ 31) (a : Int32) (c : Int32) (x : Int32) : am_E2 105 203 [.int a, .int c, .int x] s := ⟨am_O105 a c x s, am_c105 hs, am_r203 hs, am_oks_105 hs, am_ct105 a c x⟩
theorem am_ct106 (i : Int32) : (am_O106 i s).2.2.2.1 ≤ s.2.2.1 + 1 := by
  unfold am_O106
  repeat' split
  all_goals first | exact Nat.le_succ _ | exact Nat.le_refl _
theorem am_op25 (hs : am_oks s) (hc : s.2.2.1 < 2 ^ 31) (i : Int32) : am_E2 106 204 [.int i] s := ⟨am_O106 i s, am_c106 hs, am_r204 hs, am_oks_106 hs, am_ct106 i⟩
theorem am_ct107 (a : Int32) (b : Int32) (n : Int32) : (am_O107 a b n s).2.2.2.1 ≤ s.2.2.1 + 1 := by
  unfold am_O107
  repeat' split
  all_goals first | exact Nat.le_succ _ | exact Nat.le_refl _
theorem am_op26 (hs : am_oks s) (hc : s.2.2.1 < 2 ^ 31) (a : Int32) (b : Int32) (n : Int32) : am_E2 107 206 [.int a, .int b, .int n] s := ⟨am_O107 a b n s, am_c107, am_r206, am_oks_107 hs, am_ct107 a b n⟩
theorem am_ct108 (a : Int32) (i : Int32) (v : Int32) : (am_O108 a i v s).2.2.2.1 ≤ s.2.2.1 + 1 := by
  unfold am_O108
  repeat' split
  all_goals first | exact Nat.le_succ _ | exact Nat.le_refl _
theorem am_op27 (hs : am_oks s) (hc : s.2.2.1 < 2 ^ 31) (a : Int32) (i : Int32) (v : Int32) : am_E2 108 207 [.int a, .int i, .int v] s := ⟨am_O108 a i v s, am_c108 hs, am_r207 hs, am_oks_108 hs, am_ct108 a i v⟩
theorem am_ct109 (a : Int32) (i : Int32) (b : Int32) (k : Int32) (n : Int32) : (am_O109 a i b k n s).2.2.2.1 ≤ s.2.2.1 + 1 := by
  unfold am_O109
  repeat' split
  all_goals first | exact Nat.le_succ _ | exact Nat.le_refl _
theorem am_op28 (hs : am_oks s) (hc : s.2.2.1 < 2 ^ 31) (a : Int32) (i : Int32) (b : Int32) (k : Int32) (n : Int32) : am_E2 109 208 [.int a, .int i, .int b, .int k, .int n] s := ⟨am_O109 a i b k n s, am_c109 hs, am_r208 hs, am_oks_109 hs, am_ct109 a i b k n⟩
theorem am_ct110 (a : Int32) : (am_O110 a s).2.2.2.1 ≤ s.2.2.1 + 1 := by
  unfold am_O110
  repeat' split
  all_goals first | exact Nat.le_succ _ | exact Nat.le_refl _
theorem am_op29 (hs : am_oks s) (hc : s.2.2.1 < 2 ^ 31) (a : Int32) : am_E2 110 209 [.int a] s := ⟨am_O110 a s, am_c110 hs, am_r209 hs, am_oks_110 hs, am_ct110 a⟩
theorem am_ct111 (a : Int32) : (am_O111 a s).2.2.2.1 ≤ s.2.2.1 + 1 := by
  unfold am_O111
  repeat' split
  all_goals first | exact Nat.le_succ _ | exact Nat.le_refl _
theorem am_op30 (hs : am_oks s) (hc : s.2.2.1 < 2 ^ 31) (a : Int32) : am_T2 111 210 [.int a] s := ⟨am_O111 a s, am_O111s a s, am_c111 hs, am_r210 hs, am_O111s_s a s, am_oks_111 hs, am_ct111 a⟩
theorem am_ct112  : (am_O112 s).2.2.2.1 ≤ s.2.2.1 + 1 := by
  unfold am_O112
  repeat' split
  all_goals first | exact Nat.le_succ _ | exact Nat.le_refl _
theorem am_op31 (hs : am_oks s) (hc : s.2.2.1 < 2 ^ 31)  : am_E2 112 211 [] s := ⟨am_O112 s, am_c112 hs, am_r211 hs, am_oks_112 hs, am_ct112⟩
theorem am_ct113  : (am_O113 s).2.2.2.1 ≤ s.2.2.1 + 1 := by
  unfold am_O113
  repeat' split
  all_goals first | exact Nat.le_succ _ | exact Nat.le_refl _
theorem am_op32 (hs : am_oks s) (hc : s.2.2.1 < 2 ^ 31)  : am_E2 113 212 [] s := ⟨am_O113 s, am_c113 hs hc, am_r212 hs, am_oks_113 hs, am_ct113⟩
theorem am_ct114 (v : Int32) : (am_O114 v s).2.2.2.1 ≤ s.2.2.1 + 1 := by
  unfold am_O114
  repeat' split
  all_goals first | exact Nat.le_succ _ | exact Nat.le_refl _
theorem am_op33 (hs : am_oks s) (hc : s.2.2.1 < 2 ^ 31) (v : Int32) : am_E2 114 213 [.int v] s := ⟨am_O114 v s, am_c114 hs, am_r213 hs, am_oks_114 hs, am_ct114 v⟩
theorem am_ct115  : (am_O115 s).2.2.2.1 ≤ s.2.2.1 + 1 := by
  unfold am_O115
  repeat' split
  all_goals first | exact Nat.le_succ _ | exact Nat.le_refl _
theorem am_op34 (hs : am_oks s) (hc : s.2.2.1 < 2 ^ 31)  : am_E2 115 214 [] s := ⟨am_O115 s, am_c115 hs, am_r214 hs, am_oks_115 hs, am_ct115⟩
theorem am_ct116 (w : Int32) : (am_O116 w s).2.2.2.1 ≤ s.2.2.1 + 1 := by
  unfold am_O116
  repeat' split
  all_goals first | exact Nat.le_succ _ | exact Nat.le_refl _
theorem am_op35 (hs : am_oks s) (hc : s.2.2.1 < 2 ^ 31) (w : Int32) : am_E2 116 215 [.int w] s := ⟨am_O116 w s, am_c116 hs, am_r215 hs, am_oks_116 hs, am_ct116 w⟩
theorem am_ct117 (k : Int32) : (am_O117 k s).2.2.2.1 ≤ s.2.2.1 + 1 := by
  unfold am_O117
  repeat' split
  all_goals first | exact Nat.le_succ _ | exact Nat.le_refl _
theorem am_op36 (hs : am_oks s) (hc : s.2.2.1 < 2 ^ 31) (k : Int32) : am_E2 117 216 [.int k] s := ⟨am_O117 k s, am_c117, am_r216, am_oks_117 hs, am_ct117 k⟩
end AMOPS
/-! the fresh state -/
def am_W0 : am_We := (fun _ _ => 0, [], [], (fun _ => 0, 0), (fun _ => 0, 0), 1)
def am_s0 : am_St := (am_W0, am_W0, 0, [], fun _ => 0, fun _ => (0, 0, fun _ => 0))
theorem am_g0_z {i j : Nat} (h : i ≠ 6 ∧ i ≠ 1 ∧ i ≠ 35 ∧ i ≠ 30 ∧ i ≠ 92 ∧ i ≠ 114 ∧ i ≠ 115) : am_g0 i j = 0 := by
  obtain ⟨h1, h2, h3, h4, h5, h6, h7⟩ := h
  unfold am_g0
  rw [if_neg h1, if_neg h2, if_neg h3, if_neg h4, if_neg h5, if_neg h6, if_neg h7]
theorem am_g0_r {j : Nat} (h : j ≠ 1 ∧ j ≠ 5 ∧ j ≠ 6) : am_g0 115 j = 0 := by
  obtain ⟨h1, h2, h3⟩ := h
  show (if j = 1 then (1 : Int32) else if j = 5 then -1 else if j = 6 then -1 else 0) = 0
  rw [if_neg h1, if_neg h2, if_neg h3]
theorem am_W0_ok : am_wwf am_W0 := ⟨⟨Nat.zero_le _, fun _ _ => ⟨Nat.zero_le _, Nat.zero_le _, Nat.zero_le _, Nat.zero_le _, Nat.zero_le _⟩, fun _ _ _ _ => Nat.zero_le _, fun _ _ _ => ⟨rfl, rfl⟩, fun _ _ _ _ _ => rfl⟩, Nat.zero_le _, Or.inl rfl, Or.inl rfl, Nat.zero_le _, fun j hj => absurd hj (Nat.not_lt_zero j), Nat.zero_le _⟩
theorem am_cwe0 {w : Nat} (hw : w = 1 ∨ w = 30) : am_cwe w am_g0 am_W0 := by
  have z : ∀ i j, i ≠ 6 ∧ i ≠ 1 ∧ i ≠ 35 ∧ i ≠ 30 ∧ i ≠ 92 ∧ i ≠ 114 ∧ i ≠ 115 → am_g0 i j = 0 := fun i j h => am_g0_z h
  refine ⟨⟨fun p hp => ⟨z _ _ (by omega), z _ _ (by omega), z _ _ (by omega), z _ _ (by omega), z _ _ (by omega)⟩, fun i j hi hj => z _ _ (by omega), z _ _ (by omega), z _ _ (by omega)⟩, ⟨z _ _ (by omega), z _ _ (by omega), Nat.zero_le _, fun i hi => absurd hi (Nat.not_lt_zero i)⟩, ⟨?_, ?_, Nat.zero_le _, fun i hi => absurd hi (Nat.not_lt_zero i)⟩, ⟨z _ _ (by omega), fun i hi => absurd hi (Nat.not_lt_zero i)⟩, ⟨z _ _ (by omega), fun i hi => absurd hi (Nat.not_lt_zero i)⟩, ?_⟩
  all_goals rcases hw with rfl | rfl <;> rfl
theorem am_IV0 : am_IV am_g0 am_s0 := by
  have z : ∀ i j, i ≠ 6 ∧ i ≠ 1 ∧ i ≠ 35 ∧ i ≠ 30 ∧ i ≠ 92 ∧ i ≠ 114 ∧ i ≠ 115 → am_g0 i j = 0 := fun i j h => am_g0_z h
  refine ⟨⟨am_cwe0 (Or.inl rfl), am_cwe0 (Or.inr rfl), z _ _ (by decide), ⟨z _ _ (by decide), fun i hi => absurd hi (Nat.not_lt_zero i)⟩, fun k hk => z _ _ (by omega), fun j hj => ⟨z _ _ (by omega), z _ _ (by omega), Nat.zero_le _, fun i hi => z _ _ (by omega)⟩⟩, ⟨⟨⟨am_g0_r (by decide), am_g0_r (by decide), fun p f hp hf => am_g0_r (by omega), fun a b ha hb => am_g0_r (by omega)⟩, Or.inl ⟨rfl, rfl⟩, Or.inl ⟨rfl, rfl⟩, ⟨am_g0_r (by decide), fun i hi => absurd hi (Nat.not_lt_zero i)⟩, ⟨am_g0_r (by decide), fun i hi => absurd hi (Nat.not_lt_zero i)⟩, rfl⟩, fun h => absurd rfl h, rfl, rfl, fun k hk => z _ _ (by omega), rfl, ⟨rfl, fun i hi => absurd hi (Nat.not_lt_zero i)⟩, fun j hj => ⟨z _ _ (by omega), z _ _ (by omega), fun i hi => (z _ _ (by omega)).trans (am_sgn_0 0).symm⟩⟩, am_W0_ok, am_W0_ok, Nat.zero_le _, fun j hj => ⟨Nat.zero_le _, Or.inl rfl, fun i => ⟨fun (e : (0 : Int32) = 8) => absurd e (by decide), fun (e : (0 : Int32) = 16) => absurd e (by decide)⟩⟩⟩
theorem am_and63 (x : Int32) : ∃ k, k < 64 ∧ x &&& 63 = nI k := by
  refine ⟨(x.toBitVec &&& 63#32).toNat, ?_, ?_⟩
  · rw [BitVec.toNat_and]
    exact Nat.lt_of_le_of_lt Nat.and_le_right (by decide)
  · apply Int32.toBitVec_inj.mp
    rw [Int32.toBitVec_and]
    show x.toBitVec &&& 63#32 = (Int32.ofNat (x.toBitVec &&& 63#32).toNat).toBitVec
    rw [Int32.toBitVec_ofNat', BitVec.ofNat_toNat, BitVec.setWidth_eq]
set_option maxRecDepth 100000 in
theorem am_sl_q (q : Nat) : am_sl (am_L0 q) = am_sl (am_L0 1000) ∧ (am_L0 q).length = (am_L0 1000).length := ⟨rfl, rfl⟩
theorem am_sl_1000 : am_sl (am_L0 1000) ≤ 7302250 ∧ (am_L0 1000).length ≤ 600000 := by decide +kernel
theorem am_L0_room (q : Nat) : (am_L0 q).length ≤ 600000 ∧ am_sl (am_L0 q) ≤ 7302250 := by
  rw [(am_sl_q q).1, (am_sl_q q).2]
  exact ⟨am_sl_1000.2, am_sl_1000.1⟩
