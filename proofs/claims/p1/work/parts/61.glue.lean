/-! one call on the fresh world: class and reference answer the same -/
theorem am_gt_nI {n : Int32} {k : Nat} (hk : k < 100) (h1 : ¬ n < 1) (h2 : n ≤ nI k) : ∃ j, 1 ≤ j ∧ j ≤ k ∧ n = nI j := by
  have e1 : (1 : Int32).toInt = 1 := by decide +kernel
  rw [Int32.lt_iff_toInt_lt, e1] at h1
  rw [Int32.le_iff_toInt_le, nI_toInt (by omega)] at h2
  refine ⟨n.toInt.toNat, by omega, by omega, ?_⟩
  apply Int32.toInt_inj.mp
  rw [nI_toInt (by omega)]
  omega
theorem am_ge1 {n : Int32} (h : (decide (¬ n < 1)) = false) : n < 1 := by simpa using h
theorem am_z10 : am_g0 10 8 = 0 := rfl
theorem am_z115 : am_up am_g0 105 1 (am_g0 105 1 + 1) 115 2 = 0 := rfl
theorem am_gl0 (a b : Int32) : am_G2 81 135 [.int a, .int b] := by
  intro X
  cases h1 : am_wi a 69 with
  | false => exact ⟨_, _, _, _, am_o81e (D := 46) (Or.inl h1), am_o135e (D := 46) (Or.inl h1)⟩
  | true => cases h2 : am_wi b 15 with
    | false => exact ⟨_, _, _, _, am_o81e (D := 46) (Or.inr h2), am_o135e (D := 46) (Or.inr h2)⟩
    | true =>
      obtain ⟨G1, e1, g1⟩ := am_o81 (X := X) (D := 46) (q := 1000) (G := am_g0) rfl h1 h2
      obtain ⟨G2, e2, g2⟩ := am_o135 (X := X) (D := 46) (q := 1000) (G := G1) ((e1 115 2 (by decide) (by decide) (by decide) (by decide)).trans rfl) h1 h2
      exact ⟨_, _, _, _, g1, g2⟩
theorem am_gl1 (a b : Int32) : am_G2 82 136 [.int a, .int b] := fun X => ⟨_, _, _, _, am_o82 (D := 47) am_z10 a b, am_o136 (D := 47) am_z115 a b⟩
theorem am_gl2 (a b c : Int32) : am_G2 83 137 [.int a, .int b, .int c] := fun X => ⟨_, _, _, _, am_o83 (D := 46) am_z10 a b c, am_o137 (D := 46) am_z115 a b c⟩
theorem am_gl3 (a b c : Int32) : am_G2 84 139 [.int a, .int b, .int c] := fun X => ⟨_, _, _, _, am_o84 (D := 46) am_z10 a b c, am_o139 (D := 46) am_z115 a b c⟩
theorem am_gl4 (a b : Int32) : am_G2 85 140 [.int a, .int b] := fun X => ⟨_, _, _, _, am_o85 (D := 46) am_z10 a b, am_o140 (D := 46) am_z115 a b⟩
theorem am_gl5 (a b : Int32) : am_G2 86 141 [.int a, .int b] := fun X => ⟨_, _, _, _, am_o86 (D := 46) am_z10 a b, am_o141 (D := 46) am_z115 a b⟩
theorem am_gl6 (a b : Int32) : am_G2 87 143 [.int a, .int b] := fun X => ⟨_, _, _, _, am_o87 (D := 46) am_z10 a b, am_o143 (D := 46) am_z115 a b⟩
theorem am_gl7 (l : Int64) (n : Int32) : am_G2 88 158 [.long l, .int n] := by
  intro X
  by_cases h1 : n < 1
  · exact ⟨_, _, _, _, am_o88e (D := 46) (Or.inl h1), am_o158e (D := 46) (by simp [h1])⟩
  · by_cases h2 : n ≤ 8
    · obtain ⟨j, j1, j2, rfl⟩ := am_gt_nI (k := 8) (by decide) h1 h2
      obtain ⟨G1, e1, g1⟩ := am_o88 (X := X) (D := 46) (q := 1000) (G := am_g0) (l := l) j1 j2 rfl
      obtain ⟨G2, e2, g2⟩ := am_o158 (X := X) (D := 46) (q := 1000) (G := G1) (l := l) j1 j2 ((e1 115 3 (by decide) (by decide)).trans rfl)
      exact ⟨_, _, _, _, g1, g2⟩
    · exact ⟨_, _, _, _, am_o88e (D := 46) (Or.inr h2), am_o158e (D := 46) (by simp [h2])⟩
theorem am_gl8 (a : Int32) : am_G2 89 159 [.int a] := by
  cases h : am_wi a 1 with
  | false => exact fun X => ⟨_, _, _, _, am_o89 (D := 46) h, am_o159 (D := 46) h⟩
  | true =>
    obtain ⟨j, hj, rfl⟩ := am_wi_nI (n := 1) (by decide) h
    match j, hj with
    | 0, _ => exact am_G2_two am_p8a
    | 1, _ => exact am_G2_two am_p8b
theorem am_gl9 (u a b c : Int32) : am_G2 90 157 [.int u, .int a, .int b, .int c] := by
  intro X
  cases h : am_wi u 1 with
  | false => exact ⟨_, _, _, _, am_o90e (D := 46) h, am_o157e (D := 46) h⟩
  | true =>
    obtain ⟨j, hj, rfl⟩ := am_wi_nI (n := 1) (by decide) h
    have hm : am_g0 115 5 < 0 := by decide +kernel
    have hm2 : am_g0 115 6 < 0 := by decide +kernel
    match j, hj with
    | 0, _ => exact ⟨_, _, _, _, am_o90_0 (D := 46) (G := am_g0) (q := 1000) rfl rfl a b c, am_o157_0 (D := 46) hm a b c⟩
    | 1, _ => exact ⟨_, _, _, _, am_o90_1 (D := 46) (G := am_g0) (q := 1000) rfl rfl a b c, am_o157_1 (D := 46) hm2 a b c⟩
theorem am_gl10 (n : Int32) : am_G2 91 169 [.int n] := by
  intro X
  by_cases h1 : n < 1
  · exact ⟨_, _, _, _, am_o91 (D := 46) (Or.inl h1), am_o169 (D := 46) (Or.inl h1)⟩
  · by_cases h2 : n ≤ 60
    · obtain ⟨j, j1, j2, rfl⟩ := am_gt_nI (k := 60) (by decide) h1 h2
      obtain ⟨G1, e1, g1⟩ := am_o91n (X := X) (D := 46) (q := 1000) (G := am_g0) j1 j2 rfl rfl
      obtain ⟨G2, g2⟩ := am_o169n (X := X) (D := 46) (q := 1000) (G := G1) j1 j2 ((e1 115 2 (by decide)).trans rfl) ((e1 115 0 (by decide)).trans rfl)
      exact ⟨_, _, _, _, g1, g2⟩
    · exact ⟨_, _, _, _, am_o91 (D := 46) (Or.inr h2), am_o169 (D := 46) (Or.inr h2)⟩
theorem am_gl11 (n : Int32) : am_G2 92 171 [.int n] := by
  intro X
  by_cases h1 : n < 1
  · exact ⟨_, _, _, _, am_o92 (D := 46) (Or.inl h1), am_o171 (D := 46) (Or.inl h1)⟩
  · by_cases h2 : n ≤ 40
    · obtain ⟨j, j1, j2, rfl⟩ := am_gt_nI (k := 40) (by decide) h1 h2
      obtain ⟨G1, e1, g1⟩ := am_o92n (X := X) (D := 46) (q := 1000) (G := am_g0) j1 j2 rfl rfl
      obtain ⟨G2, g2⟩ := am_o171n (X := X) (D := 46) (q := 1000) (G := G1) j1 j2 ((e1 115 2 (by decide)).trans rfl) ((e1 115 0 (by decide)).trans rfl)
      exact ⟨_, _, _, _, g1, g2⟩
    · exact ⟨_, _, _, _, am_o92 (D := 46) (Or.inr h2), am_o171 (D := 46) (Or.inr h2)⟩
theorem am_gl12 : am_G2 93 177 [] := am_G2_two am_p12
theorem am_gl13 (a b c : Int32) : am_G2 94 180 [.int a, .int b, .int c] := fun X => ⟨_, _, _, _, am_o94 (D := 46) am_z10 a b c, am_o180 (D := 46) am_z115 a b c⟩
theorem am_gl14 (x b : Int32) : am_G2 95 182 [.int x, .int b] := by
  intro X
  by_cases h1 : x < 1
  · exact ⟨_, _, _, _, am_o95e (D := 46) (Or.inl h1), am_o182e (D := 46) (Or.inl (by simp [h1]))⟩
  · by_cases h2 : x ≤ 99
    · cases h3 : am_wi b 1 with
      | false => exact ⟨_, _, _, _, am_o95e (D := 46) (Or.inr (Or.inr h3)), am_o182e (D := 46) (Or.inr h3)⟩
      | true =>
        obtain ⟨G1, c, d, g1⟩ := am_o95 (X := X) (D := 6) h1 h2 h3
        obtain ⟨G2, g2⟩ := am_o182 (X := X) (D := 46) (q := 1000) (G := G1) (x := x) (b := b) c (by simp [h1, h2]) h3
        exact ⟨_, _, _, _, g1, g2⟩
    · exact ⟨_, _, _, _, am_o95e (D := 46) (Or.inr (Or.inl h2)), am_o182e (D := 46) (Or.inl (by simp [h2]))⟩
theorem am_wi3i {a : Int32} (h : am_wi a 3 = true) : ∃ j, j < 4 ∧ a = nI j := by
  obtain ⟨j, hj, e⟩ := am_wi_nI (n := 3) (by decide) h
  exact ⟨j, by omega, e⟩
theorem am_sh0 {j : Nat} (hj : j < 4) : am_g0 (106 + 2 * j) 1 = 0 := by
  match j, hj with
  | 0, _ => rfl
  | 1, _ => rfl
  | 2, _ => rfl
  | 3, _ => rfl
theorem am_gl15 (a b : Int32) : am_G2 96 186 [.int a, .int b] := by
  intro X
  cases h1 : am_wi a 3 with
  | false => exact ⟨_, _, _, _, am_o96a (D := 46) (Or.inl h1), am_o186a (D := 46) (Or.inl h1)⟩
  | true => cases h2 : am_wi b 2 with
    | false => exact ⟨_, _, _, _, am_o96a (D := 46) (Or.inr h2), am_o186a (D := 46) (Or.inr h2)⟩
    | true =>
      obtain ⟨j, hj, rfl⟩ := am_wi3i h1
      exact ⟨_, _, _, _, am_o96b (D := 46) (G := am_g0) (q := 1000) hj h2 (am_sh0 hj), am_o186b (D := 46) hj h2 rfl⟩
theorem am_gl16 (a b : Int32) : am_G2 97 189 [.int a, .int b] := fun X => ⟨_, _, _, _, am_o97 (D := 46) am_z10 a b, am_o189 (D := 46) am_z115 a b⟩
theorem am_gl17 : am_G2 98 191 [] := am_G2_two am_p17
theorem am_gl18 (a b : Int32) : am_G2 99 192 [.int a, .int b] := fun X => ⟨_, _, _, _, am_o99 (D := 46) am_z10 a b, am_o192 (D := 46) am_z115 a b⟩
theorem am_gl19 (a : Int32) : am_G2 100 193 [.int a] := fun X => ⟨_, _, _, _, am_o100 (D := 46) am_z10 a, am_o193 (D := 46) am_z115 a⟩
theorem am_gl20 (a : Int32) : am_G2 101 179 [.int a] := by
  cases h : am_wi a 1 with
  | false => exact fun X => ⟨_, _, _, _, am_o101 (D := 46) h, am_o179 (D := 46) h⟩
  | true =>
    obtain ⟨j, hj, rfl⟩ := am_wi_nI (n := 1) (by decide) h
    match j, hj with
    | 0, _ => exact am_G2_two am_p20a
    | 1, _ => exact am_p20c
theorem am_gl21 (a b : Int32) : am_G2 102 195 [.int a, .int b] := fun X => ⟨_, _, _, _, am_o102 (D := 46) am_z10 a b, am_o195 (D := 46) am_z115 a b⟩
theorem am_gl22 : am_G2 103 196 [] := am_G2_two am_p22
theorem am_gl23 (v : Int32) : am_G2 104 197 [.int v] := fun X => ⟨am_g0 1 5, 1000, _, _, am_o104 (D := 49) v, am_o197 (D := 49) v⟩
theorem am_gl24 (a b c : Int32) : am_G2 105 203 [.int a, .int b, .int c] := fun X => ⟨_, _, _, _, am_o105 (D := 46) am_z10 a b c, am_o203 (D := 46) am_z115 a b c⟩
theorem am_gl25 (a : Int32) : am_G2 106 204 [.int a] := fun X => ⟨_, _, _, _, am_o106 (D := 46) (G := am_g0) (q := 1000) rfl a, am_o204 (D := 46) rfl a⟩
theorem am_gl26 (a b n : Int32) : am_G2 107 206 [.int a, .int b, .int n] := by
  intro X
  cases h : am_wi a 3 with
  | false => exact ⟨_, _, _, _, am_o107a (D := 46) h, am_o206a (D := 46) h⟩
  | true =>
    have good : (b = 0 ∨ (b = 8 ∨ b = 16 ∨ b = 32) ∧ ¬ n < 0 ∧ n ≤ 40) → ∃ (r : Int32) (q : Nat) (G1 G2 : am_G), am_CD X 50 107 (.ref 0 :: [.int a, .int b, .int n]) (am_L0 1000, am_g0) = some (some (.int r), (am_L0 q, G1)) ∧ am_CD X 50 206 (.ref 114 :: [.int a, .int b, .int n]) (am_L0 q, G1) = some (some (.int r), (am_L0 q, G2)) := by
      intro hb
      obtain ⟨j, hj, rfl⟩ := am_wi3i h
      obtain ⟨G1, e1, g1⟩ := am_o107 (X := X) (D := 46) (q := 1000) (G := am_g0) hj hb
      obtain ⟨G2, e2, g2⟩ := am_o206 (X := X) (D := 46) (q := 1000) (G := G1) hj hb
      exact ⟨_, _, _, _, g1, g2⟩
    by_cases h0 : b = 0
    · exact good (Or.inl h0)
    · by_cases hb : b = 8 ∨ b = 16 ∨ b = 32
      · by_cases hn : n < 0
        · exact ⟨_, _, _, _, am_o107c (D := 46) h hb hn, am_o206c (D := 46) h hb hn⟩
        · by_cases hm : n ≤ 40
          · exact good (Or.inr ⟨hb, hn, hm⟩)
          · exact ⟨_, _, _, _, am_o107d (D := 46) h hb hn hm, am_o206d (D := 46) h hb hn hm⟩
      · have h8 : ¬ b = 8 := fun e => hb (Or.inl e)
        have h16 : ¬ b = 16 := fun e => hb (Or.inr (Or.inl e))
        have h32 : ¬ b = 32 := fun e => hb (Or.inr (Or.inr e))
        exact ⟨_, _, _, _, am_o107b (D := 46) h h0 h8 h16 h32, am_o206b (D := 46) h h0 h8 h16 h32⟩
theorem am_gl27 (a b c : Int32) : am_G2 108 207 [.int a, .int b, .int c] := by
  intro X
  cases h1 : am_wi a 3 with
  | false => exact ⟨_, _, _, _, am_o108a (D := 46) h1, am_o207a (D := 46) h1⟩
  | true =>
    obtain ⟨j, hj, rfl⟩ := am_wi3i h1
    exact ⟨_, _, _, _, am_o108b (D := 46) (G := am_g0) (q := 1000) hj (am_sh0 hj), am_o207b (D := 46) hj rfl⟩
theorem am_gl28 (a i b j n : Int32) : am_G2 109 208 [.int a, .int i, .int b, .int j, .int n] := by
  intro X
  cases h1 : am_wi a 3 with
  | false => exact ⟨_, _, _, _, am_o109a (D := 46) (Or.inl h1), am_o208a (D := 46) (Or.inl h1)⟩
  | true => cases h2 : am_wi b 3 with
    | false => exact ⟨_, _, _, _, am_o109a (D := 46) (Or.inr h2), am_o208a (D := 46) (Or.inr h2)⟩
    | true =>
      obtain ⟨k, hk, rfl⟩ := am_wi3i h1
      obtain ⟨l, hl, rfl⟩ := am_wi3i h2
      exact ⟨_, _, _, _, am_o109b (D := 46) (G := am_g0) (q := 1000) hk hl (am_sh0 hk), am_o208b (D := 46) hk hl rfl⟩
theorem am_gl29 (a : Int32) : am_G2 110 209 [.int a] := by
  intro X
  cases h1 : am_wi a 3 with
  | false => exact ⟨_, _, _, _, am_o110a (D := 46) h1, am_o209a (D := 46) h1⟩
  | true =>
    obtain ⟨j, hj, rfl⟩ := am_wi3i h1
    exact ⟨_, _, _, _, am_o110b (D := 46) (G := am_g0) (q := 1000) hj (am_sh0 hj), am_o209b (D := 46) hj rfl⟩
theorem am_gl30 (a : Int32) : am_G2 111 210 [.int a] := by
  intro X
  cases h1 : am_wi a 3 with
  | false => exact ⟨_, _, _, _, am_o111a (D := 46) h1, am_o210a (D := 46) h1⟩
  | true =>
    obtain ⟨j, hj, rfl⟩ := am_wi3i h1
    exact ⟨_, _, _, _, am_o111b (D := 46) (G := am_g0) (q := 1000) hj (am_sh0 hj), am_o210b (D := 46) hj rfl⟩
theorem am_gl31 : am_G2 112 211 [] := by
  intro X
  have h := am_op31c
  generalize e : am_call am_none 100000 40 112 [.ref 0] am_W0 = z at h
  rcases z with _ | ⟨v, w1⟩
  · cases h
  rcases v with _ | v
  · cases h
  cases v with
  | int r =>
    simp only [Bool.and_eq_true, decide_eq_true_eq] at h
    obtain ⟨⟨a, b⟩, c⟩ := h
    have h1 := am_CD_up (X := X) (X' := X) (fun _ _ hh => hh) 40 50 112 _ _ _ (by decide) (am_call_CD (X' := X) (fun i q hh => by cases hh) 40 112 _ _ _ e)
    have e3 : w1 = (am_L0 1000, w1.2) := by rw [← b]
    rw [e3] at h1
    obtain ⟨G2, e2, g2⟩ := am_o211 (X := X) (D := 46) (q := 1000) (G := w1.2)
    rw [c] at g2
    subst a
    exact ⟨1, 1000, w1.2, G2, h1, g2⟩
  | _ => cases h
theorem am_gl32 : am_G2 113 212 [] := am_G2_two am_p32
theorem am_gl33 (v : Int32) : am_G2 114 213 [.int v] := fun X => ⟨_, _, _, _, am_o114 (D := 46) (G := am_g0) (q := 1000) (k := 0) (by decide) rfl, am_o213 (D := 46) (k := 0) (by decide) rfl⟩
theorem am_gl34 : am_G2 115 214 [] := am_G2_two am_p34
theorem am_gl35 (a : Int32) : am_G2 116 215 [.int a] := by
  cases h : am_wi a 9 with
  | false => exact fun X => ⟨_, _, _, _, am_o116 (D := 46) h, am_o215 (D := 46) h⟩
  | true =>
    obtain ⟨j, hj, rfl⟩ := am_wi_nI (n := 9) (by decide) h
    exact am_G2_two (List.all_eq_true.mp am_p35 j (List.mem_range.mpr (by omega)))
theorem am_gl36 (a : Int32) : am_G2 117 216 [.int a] := by
  intro X
  by_cases h1 : a < 1
  · exact ⟨_, _, _, _, am_o117a (D := 46) (Or.inl h1), am_o216a (D := 46) (Or.inl h1)⟩
  · by_cases h2 : a ≤ 5
    · obtain ⟨j, j1, j2, rfl⟩ := am_gt_nI (k := 5) (by decide) h1 h2
      exact ⟨am_g0 105 j, 1000, am_g0, am_g0, am_o117b (D := 46) h1 h2 (by omega), am_o216b (D := 46) h1 h2 (by omega)⟩
    · exact ⟨_, _, _, _, am_o117a (D := 46) (Or.inr h2), am_o216a (D := 46) (Or.inr h2)⟩
