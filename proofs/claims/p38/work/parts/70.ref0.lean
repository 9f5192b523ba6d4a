/-! THE REFERENCE: its row of numbers, its small methods -/
abbrev am_Ro : Type := Nat → Int32
def am_ru (R : am_Ro) (k : Nat) (v : Int32) : am_Ro := fun j => if j = k then v else R j
theorem am_ru_get (R : am_Ro) (k : Nat) (v : Int32) (j : Nat) : am_ru R k v j = if j = k then v else R j := rfl
theorem am_up_row (G : am_G) (a k : Nat) (v : Int32) : am_up G a k v a = am_ru (G a) k v := funext fun j => by rw [am_up_get, if_pos rfl]; rfl
def am_rp (R : am_Ro) (S : am_S) : Prop := R 0 = nI (S 13 1) ∧ R 2 = nI (S 13 0) ∧ (∀ p f, p < 8 → f < 5 → R (7 + 5 * p + f) = nI (S f p)) ∧ ∀ a b, a < 8 → b < 8 → R (47 + 8 * a + b) = nI (S (5 + a) b)
/-- a law's TEXT in the row -/
def am_rx (R : am_Ro) (u : Nat) (T : am_T) : Prop := (T = [] ∧ R (5 + u) = -1) ∨ ∃ (B : Nat → Nat) (n : Nat), n ≤ 50 ∧ R (5 + u) = nI n ∧ (∀ j, j < n → R (181 + 50 * u + j) = nI (B j) ∧ B j < 256) ∧ am_pr u B n 500 0 0 0 = some (T, n, true)
def am_rw8 (R : am_Ro) (W : am_We) : Prop := am_rp R W.1 ∧ am_rx R 0 W.2.1 ∧ am_rx R 1 W.2.2.1 ∧ (R 3 = nI W.2.2.2.1.2 ∧ ∀ j, j < W.2.2.2.1.2 → R (111 + j) = nI (W.2.2.2.1.1 j)) ∧ (R 4 = nI W.2.2.2.2.1.2 ∧ ∀ j, j < W.2.2.2.2.1.2 → R (161 + j) = W.2.2.2.2.1.1 j) ∧ R 1 = W.2.2.2.2.2
/-- the number that a SHEET of so many bits holds -/
def am_sgn (b v : Int32) : Int32 := if b = 8 then v.toInt8.toInt32 else if b = 16 then v.toInt16.toInt32 else v
def am_rsh (G : am_G) (j : Nat) (x : Int32 × Nat × (Nat → Int32)) : Prop := G 120 j = x.1 ∧ G 121 j = nI x.2.1 ∧ ∀ i, i < 40 → G 122 (40 * j + i) = am_sgn x.1 (x.2.2 i)
def am_rfl (G : am_G) (s : am_St) : Prop := am_rw8 (G 115) s.1 ∧ (s.2.2.1 ≠ 0 → am_rw8 (G 116) s.2.1) ∧ G 114 4 = (if s.2.2.1 = 0 then 0 else 1) ∧ G 114 5 = nI s.2.2.1 ∧ (∀ k, k < 6 → G 119 k = s.2.2.2.2.1 k) ∧ G 114 15 = -1 ∧ (G 114 25 = nI s.2.2.2.1.length ∧ ∀ i, i < s.2.2.2.1.length → G 125 i = s.2.2.2.1.getD i 0) ∧ ∀ j, j < 4 → am_rsh G j (s.2.2.2.2.2 j)
def am_rO (t : Nat) (as : List Value) (s : am_St) (r : Int32 × am_St) : Prop := ∀ (N : Nat) (xs : Nat → Int32) (q : Nat) (G : am_G), am_rfl G s → ∃ G1 : am_G, (∀ i j, i < 114 → G1 i j = G i j) ∧ am_rfl G1 r.2 ∧ am_CD (am_X0 N xs) 100 t (.ref 114 :: as) (am_L0 q, G) = some (some (.int r.1), (am_L0 q, G1))
/-- what the relation reads -/
theorem am_rfl_fr {G G' : am_G} {s : am_St} (h : am_rfl G s) (hf : ∀ i j, 114 ≤ i → i ≠ 117 → i ≠ 118 → i ≠ 123 → i ≠ 124 → (i = 114 → j = 4 ∨ j = 5 ∨ j = 15 ∨ j = 25) → G' i j = G i j) : am_rfl G' s := by
  obtain ⟨h1, h2, h3, h4, h5, h6, h7, h8⟩ := h
  have e : ∀ i, 114 < i → i ≠ 117 → i ≠ 118 → i ≠ 123 → i ≠ 124 → G' i = G i := fun i a b c d e => funext fun j => hf i j (by omega) b c d e (by omega)
  refine ⟨by rw [e 115 (by decide) (by decide) (by decide) (by decide) (by decide)]; exact h1, fun hc => by rw [e 116 (by decide) (by decide) (by decide) (by decide) (by decide)]; exact h2 hc, by rw [hf 114 4 (by decide) (by decide) (by decide) (by decide) (by decide) (by omega)]; exact h3, by rw [hf 114 5 (by decide) (by decide) (by decide) (by decide) (by decide) (by omega)]; exact h4, fun k hk => by rw [e 119 (by decide) (by decide) (by decide) (by decide) (by decide)]; exact h5 k hk, by rw [hf 114 15 (by decide) (by decide) (by decide) (by decide) (by decide) (by omega)]; exact h6, by rw [hf 114 25 (by decide) (by decide) (by decide) (by decide) (by decide) (by omega), e 125 (by decide) (by decide) (by decide) (by decide) (by decide)]; exact h7, fun j hj => ?_⟩
  obtain ⟨a, b, c⟩ := h8 j hj
  unfold am_rsh
  rw [e 120 (by decide) (by decide) (by decide) (by decide) (by decide), e 121 (by decide) (by decide) (by decide) (by decide) (by decide), e 122 (by decide) (by decide) (by decide) (by decide) (by decide)]
  exact ⟨a, b, c⟩
/-- an ERROR is told -/
theorem am_rO_err {t : Nat} {as : List Value} {s : am_St} {k : Nat} {r : Int32} (hk : k < 6) (hr : r = am_ec k) (h : ∀ (X : am_X) (q : Nat) (G : am_G), am_rfl G s → am_CD X 100 t (.ref 114 :: as) (am_L0 q, G) = some (some (.int r), (am_L0 q, am_up G 119 k (G 119 k + 1)))) : am_rO t as s (am_er k s) := fun N xs q G hc => by
  subst hr
  refine ⟨_, fun i j hi => by rw [am_up_get, if_neg (by omega)], ?_, h _ q G hc⟩
  obtain ⟨h1, h2, h3, h4, h5, h6, h7, h8⟩ := hc
  have f : ∀ i j, i ≠ 119 → am_up G 119 k (G 119 k + 1) i j = G i j := fun i j h => by rw [am_up_get, if_neg h]
  have e : ∀ i, i ≠ 119 → am_up G 119 k (G 119 k + 1) i = G i := fun i h => funext fun j => f i j h
  refine ⟨by rw [e 115 (by decide)]; exact h1, fun hc => by rw [e 116 (by decide)]; exact h2 hc, by rw [f 114 4 (by decide)]; exact h3, by rw [f 114 5 (by decide)]; exact h4, fun i hi => ?_, by rw [f 114 15 (by decide)]; exact h6, by rw [f 114 25 (by decide), e 125 (by decide)]; exact h7, fun j hj => ?_⟩
  · show am_up G 119 k (G 119 k + 1) 119 i = am_ue s.2.2.2.2.1 k i
    rw [am_up_get, if_pos rfl]
    unfold am_ue
    split
    · rename_i e
      subst e
      rw [h5 i hi]
    · exact h5 i hi
  · obtain ⟨a, b, c⟩ := h8 j hj
    unfold am_rsh
    rw [e 120 (by decide), e 121 (by decide), e 122 (by decide)]
    exact ⟨a, b, c⟩
theorem am_rO_same {t : Nat} {as : List Value} {s : am_St} {r : Int32} (h : ∀ (N : Nat) (xs : Nat → Int32) (q : Nat) (G : am_G), am_rfl G s → ∃ G1 : am_G, (∀ i j, i < 114 → G1 i j = G i j) ∧ (∀ i j, 114 ≤ i → i ≠ 117 → i ≠ 118 → i ≠ 123 → i ≠ 124 → (i = 114 → j = 4 ∨ j = 5 ∨ j = 15 ∨ j = 25) → G1 i j = G i j) ∧ am_CD (am_X0 N xs) 100 t (.ref 114 :: as) (am_L0 q, G) = some (some (.int r), (am_L0 q, G1))) : am_rO t as s (am_sy r s) := fun N xs q G hc => by
  obtain ⟨G1, f, g, e⟩ := h N xs q G hc
  exact ⟨G1, f, am_rfl_fr hc g, e⟩
/-- the row alone changes -/
theorem am_rfl_W {G G' : am_G} {s : am_St} {W1 : am_We} (h : am_rfl G s) (hf : ∀ i j, 114 ≤ i → i ≠ 115 → i ≠ 117 → i ≠ 118 → i ≠ 123 → i ≠ 124 → (i = 114 → j = 4 ∨ j = 5 ∨ j = 15 ∨ j = 25) → G' i j = G i j) (h1 : am_rw8 (G' 115) W1) : am_rfl G' (W1, s.2) := by
  have hG : am_rfl (fun i j => if i = 115 then G 115 j else G' i j) s := am_rfl_fr h fun i j a b c d e f => by
    show (if i = 115 then G 115 j else G' i j) = G i j
    split
    · rename_i e; subst e; rfl
    · exact hf i j a (by assumption) b c d e f
  exact ⟨h1, hG.2⟩
theorem am_rp_up {R : am_Ro} {S : am_S} {f p v : Nat} (h : am_rp R S) (hf : f < 5) (hp : p < 8) : am_rp (am_ru R (7 + 5 * p + f) (nI v)) (am_su S f p v) := by
  obtain ⟨h1, h2, h3, h4⟩ := h
  refine ⟨by rw [am_ru_get, if_neg (by omega), am_su_get, if_neg (by omega)]; exact h1, by rw [am_ru_get, if_neg (by omega), am_su_get, if_neg (by omega)]; exact h2, fun a g ha hg => ?_, fun a b ha hb => by rw [am_ru_get, if_neg (by omega), am_su_get, if_neg (by omega)]; exact h4 a b ha hb⟩
  rw [am_ru_get, am_su_get]
  by_cases e : g = f
  · subst e
    by_cases e2 : a = p
    · subst e2
      rw [if_pos rfl, if_pos rfl, if_pos rfl]
    · rw [if_neg (by omega), if_pos rfl, if_neg e2]
      exact h3 a g ha hg
  · rw [if_neg (by omega), if_neg e]
    exact h3 a g ha hg
theorem am_rp_upd {R : am_Ro} {S : am_S} {x y v : Nat} (h : am_rp R S) (hx : x < 8) (hy : y < 8) : am_rp (am_ru R (47 + 8 * x + y) (nI v)) (am_su S (5 + x) y v) := by
  obtain ⟨h1, h2, h3, h4⟩ := h
  refine ⟨by rw [am_ru_get, if_neg (by omega), am_su_get, if_neg (by omega)]; exact h1, by rw [am_ru_get, if_neg (by omega), am_su_get, if_neg (by omega)]; exact h2, fun a g ha hg => by rw [am_ru_get, if_neg (by omega), am_su_get, if_neg (by omega)]; exact h3 a g ha hg, fun a b ha hb => ?_⟩
  rw [am_ru_get, am_su_get]
  by_cases e : a = x
  · subst e
    by_cases e2 : b = y
    · subst e2
      rw [if_pos rfl, if_pos rfl, if_pos rfl]
    · rw [if_neg (by omega), if_pos rfl, if_neg e2]
      exact h4 a b ha hb
  · rw [if_neg (by omega), if_neg (by omega)]
    exact h4 a b ha hb
/-- what stands beyond the people of the row -/
def am_rk (R R' : am_Ro) : Prop := ∀ k, (k = 1 ∨ 3 ≤ k) → (k < 7 ∨ 111 ≤ k) → R' k = R k
theorem am_rx_fr {R R' : am_Ro} {u : Nat} {T : am_T} (h : am_rx R u T) (hu : u < 2) (hf : am_rk R R') : am_rx R' u T := by
  rcases h with ⟨h1, h2⟩ | ⟨B, n, h1, h2, h3, h4⟩
  · exact Or.inl ⟨h1, by rw [hf _ (by omega) (by omega)]; exact h2⟩
  · exact Or.inr ⟨B, n, h1, by rw [hf _ (by omega) (by omega)]; exact h2, fun j hj => by rw [hf _ (by omega) (by omega)]; exact h3 j hj, h4⟩
theorem am_rw8_S {R R' : am_Ro} {W : am_We} {S : am_S} (h : am_rw8 R W) (hf : am_rk R R') (h1 : am_rp R' S) : am_rw8 R' (S, W.2) := by
  obtain ⟨-, a2, a3, ⟨a4, a5⟩, ⟨a6, a7⟩, a8⟩ := h
  exact ⟨h1, am_rx_fr a2 (by decide) hf, am_rx_fr a3 (by decide) hf, ⟨by rw [hf 3 (by omega) (by omega)]; exact a4, fun j hj => by rw [hf _ (by omega) (by omega)]; exact a5 j hj⟩, ⟨by rw [hf 4 (by omega) (by omega)]; exact a6, fun j hj => by rw [hf _ (by omega) (by omega)]; exact a7 j hj⟩, by rw [hf 1 (by omega) (by omega)]; exact a8⟩
section AMR0
variable {X : am_X} {D q : Nat} {G : am_G}
theorem am_mul5 (v : Nat) : (5 : Int32) * nI v = nI (5 * v) := (Int32.ofNat_mul 5 v).symm
theorem am_mul8 (v : Nat) : (8 : Int32) * nI v = nI (8 * v) := (Int32.ofNat_mul 8 v).symm
theorem am_ad7 (v : Nat) : (7 : Int32) + nI v = nI (7 + v) := nI_add 7 v
theorem am_ad47 (v : Nat) : (47 : Int32) + nI v = nI (47 + v) := nI_add 47 v
theorem am_r115 {k : Nat} (hk : k < 281) : am_ald X (am_L0 q, G) 115 (nI k) = some (G 115 k) := by rw [am_a115, am_in_nI hk (by decide), nI_clamp (by omega)]; rfl
theorem am_w115 {k : Nat} {v : Int32} (hk : k < 281) : am_astM (am_L0 q, G) 115 (nI k) v = some (am_L0 q, am_up G 115 k v) := by rw [am_t115, am_in_nI hk (by decide), nI_clamp (by omega)]; rfl
theorem am_m130 {p f : Nat} (hp : p < 8) (hf : f < 5) : am_CD X (D + 1) 130 [.ref 114, .int (nI p), .int (nI f)] (am_L0 q, G) = some (some (.int (G 115 (7 + 5 * p + f))), (am_L0 q, G)) := by
  refine am_CD_of (M := am_N130) rfl rfl ?_
  show am_Rn _ _ ((Option.some FieldType.int)) am_J130 0 [some (.ref 114), some (.int (nI p)), some (.int (nI f))] [] (am_L0 q, G) _
  simp only [am_s130_0, am_s130_1, am_s130_4, am_s130_6, am_s130_7, am_s130_8, am_s130_9, am_s130_10, am_s130_11, am_s130_12, am_s130_13, am_f114_0, am_mul5, am_ad7, nI_add, am_r115 (show 7 + 5 * p + f < 281 by omega), eq_self, am_os_some, Option.toList_some, Option.toList_none, List.cons_append, List.nil_append, if_true, if_false, true_and, am_nw1_i, am_nw1_r, am_nw1_n, cond_true]
theorem am_m131 {p f : Nat} {v : Int32} (hp : p < 8) (hf : f < 5) : am_CD X (D + 1) 131 [.ref 114, .int (nI p), .int (nI f), .int v] (am_L0 q, G) = some (none, (am_L0 q, am_up G 115 (7 + 5 * p + f) v)) := by
  refine am_CD_of (M := am_N131) rfl rfl ?_
  show am_Rn _ _ none am_J131 0 [some (.ref 114), some (.int (nI p)), some (.int (nI f)), some (.int v)] [] (am_L0 q, G) _
  simp only [am_s131_0, am_s131_1, am_s131_4, am_s131_6, am_s131_7, am_s131_8, am_s131_9, am_s131_10, am_s131_11, am_s131_12, am_s131_13, am_s131_14, am_f114_0, am_mul5, am_ad7, nI_add, am_w115 (show 7 + 5 * p + f < 281 by omega), eq_self, am_os_some, Option.toList_some, Option.toList_none, List.cons_append, List.nil_append, if_true, if_false, true_and, am_nw1_i, am_nw1_r, am_nw1_n, cond_true]
theorem am_m133 {a b : Nat} (ha : a < 8) (hb : b < 8) : am_CD X (D + 1) 133 [.ref 114, .int (nI a), .int (nI b)] (am_L0 q, G) = some (some (.int (G 115 (47 + 8 * a + b))), (am_L0 q, G)) := by
  refine am_CD_of (M := am_N133) rfl rfl ?_
  show am_Rn _ _ ((Option.some FieldType.int)) am_J133 0 [some (.ref 114), some (.int (nI a)), some (.int (nI b))] [] (am_L0 q, G) _
  simp only [am_s133_0, am_s133_1, am_s133_4, am_s133_6, am_s133_8, am_s133_9, am_s133_10, am_s133_11, am_s133_12, am_s133_13, am_s133_14, am_f114_0, am_mul8, am_ad47, nI_add, am_r115 (show 47 + 8 * a + b < 281 by omega), eq_self, am_os_some, Option.toList_some, Option.toList_none, List.cons_append, List.nil_append, if_true, if_false, true_and, am_nw1_i, am_nw1_r, am_nw1_n, cond_true]
theorem am_m134 {k : Nat} {v : Int32} (hk : k < 281) : am_CD X (D + 1) 134 [.ref 114, .int (nI k), .int v] (am_L0 q, G) = some (some (.int (G 115 k)), (am_L0 q, am_up G 115 k v)) := by
  refine am_CD_of (M := am_N134) rfl rfl ?_
  show am_Rn _ _ ((Option.some FieldType.int)) am_J134 0 [some (.ref 114), some (.int (nI k)), some (.int v), none] [] (am_L0 q, G) _
  simp only [am_s134_0, am_s134_1, am_s134_4, am_s134_5, am_s134_6, am_s134_7, am_s134_8, am_s134_11, am_s134_12, am_s134_13, am_s134_14, am_s134_15, am_f114_0, am_r115 hk, am_w115 hk, eq_self, am_os_some, Option.toList_some, Option.toList_none, List.cons_append, List.nil_append, if_true, if_false, true_and, am_nw1_i, am_nw1_r, am_nw1_n, cond_true]
def am_hld (v lo hi : Int32) : Int32 := if v < lo then lo else if ¬ v ≤ hi then hi else v
theorem am_m127 (v lo hi : Int32) {w : am_M} : am_CD X (D + 1) 127 [.int v, .int lo, .int hi] w = some (some (.int (am_hld v lo hi)), w) := by
  refine am_CD_of (M := am_N127) rfl rfl ?_
  show am_Rn _ _ ((Option.some FieldType.int)) am_J127 0 [some (.int v), some (.int lo), some (.int hi)] [] w _
  simp only [am_s127_0, am_s127_1, am_s127_2, am_s127_5, am_s127_6, am_s127_9, am_s127_10, am_s127_11, am_s127_14, am_s127_15, am_s127_18, am_s127_19, eq_self, am_os_some, Option.toList_some, Option.toList_none, List.cons_append, List.nil_append, if_true, if_false, true_and, am_nw1_i, am_nw1_r, am_nw1_n, cond_true]
  unfold am_hld
  by_cases h : v < lo
  · simp [h]
  · by_cases h2 : v ≤ hi <;> simp [h, h2]
theorem am_lepred {n : Nat} (hn : n ≤ 8) (v : Int32) : (decide (¬ v < 0) && decide (v ≤ nI n - 1)) = am_ip n v := by
  unfold am_ip
  match n, hn with
  | 0, _ =>
    have e : nI 0 - 1 = -1 := by decide
    rw [e]
    by_cases h : v < 0
    · simp [h]
    · have h1 : ¬ v ≤ -1 := fun h2 => h (Int32.lt_of_le_of_lt h2 (by decide))
      have h3 : ¬ v < nI 0 := h
      simp [h, h1, h3]
  | n + 1, hn =>
    rw [nI_pred]
    by_cases h : v < 0
    · simp [h]
    · obtain ⟨k, hk, rfl⟩ := nI_of h
      have e : (nI k ≤ nI n) = (nI k < nI (n + 1)) := propext ((nI_leI hk (by omega)).trans (Nat.lt_succ_iff.symm.trans (nI_ltI hk (by omega)).symm))
      simp only [e]
theorem am_y132 {n : Nat} (hn : n ≤ 8) (h : G 115 2 = nI n) (v : Int32) : am_CD X (D + 2) 132 [.ref 114, .int v] (am_L0 q, G) = some (some (.int (am_bI (am_ip n v))), (am_L0 q, G)) := by
  rw [am_m132, h, am_lepred hn]
theorem am_m138 {n : Nat} (hn : n ≤ 8) (h : G 115 2 = nI n) (a b : Int32) : am_CD X (D + 3) 138 [.ref 114, .int a, .int b] (am_L0 q, G) = some (some (.int (am_bI (am_ipp n a b))), (am_L0 q, G)) := by
  refine am_CD_of (M := am_N138) rfl rfl ?_
  show am_Rn _ _ ((Option.some FieldType.boolean)) am_J138 0 [some (.ref 114), some (.int a), some (.int b)] [] (am_L0 q, G) _
  unfold am_ipp
  simp only [am_s138_0, am_s138_1, am_s138_2, am_s138_5, am_s138_8, am_s138_9, am_s138_10, am_s138_13, am_s138_16, am_s138_17, am_s138_18, am_s138_21, am_s138_22, am_s138_25, am_s138_26, am_cal_ok am_cat_0 am_v114 (am_y132 (D := D) hn h _), am_bI0, eq_self, am_os_some, Option.toList_some, Option.toList_none, List.cons_append, List.nil_append, if_true, if_false, true_and, am_nw1_i, am_nw1_r, am_nw1_n, cond_true]
  unfold am_bI
  cases am_ip n a <;> cases am_ip n b <;> by_cases c : a = b <;> simp [c]
theorem am_m142 {k : Nat} (hk : k ≤ 6) {w : am_M} : am_CD X (D + 1) 142 [.int (nI k)] w = some (some (.int (am_above k)), w) := by
  refine am_CD_of (M := am_N142) rfl rfl ?_
  show am_Rn _ _ ((Option.some FieldType.int)) am_J142 0 [some (.int (nI k))] [] w _
  match k, hk with
  | 0, _ => simp only [am_s142_0, am_s142_1, am_s142_4, am_s142_5, am_s142_8, am_s142_9, am_s142_10, am_s142_13, am_s142_14, am_s142_15, am_s142_16, am_s142_19, am_s142_20, show (nI 0 = 0) = True by decide, not_true_eq_false, eq_self, am_os_some, Option.toList_some, Option.toList_none, List.cons_append, List.nil_append, if_true, if_false, true_and, am_nw1_i, am_nw1_r, am_nw1_n, cond_true]; rfl
  | 1, _ => simp only [am_s142_0, am_s142_1, am_s142_4, am_s142_5, am_s142_8, am_s142_9, am_s142_10, am_s142_13, am_s142_14, am_s142_15, am_s142_16, am_s142_19, am_s142_20, show (nI 1 = 0) = False by decide, show (nI 1 ≤ 3) = True by decide, not_true_eq_false, not_false_eq_true, eq_self, am_os_some, Option.toList_some, Option.toList_none, List.cons_append, List.nil_append, if_true, if_false, true_and, am_nw1_i, am_nw1_r, am_nw1_n, cond_true]; rfl
  | 2, _ => simp only [am_s142_0, am_s142_1, am_s142_4, am_s142_5, am_s142_8, am_s142_9, am_s142_10, am_s142_13, am_s142_14, am_s142_15, am_s142_16, am_s142_19, am_s142_20, show (nI 2 = 0) = False by decide, show (nI 2 ≤ 3) = True by decide, not_true_eq_false, not_false_eq_true, eq_self, am_os_some, Option.toList_some, Option.toList_none, List.cons_append, List.nil_append, if_true, if_false, true_and, am_nw1_i, am_nw1_r, am_nw1_n, cond_true]; rfl
  | 3, _ => simp only [am_s142_0, am_s142_1, am_s142_4, am_s142_5, am_s142_8, am_s142_9, am_s142_10, am_s142_13, am_s142_14, am_s142_15, am_s142_16, am_s142_19, am_s142_20, show (nI 3 = 0) = False by decide, show (nI 3 ≤ 3) = True by decide, not_true_eq_false, not_false_eq_true, eq_self, am_os_some, Option.toList_some, Option.toList_none, List.cons_append, List.nil_append, if_true, if_false, true_and, am_nw1_i, am_nw1_r, am_nw1_n, cond_true]; rfl
  | 4, _ => simp only [am_s142_0, am_s142_1, am_s142_4, am_s142_5, am_s142_8, am_s142_9, am_s142_10, am_s142_13, am_s142_14, am_s142_15, am_s142_16, am_s142_19, am_s142_20, show (nI 4 = 0) = False by decide, show (nI 4 ≤ 3) = False by decide, show nI 4 - 3 = 1 by decide, not_true_eq_false, not_false_eq_true, eq_self, am_os_some, Option.toList_some, Option.toList_none, List.cons_append, List.nil_append, if_true, if_false, true_and, am_nw1_i, am_nw1_r, am_nw1_n, cond_true]; rfl
  | 5, _ => simp only [am_s142_0, am_s142_1, am_s142_4, am_s142_5, am_s142_8, am_s142_9, am_s142_10, am_s142_13, am_s142_14, am_s142_15, am_s142_16, am_s142_19, am_s142_20, show (nI 5 = 0) = False by decide, show (nI 5 ≤ 3) = False by decide, show nI 5 - 3 = 2 by decide, not_true_eq_false, not_false_eq_true, eq_self, am_os_some, Option.toList_some, Option.toList_none, List.cons_append, List.nil_append, if_true, if_false, true_and, am_nw1_i, am_nw1_r, am_nw1_n, cond_true]; rfl
  | 6, _ => simp only [am_s142_0, am_s142_1, am_s142_4, am_s142_5, am_s142_8, am_s142_9, am_s142_10, am_s142_13, am_s142_14, am_s142_15, am_s142_16, am_s142_19, am_s142_20, show (nI 6 = 0) = False by decide, show (nI 6 ≤ 3) = False by decide, show nI 6 - 3 = 3 by decide, not_true_eq_false, not_false_eq_true, eq_self, am_os_some, Option.toList_some, Option.toList_none, List.cons_append, List.nil_append, if_true, if_false, true_and, am_nw1_i, am_nw1_r, am_nw1_n, cond_true]; rfl
/-- moveAll -/
def am_is4 (a : Nat) : Prop := a = 115 ∨ a = 116 ∨ a = 117 ∨ a = 118
theorem am_rr {a k : Nat} (ha : am_is4 a) (hk : k < 281) : am_ald X (am_L0 q, G) a (nI k) = some (G a k) := by
  have e : am_ald X (am_L0 q, G) a (nI k) = bif am_in (nI k) 281 then some (G a (nI k).toNatClampNeg) else none := by rcases ha with rfl | rfl | rfl | rfl <;> rfl
  rw [e, am_in_nI hk (by decide), nI_clamp (by omega)]; rfl
theorem am_wr {a k : Nat} {v : Int32} (ha : am_is4 a) (hk : k < 281) : am_astM (am_L0 q, G) a (nI k) v = some (am_L0 q, am_up G a k v) := by
  have e : am_astM (am_L0 q, G) a (nI k) v = bif am_in (nI k) 281 then some (am_L0 q, am_up G a (nI k).toNatClampNeg v) else none := by rcases ha with rfl | rfl | rfl | rfl <;> rfl
  rw [e, am_in_nI hk (by decide), nI_clamp (by omega)]; rfl
theorem am_l128 {a b : Nat} (ha : am_is4 a) (hb : am_is4 b) (hab : a ≠ b) : ∀ (d k : Nat) (G : am_G), k + d = 281 → ∃ G' : am_G, (∀ i j, i ≠ b → G' i j = G i j) ∧ (∀ j, j < k → G' b j = G b j) ∧ (∀ j, k ≤ j → j < 281 → G' b j = G a j) ∧ am_Rn X D none am_J128 2 [some (.ref 114), some (.ref a), some (.ref b), some (.int (nI k))] [] (am_L0 q, G) (none, (am_L0 q, G')) := by
  intro d
  induction d with
  | zero =>
    intro k G hk
    obtain rfl : k = 281 := by omega
    refine ⟨G, fun _ _ _ => rfl, fun _ _ => rfl, fun _ _ _ => absurd ‹_› (by omega), ?_⟩
    have h : ¬ nI 281 < 281 := by decide +kernel
    simp only [am_s128_2, am_s128_3, am_s128_6, am_s128_21, h, eq_self, am_os_some, Option.toList_some, Option.toList_none, List.cons_append, List.nil_append, if_true, if_false, true_and, am_nw1_i, am_nw1_r, am_nw1_n, cond_true]
  | succ d ih =>
    intro k G hk
    have h : nI k < 281 := nI_lt (b := 281) (by omega) (by decide)
    have hi : nI k + 1 = nI (k + 1) := nI_add k 1
    obtain ⟨G', h1, h2, h3, hh⟩ := ih (k + 1) (am_up G b k (G a k)) (by omega)
    refine ⟨G', fun i j hx => by rw [h1 i j hx, am_up_get, if_neg hx], fun j hj => by rw [h2 j (by omega), am_up_get, if_pos rfl, if_neg (by omega)], fun j hj hj2 => ?_, ?_⟩
    · by_cases e : j = k
      · subst e
        rw [h2 j (by omega), am_up_get, if_pos rfl, if_pos rfl]
      · rw [h3 j (by omega) hj2, am_up_get, if_neg hab]
    · simp only [am_s128_2, am_s128_3, am_s128_6, am_s128_9, am_s128_10, am_s128_11, am_s128_12, am_s128_13, am_s128_14, am_s128_15, h, am_rr ha (show k < 281 by omega), am_wr hb (show k < 281 by omega), eq_self, am_os_some, Option.toList_some, Option.toList_none, List.cons_append, List.nil_append, if_true, if_false, true_and, am_nw1_i, am_nw1_r, am_nw1_n, cond_true]
      rw [am_s128_18, hi]
      exact hh
theorem am_m128 {a b : Nat} (ha : am_is4 a) (hb : am_is4 b) (hab : a ≠ b) : ∃ G' : am_G, (∀ i j, i ≠ b → G' i j = G i j) ∧ (∀ j, j < 281 → G' b j = G a j) ∧ am_CD X (D + 1) 128 [.ref 114, .ref a, .ref b] (am_L0 q, G) = some (none, (am_L0 q, G')) := by
  obtain ⟨G', h1, -, h3, hh⟩ := am_l128 (X := X) (D := D) (q := q) ha hb hab 281 0 G rfl
  refine ⟨G', h1, fun j hj => h3 j (Nat.zero_le _) hj, am_CD_of (M := am_N128) rfl rfl ?_⟩
  show am_Rn _ _ none am_J128 0 [some (.ref 114), some (.ref a), some (.ref b), none] [] (am_L0 q, G) _
  simp only [am_s128_0, am_s128_1, eq_self, am_os_some, Option.toList_some, Option.toList_none, List.cons_append, List.nil_append, if_true, if_false, true_and, am_nw1_i, am_nw1_r, am_nw1_n, cond_true]
  exact hh
end AMR0
