/-! the class's whole state. A WELL: PEOPLE, two laws, THE TAPE (bytes, how many), the numbers that wait (how many), z -/
abbrev am_We : Type := am_S × am_T × am_T × ((Nat → Nat) × Nat) × ((Nat → Int32) × Nat) × Int32
def am_tap (w : Nat) (G : am_G) (B : (Nat → Nat) × Nat) : Prop := G (w + 25) 1 = nI B.2 ∧ ∀ j, j < B.2 → G (w + 26) j = nI (B.1 j)
def am_wai (w : Nat) (G : am_G) (V : (Nat → Int32) × Nat) : Prop := G (w + 27) 1 = nI V.2 ∧ ∀ j, j < V.2 → G (w + 28) j = V.1 j
def am_cwe (w : Nat) (G : am_G) (W : am_We) : Prop := am_cp (w + 9) G W.1 ∧ am_cw (w + 1) 0 G W.2.1 ∧ am_cw (w + 5) 1 G W.2.2.1 ∧ am_tap w G W.2.2.2.1 ∧ am_wai w G W.2.2.2.2.1 ∧ G w 5 = W.2.2.2.2.2
def am_wwf (W : am_We) : Prop := am_wf W.1 ∧ W.1 13 1 ≤ 9999 ∧ am_wt W.2.1 ∧ am_wt W.2.2.1 ∧ W.2.2.2.1.2 ≤ 50 ∧ (∀ j, j < W.2.2.2.1.2 → W.2.2.2.1.1 j < 256) ∧ W.2.2.2.2.1.2 ≤ 20
abbrev am_Sh : Type := Nat → Int32 × Nat × (Nat → Int32)
def am_cfl (G : am_G) (W I : am_We) (c : Nat) (L : List Int32) (E : Nat → Int32) (H : am_Sh) : Prop := am_cwe 1 G W ∧ am_cwe 30 G I ∧ G 0 8 = nI c ∧ am_crw G 102 L ∧ (∀ k, k < 6 → G 105 k = E k) ∧ ∀ j, j < 4 → am_csh G j (H j).1 (H j).2.1 (H j).2.2
def am_vok (b v : Int32) : Prop := (b = 8 → ∃ k, k < 256 ∧ v = nI k) ∧ (b = 16 → ∃ k, k < 65536 ∧ v = nI k)
def am_sok (W I : am_We) (c : Nat) (L : List Int32) (H : am_Sh) : Prop := am_wwf W ∧ am_wwf I ∧ c ≤ 1000 ∧ L.length ≤ 40 ∧ ∀ j, j < 4 → (H j).2.1 ≤ 40 ∧ ((H j).1 = 0 ∨ (H j).1 = 8 ∨ (H j).1 = 16 ∨ (H j).1 = 32) ∧ ∀ i, am_vok (H j).1 ((H j).2.2 i)
/-- the cells that the state stands in -/
def am_kee (i : Nat) : Prop := i < 114 ∧ i ≠ 5 ∧ i ≠ 9 ∧ i ≠ 34 ∧ i ≠ 38 ∧ ¬ (59 ≤ i ∧ i ≤ 101) ∧ i ≠ 104
theorem am_tap_fr {w : Nat} {G G' : am_G} {B : (Nat → Nat) × Nat} (h : am_tap w G B) (hf : ∀ j, G' (w + 25) j = G (w + 25) j ∧ G' (w + 26) j = G (w + 26) j) : am_tap w G' B := ⟨by rw [(hf 1).1]; exact h.1, fun j hj => by rw [(hf j).2]; exact h.2 j hj⟩
theorem am_wai_fr {w : Nat} {G G' : am_G} {V : (Nat → Int32) × Nat} (h : am_wai w G V) (hf : ∀ j, G' (w + 27) j = G (w + 27) j ∧ G' (w + 28) j = G (w + 28) j) : am_wai w G' V := ⟨by rw [(hf 1).1]; exact h.1, fun j hj => by rw [(hf j).2]; exact h.2 j hj⟩
theorem am_cwe_fr {w : Nat} {G G' : am_G} {W : am_We} (h : am_cwe w G W) (hf : ∀ i j, w ≤ i → i < w + 29 → i ≠ w + 4 → i ≠ w + 8 → G' i j = G i j) : am_cwe w G' W := by
  obtain ⟨h1, h2, h3, h4, h5, h6⟩ := h
  exact ⟨am_cp_fr h1 fun i j a b => hf i j (by omega) (by omega) (by omega) (by omega), am_cw_fr h2 fun i j a b => hf i j (by omega) (by omega) (by omega) (by omega), am_cw_fr h3 fun i j a b => hf i j (by omega) (by omega) (by omega) (by omega), am_tap_fr h4 fun j => ⟨hf _ j (by omega) (by omega) (by omega) (by omega), hf _ j (by omega) (by omega) (by omega) (by omega)⟩, am_wai_fr h5 fun j => ⟨hf _ j (by omega) (by omega) (by omega) (by omega), hf _ j (by omega) (by omega) (by omega) (by omega)⟩, by rw [hf w 5 (by omega) (by omega) (by omega) (by omega)]; exact h6⟩
theorem am_csh_fr {G G' : am_G} {j z : Nat} {b : Int32} {V : Nat → Int32} (h : am_csh G j b z V) (hf : ∀ k, G' (106 + 2 * j) k = G (106 + 2 * j) k ∧ G' (107 + 2 * j) k = G (107 + 2 * j) k) : am_csh G' j b z V := ⟨by rw [(hf 1).1]; exact h.1, by rw [(hf 2).1]; exact h.2.1, h.2.2.1, fun i hi => by rw [(hf i).2]; exact h.2.2.2 i hi⟩
theorem am_cfl_fr {G G' : am_G} {W I : am_We} {c : Nat} {L : List Int32} {E : Nat → Int32} {H : am_Sh} (h : am_cfl G W I c L E H) (hf : ∀ i j, am_kee i → G' i j = G i j) : am_cfl G' W I c L E H := by
  obtain ⟨h1, h2, h3, h4, h5, h6⟩ := h
  exact ⟨am_cwe_fr h1 fun i j a b c d => hf i j (by unfold am_kee; omega), am_cwe_fr h2 fun i j a b c d => hf i j (by unfold am_kee; omega), by rw [hf 0 8 (by unfold am_kee; omega)]; exact h3, am_crw_fr h4 fun j => ⟨hf _ j (by unfold am_kee; omega), hf _ j (by unfold am_kee; omega)⟩, fun k hk => by rw [hf 105 k (by unfold am_kee; omega)]; exact h5 k hk, fun j hj => am_csh_fr (h6 j hj) fun k => ⟨hf _ k (by unfold am_kee; omega), hf _ k (by unfold am_kee; omega)⟩⟩
/-- the present WELL alone changes -/
theorem am_cfl_W {G G' : am_G} {W W1 I : am_We} {c : Nat} {L : List Int32} {E : Nat → Int32} {H : am_Sh} (h : am_cfl G W I c L E H) (hf : ∀ i j, am_kee i → ¬ (1 ≤ i ∧ i < 30) → G' i j = G i j) (h1 : am_cwe 1 G' W1) : am_cfl G' W1 I c L E H := by
  obtain ⟨-, h2, h3, h4, h5, h6⟩ := h
  exact ⟨h1, am_cwe_fr h2 fun i j a b c d => hf i j (by unfold am_kee; omega) (by omega), by rw [hf 0 8 (by unfold am_kee; omega) (by omega)]; exact h3, am_crw_fr h4 fun j => ⟨hf _ j (by unfold am_kee; omega) (by omega), hf _ j (by unfold am_kee; omega) (by omega)⟩, fun k hk => by rw [hf 105 k (by unfold am_kee; omega) (by omega)]; exact h5 k hk, fun j hj => am_csh_fr (h6 j hj) fun k => ⟨hf _ k (by unfold am_kee; omega) (by omega), hf _ k (by unfold am_kee; omega) (by omega)⟩⟩
theorem am_cfl_cn {G : am_G} {W I : am_We} {c : Nat} {L : List Int32} {E : Nat → Int32} {H : am_Sh} (h : am_cfl G W I c L E H) (hw : am_wwf W) : am_cn G W.1 W.2.1 W.2.2.1 := ⟨h.1.1, hw.1, h.1.2.1, hw.2.2.1, h.1.2.2.1, hw.2.2.2.1, hw.2.1⟩
/-- an ERROR is told -/
def am_ue (E : Nat → Int32) (k : Nat) : Nat → Int32 := fun i => if i = k then E i + 1 else E i
theorem am_cfl_E {G : am_G} {W I : am_We} {c : Nat} {L : List Int32} {E : Nat → Int32} {H : am_Sh} (h : am_cfl G W I c L E H) {k : Nat} (hk : k < 6) : am_cfl (am_up G 105 k (G 105 k + 1)) W I c L (am_ue E k) H := by
  obtain ⟨h1, h2, h3, h4, h5, h6⟩ := h
  have hf : ∀ i j, i ≠ 105 → am_up G 105 k (G 105 k + 1) i j = G i j := fun i j h => by rw [am_up_get, if_neg h]
  refine ⟨am_cwe_fr h1 fun i j a b c d => hf i j (by omega), am_cwe_fr h2 fun i j a b c d => hf i j (by omega), by rw [hf 0 8 (by omega)]; exact h3, am_crw_fr h4 fun j => ⟨hf _ j (by omega), hf _ j (by omega)⟩, fun i hi => ?_, fun j hj => am_csh_fr (h6 j hj) fun k => ⟨hf _ k (by omega), hf _ k (by omega)⟩⟩
  rw [am_up_get, if_pos rfl]
  unfold am_ue
  split
  · rename_i e
    subst e
    rw [h5 i hi]
  · exact h5 i hi
/-- a call of the class, in terms of the state -/
def am_cop (t : Nat) (as : List Value) (W I : am_We) (c : Nat) (L : List Int32) (E : Nat → Int32) (H : am_Sh) (r : Int32) (W1 I1 : am_We) (c1 : Nat) (L1 : List Int32) (E1 : Nat → Int32) (H1 : am_Sh) : Prop := ∀ (N : Nat) (xs : Nat → Int32) (q : Nat) (G : am_G), am_cfl G W I c L E H → ∃ (q1 : Nat) (G1 : am_G), (∀ i j, 114 ≤ i → G1 i j = G i j) ∧ am_cfl G1 W1 I1 c1 L1 E1 H1 ∧ am_CD (am_X0 N xs) 100 t (.ref 0 :: as) (am_L0 q, G) = some (some (.int r), (am_L0 q1, G1))
/-- answers an ERROR -/
theorem am_cop_err {t : Nat} {as : List Value} {W I : am_We} {c : Nat} {L : List Int32} {E : Nat → Int32} {H : am_Sh} {k : Nat} {r : Int32} (hk : k < 6) (h : ∀ (X : am_X) (q : Nat) (G : am_G), am_cfl G W I c L E H → am_CD X 100 t (.ref 0 :: as) (am_L0 q, G) = some (some (.int r), (am_L0 q, am_up G 105 k (G 105 k + 1)))) : am_cop t as W I c L E H r W I c L (am_ue E k) H := fun _ _ q G hc => ⟨q, _, fun i j hi => by rw [am_up_get, if_neg (by omega)], am_cfl_E hc hk, h _ q G hc⟩
/-- tells something, changes nothing of the state -/
theorem am_cop_same {t : Nat} {as : List Value} {W I : am_We} {c : Nat} {L : List Int32} {E : Nat → Int32} {H : am_Sh} {r : Int32} (h : ∀ (N : Nat) (xs : Nat → Int32) (q : Nat) (G : am_G), am_cfl G W I c L E H → ∃ (q1 : Nat) (G1 : am_G), (∀ i j, (i ≠ 5 ∧ i ≠ 9 ∧ ¬ (59 ≤ i ∧ i ≤ 101)) → G1 i j = G i j) ∧ am_CD (am_X0 N xs) 100 t (.ref 0 :: as) (am_L0 q, G) = some (some (.int r), (am_L0 q1, G1))) : am_cop t as W I c L E H r W I c L E H := fun N xs q G hc => by
  obtain ⟨q1, G1, f, g⟩ := h N xs q G hc
  exact ⟨q1, G1, fun i j hi => f i j (by omega), am_cfl_fr hc fun i j hi => f i j (by unfold am_kee at hi; omega), g⟩
theorem am_L0_X {N : Nat} {xs : Nat → Int32} {q : Nat} {G : am_G} {i : Nat} (hi : i < 7) : am_ald (am_X0 N xs) (am_L0 q, G) 1004 (nI i) = some (am_above i) := by
  match i, hi with
  | 0, _ => rfl
  | 1, _ => rfl
  | 2, _ => rfl
  | 3, _ => rfl
  | 4, _ => rfl
  | 5, _ => rfl
  | 6, _ => rfl
