/-! PEOPLE in the class: where their cells are -/
def am_ispe (a : Nat) : Prop := a = 10 ∨ a = 39 ∨ a = 60 ∨ a = 76
def am_ist (a : Nat) : Prop := a = 10 ∨ a = 60 ∨ a = 76
theorem am_ist_p {a : Nat} (h : am_ist a) : am_ispe a := by
  rcases h with rfl | rfl | rfl
  · exact Or.inl rfl
  · exact Or.inr (Or.inr (Or.inl rfl))
  · exact Or.inr (Or.inr (Or.inr rfl))
section AMPE
variable {X : am_X} {D q a : Nat} {G : am_G} {x i : Int32} {as : List Value}
theorem am_fa_0 (h : am_ist a) : am_fld (am_L0 q, G) a 2 0 = some (.ref 2) := by rcases h with rfl | rfl | rfl <;> rfl
theorem am_fa_1 (h : am_ist a) : am_fld (am_L0 q, G) a 2 1 = some (.ref 6) := by rcases h with rfl | rfl | rfl <;> rfl
theorem am_fa_2 (h : am_ispe a) : am_fld (am_L0 q, G) a 2 2 = some (.ref (a + 1)) := by rcases h with rfl | rfl | rfl | rfl <;> rfl
theorem am_fa_3 (h : am_ispe a) : am_fld (am_L0 q, G) a 2 3 = some (.ref (a + 2)) := by rcases h with rfl | rfl | rfl | rfl <;> rfl
theorem am_fa_4 (h : am_ispe a) : am_fld (am_L0 q, G) a 2 4 = some (.ref (a + 3)) := by rcases h with rfl | rfl | rfl | rfl <;> rfl
theorem am_fa_5 (h : am_ispe a) : am_fld (am_L0 q, G) a 2 5 = some (.ref (a + 4)) := by rcases h with rfl | rfl | rfl | rfl <;> rfl
theorem am_fa_6 (h : am_ispe a) : am_fld (am_L0 q, G) a 2 6 = some (.ref (a + 5)) := by rcases h with rfl | rfl | rfl | rfl <;> rfl
theorem am_fa_7 (h : am_ispe a) : am_fld (am_L0 q, G) a 2 7 = some (.ref (a + 6)) := by rcases h with rfl | rfl | rfl | rfl <;> rfl
theorem am_fa_8 (h : am_ispe a) : am_fld (am_L0 q, G) a 2 8 = some (.int (G a 8)) := by rcases h with rfl | rfl | rfl | rfl <;> rfl
theorem am_pa_8 (h : am_ispe a) : am_putM (am_L0 q, G) a 2 8 (.int x) = some (am_L0 q, am_up G a 8 x) := by rcases h with rfl | rfl | rfl | rfl <;> rfl
theorem am_fa_9 (h : am_ispe a) : am_fld (am_L0 q, G) a 2 9 = some (.int (G a 9)) := by rcases h with rfl | rfl | rfl | rfl <;> rfl
theorem am_pa_9 (h : am_ispe a) : am_putM (am_L0 q, G) a 2 9 (.int x) = some (am_L0 q, am_up G a 9 x) := by rcases h with rfl | rfl | rfl | rfl <;> rfl
theorem am_aa_1 (h : am_ispe a) : am_ald X (am_L0 q, G) (a + 1) i = bif am_in i 8 then some (G (a + 1) i.toNatClampNeg) else none := by rcases h with rfl | rfl | rfl | rfl <;> rfl
theorem am_ta_1 (h : am_ispe a) : am_astM (am_L0 q, G) (a + 1) i x = bif am_in i 8 then some (am_L0 q, am_up G (a + 1) i.toNatClampNeg x) else none := by rcases h with rfl | rfl | rfl | rfl <;> rfl
theorem am_aa_2 (h : am_ispe a) : am_ald X (am_L0 q, G) (a + 2) i = bif am_in i 8 then some (G (a + 2) i.toNatClampNeg) else none := by rcases h with rfl | rfl | rfl | rfl <;> rfl
theorem am_ta_2 (h : am_ispe a) : am_astM (am_L0 q, G) (a + 2) i x = bif am_in i 8 then some (am_L0 q, am_up G (a + 2) i.toNatClampNeg x) else none := by rcases h with rfl | rfl | rfl | rfl <;> rfl
theorem am_aa_3 (h : am_ispe a) : am_ald X (am_L0 q, G) (a + 3) i = bif am_in i 8 then some (G (a + 3) i.toNatClampNeg) else none := by rcases h with rfl | rfl | rfl | rfl <;> rfl
theorem am_ta_3 (h : am_ispe a) : am_astM (am_L0 q, G) (a + 3) i x = bif am_in i 8 then some (am_L0 q, am_up G (a + 3) i.toNatClampNeg x) else none := by rcases h with rfl | rfl | rfl | rfl <;> rfl
theorem am_aa_4 (h : am_ispe a) : am_ald X (am_L0 q, G) (a + 4) i = bif am_in i 8 then some (G (a + 4) i.toNatClampNeg) else none := by rcases h with rfl | rfl | rfl | rfl <;> rfl
theorem am_ta_4 (h : am_ispe a) : am_astM (am_L0 q, G) (a + 4) i x = bif am_in i 8 then some (am_L0 q, am_up G (a + 4) i.toNatClampNeg x) else none := by rcases h with rfl | rfl | rfl | rfl <;> rfl
theorem am_aa_5 (h : am_ispe a) : am_ald X (am_L0 q, G) (a + 5) i = bif am_in i 8 then some (G (a + 5) i.toNatClampNeg) else none := by rcases h with rfl | rfl | rfl | rfl <;> rfl
theorem am_ta_5 (h : am_ispe a) : am_astM (am_L0 q, G) (a + 5) i x = bif am_in i 8 then some (am_L0 q, am_up G (a + 5) i.toNatClampNeg x) else none := by rcases h with rfl | rfl | rfl | rfl <;> rfl
theorem am_fa_d (h : am_ispe a) : am_fld (am_L0 q, G) (a + 6) 0 0 = some (.ref (a + 7)) := by rcases h with rfl | rfl | rfl | rfl <;> rfl
theorem am_va (h : am_ispe a) : am_rcv true 2 (.ref a :: as) (am_L0 q, G) = true := by rcases h with rfl | rfl | rfl | rfl <;> rfl
theorem am_vd (h : am_ispe a) : am_rcv true 0 (.ref (a + 6) :: as) (am_L0 q, G) = true := by rcases h with rfl | rfl | rfl | rfl <;> rfl
theorem am_ra {j : Nat} (h : am_ispe a) (hj : j < 8) : am_rld (am_L0 q, G) (a + 7) (nI j) = some (a + 8 + j) := by
  match j, hj with
  | 0, _ => rcases h with rfl | rfl | rfl | rfl <;> rfl
  | 1, _ => rcases h with rfl | rfl | rfl | rfl <;> rfl
  | 2, _ => rcases h with rfl | rfl | rfl | rfl <;> rfl
  | 3, _ => rcases h with rfl | rfl | rfl | rfl <;> rfl
  | 4, _ => rcases h with rfl | rfl | rfl | rfl <;> rfl
  | 5, _ => rcases h with rfl | rfl | rfl | rfl <;> rfl
  | 6, _ => rcases h with rfl | rfl | rfl | rfl <;> rfl
  | 7, _ => rcases h with rfl | rfl | rfl | rfl <;> rfl
theorem am_lz {j : Nat} (h : am_ispe a) (hj : j < 8) : (am_L0 q)[a + 8 + j]? = some (.inr (.inl 8)) := by
  match j, hj with
  | 0, _ => rcases h with rfl | rfl | rfl | rfl <;> rfl
  | 1, _ => rcases h with rfl | rfl | rfl | rfl <;> rfl
  | 2, _ => rcases h with rfl | rfl | rfl | rfl <;> rfl
  | 3, _ => rcases h with rfl | rfl | rfl | rfl <;> rfl
  | 4, _ => rcases h with rfl | rfl | rfl | rfl <;> rfl
  | 5, _ => rcases h with rfl | rfl | rfl | rfl <;> rfl
  | 6, _ => rcases h with rfl | rfl | rfl | rfl <;> rfl
  | 7, _ => rcases h with rfl | rfl | rfl | rfl <;> rfl
theorem am_ad {i j : Nat} (h : am_ispe a) (hi : i < 8) (hj : j < 8) : am_ald X (am_L0 q, G) (a + 8 + i) (nI j) = some (G (a + 8 + i) j) := by
  unfold am_ald
  simp only [am_lz h hi, am_in_nI hj (by decide), cond_true, nI_clamp (show j < 2 ^ 31 by omega)]
theorem am_td {i j : Nat} (h : am_ispe a) (hi : i < 8) (hj : j < 8) : am_astM (am_L0 q, G) (a + 8 + i) (nI j) x = some (am_L0 q, am_up G (a + 8 + i) j x) := by
  unfold am_astM
  simp only [am_lz h hi, am_in_nI hj (by decide), cond_true, nI_clamp (show j < 2 ^ 31 by omega)]
theorem am_ap_1 {p : Nat} (h : am_ispe a) (hp : p < 8) : am_ald X (am_L0 q, G) (a + 1) (nI p) = some (G (a + 1) p) := by rw [am_aa_1 h, am_in_nI hp (by decide), nI_clamp (by omega)]; rfl
theorem am_ap_2 {p : Nat} (h : am_ispe a) (hp : p < 8) : am_ald X (am_L0 q, G) (a + 2) (nI p) = some (G (a + 2) p) := by rw [am_aa_2 h, am_in_nI hp (by decide), nI_clamp (by omega)]; rfl
theorem am_ap_3 {p : Nat} (h : am_ispe a) (hp : p < 8) : am_ald X (am_L0 q, G) (a + 3) (nI p) = some (G (a + 3) p) := by rw [am_aa_3 h, am_in_nI hp (by decide), nI_clamp (by omega)]; rfl
theorem am_ap_4 {p : Nat} (h : am_ispe a) (hp : p < 8) : am_ald X (am_L0 q, G) (a + 4) (nI p) = some (G (a + 4) p) := by rw [am_aa_4 h, am_in_nI hp (by decide), nI_clamp (by omega)]; rfl
theorem am_ap_5 {p : Nat} (h : am_ispe a) (hp : p < 8) : am_ald X (am_L0 q, G) (a + 5) (nI p) = some (G (a + 5) p) := by rw [am_aa_5 h, am_in_nI hp (by decide), nI_clamp (by omega)]; rfl
theorem am_tp_1 {p : Nat} (h : am_ispe a) (hp : p < 8) : am_astM (am_L0 q, G) (a + 1) (nI p) x = some (am_L0 q, am_up G (a + 1) p x) := by rw [am_ta_1 h, am_in_nI hp (by decide), nI_clamp (by omega)]; rfl
theorem am_tp_2 {p : Nat} (h : am_ispe a) (hp : p < 8) : am_astM (am_L0 q, G) (a + 2) (nI p) x = some (am_L0 q, am_up G (a + 2) p x) := by rw [am_ta_2 h, am_in_nI hp (by decide), nI_clamp (by omega)]; rfl
theorem am_tp_3 {p : Nat} (h : am_ispe a) (hp : p < 8) : am_astM (am_L0 q, G) (a + 3) (nI p) x = some (am_L0 q, am_up G (a + 3) p x) := by rw [am_ta_3 h, am_in_nI hp (by decide), nI_clamp (by omega)]; rfl
theorem am_tp_4 {p : Nat} (h : am_ispe a) (hp : p < 8) : am_astM (am_L0 q, G) (a + 4) (nI p) x = some (am_L0 q, am_up G (a + 4) p x) := by rw [am_ta_4 h, am_in_nI hp (by decide), nI_clamp (by omega)]; rfl
theorem am_tp_5 {p : Nat} (h : am_ispe a) (hp : p < 8) : am_astM (am_L0 q, G) (a + 5) (nI p) x = some (am_L0 q, am_up G (a + 5) p x) := by rw [am_ta_5 h, am_in_nI hp (by decide), nI_clamp (by omega)]; rfl
end AMPE
/-- the cells of PEOPLE at a hold S -/
def am_cp (a : Nat) (G : am_G) (S : am_S) : Prop := (∀ p, p < 8 → G (a + 1) p = nI (S 0 p) ∧ G (a + 2) p = nI (S 1 p) ∧ G (a + 3) p = nI (S 2 p) ∧ G (a + 4) p = nI (S 3 p) ∧ G (a + 5) p = nI (S 4 p)) ∧ (∀ i j, i < 8 → j < 8 → G (a + 8 + i) j = nI (S (5 + i) j)) ∧ G a 8 = nI (S 13 0) ∧ G a 9 = nI (S 13 1)
/-- what is outside these cells -/
def am_out (a i : Nat) : Prop := i < a ∨ a + 16 ≤ i
theorem am_cp_fr {a : Nat} {G G' : am_G} {S : am_S} (h : am_cp a G S) (hf : ∀ i j, a ≤ i → i < a + 16 → G' i j = G i j) : am_cp a G' S := by
  obtain ⟨h1, h2, h3, h4⟩ := h
  refine ⟨fun p hp => ?_, fun i j hi hj => ?_, ?_, ?_⟩
  · rw [hf _ _ (by omega) (by omega), hf _ _ (by omega) (by omega), hf _ _ (by omega) (by omega), hf _ _ (by omega) (by omega), hf _ _ (by omega) (by omega)]
    exact h1 p hp
  · rw [hf _ _ (by omega) (by omega)]
    exact h2 i j hi hj
  · rw [hf _ _ (by omega) (by omega)]
    exact h3
  · rw [hf _ _ (by omega) (by omega)]
    exact h4
/-- one value becomes another -/
theorem am_cp_up {a f p v : Nat} {G : am_G} {S : am_S} (h : am_cp a G S) (hf : f < 5) (hp : p < 8) : am_cp a (am_up G (a + 1 + f) p (nI v)) (am_su S f p v) := by
  obtain ⟨h1, h2, h3, h4⟩ := h
  refine ⟨fun z hz => ?_, fun i j hi hj => ?_, ?_, ?_⟩
  · have := h1 z hz
    have key : ∀ g, g < 5 → G (a + 1 + g) z = nI (S g z) → am_up G (a + 1 + f) p (nI v) (a + 1 + g) z = nI (am_su S f p v g z) := by
      intro g hg hgz
      simp only [am_up_get, am_su_get]
      by_cases e : g = f
      · subst e
        rw [if_pos rfl, if_pos rfl]
        split
        · rfl
        · exact hgz
      · rw [if_neg (by omega), if_neg e]
        exact hgz
    exact ⟨key 0 (by decide) this.1, key 1 (by decide) this.2.1, key 2 (by decide) this.2.2.1, key 3 (by decide) this.2.2.2.1, key 4 (by decide) this.2.2.2.2⟩
  · simp only [am_up_get, am_su_get]
    rw [if_neg (by omega), if_neg (by omega)]
    exact h2 i j hi hj
  · simp only [am_up_get, am_su_get]
    rw [if_neg (by omega), if_neg (by omega)]
    exact h3
  · simp only [am_up_get, am_su_get]
    rw [if_neg (by omega), if_neg (by omega)]
    exact h4
theorem am_cp_upd {a x y v : Nat} {G : am_G} {S : am_S} (h : am_cp a G S) (hx : x < 8) (hy : y < 8) : am_cp a (am_up G (a + 8 + x) y (nI v)) (am_su S (5 + x) y v) := by
  obtain ⟨h1, h2, h3, h4⟩ := h
  refine ⟨fun z hz => ?_, fun i j hi hj => ?_, ?_, ?_⟩
  · have := h1 z hz
    simp only [am_up_get, am_su_get]
    rw [if_neg (by omega), if_neg (by omega), if_neg (by omega), if_neg (by omega), if_neg (by omega), if_neg (by omega), if_neg (by omega), if_neg (by omega), if_neg (by omega), if_neg (by omega)]
    exact this
  · simp only [am_up_get, am_su_get]
    by_cases e : i = x
    · subst e
      rw [if_pos rfl, if_pos rfl]
      split
      · rfl
      · exact h2 i j hi hj
    · rw [if_neg (by omega), if_neg (by omega)]
      exact h2 i j hi hj
  · simp only [am_up_get, am_su_get]
    rw [if_neg (by omega), if_neg (by omega)]
    exact h3
  · simp only [am_up_get, am_su_get]
    rw [if_neg (by omega), if_neg (by omega)]
    exact h4
theorem am_cp_ups {a k v : Nat} {G : am_G} {S : am_S} (h : am_cp a G S) (hk : k < 2) : am_cp a (am_up G a (8 + k) (nI v)) (am_su S 13 k v) := by
  obtain ⟨h1, h2, h3, h4⟩ := h
  refine ⟨fun z hz => ?_, fun i j hi hj => ?_, ?_, ?_⟩
  · have := h1 z hz
    simp only [am_up_get, am_su_get]
    rw [if_neg (by omega), if_neg (by omega), if_neg (by omega), if_neg (by omega), if_neg (by omega), if_neg (by omega), if_neg (by omega), if_neg (by omega), if_neg (by omega), if_neg (by omega)]
    exact this
  · simp only [am_up_get, am_su_get]
    rw [if_neg (by omega), if_neg (by omega)]
    exact h2 i j hi hj
  · simp only [am_up_get, am_su_get, if_true]
    by_cases e : k = 0
    · subst e; rfl
    · rw [if_neg (by omega), if_neg (by omega)]; exact h3
  · simp only [am_up_get, am_su_get, if_true]
    by_cases e : k = 1
    · subst e; rfl
    · rw [if_neg (by omega), if_neg (by omega)]; exact h4
