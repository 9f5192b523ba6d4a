/-! THE REFERENCE strikes the first ring again and again: the pure side -/
def am_LL : List am_R3 := am_L2a 8 0 ++ am_L3a 8 0
def am_key (x : am_R3) : Nat := if x.2.2 = 8 then x.1 * 8 + x.2.1 else 64 + (x.1 * 8 + x.2.1) * 8 + x.2.2
def am_rgv (x : am_R3) : Bool := decide (x.1 < x.2.1) && (decide (x.2.1 < 8) && (decide (x.2.2 = 8) || (decide (x.2.2 < 8) && (decide (x.1 < x.2.2) && decide (x.2.1 ≠ x.2.2)))))
theorem am_rgv_e {x : am_R3} (h : am_rgv x = true) : x.1 < x.2.1 ∧ x.2.1 < 8 ∧ (x.2.2 = 8 ∨ x.2.2 < 8 ∧ x.1 < x.2.2 ∧ x.2.1 ≠ x.2.2) := by
  unfold am_rgv at h
  simpa only [Bool.and_eq_true, Bool.or_eq_true, decide_eq_true_eq] using h
theorem am_LL_v : ∀ x ∈ am_LL, am_rgv x = true := by decide +kernel
theorem am_LL_s : am_LL.Pairwise fun x y => am_key x < am_key y := by decide +kernel
theorem am_LL_c2 : ∀ (a b : Fin 8), a.1 < b.1 → (a.1, b.1, 8) ∈ am_LL := by decide +kernel
theorem am_LL_c3 : ∀ (a b c : Fin 8), a.1 < b.1 → a.1 < c.1 → b.1 ≠ c.1 → (a.1, b.1, c.1) ∈ am_LL := by decide +kernel
theorem am_LL_pre {pre suf : List am_R3} {x y : am_R3} (h : am_LL = pre ++ x :: suf) (hy : y ∈ am_LL) (hk : am_key y < am_key x) : y ∈ pre := by
  have s := am_LL_s
  rw [h] at s hy
  rcases List.mem_append.mp hy with h1 | h1
  · exact h1
  · rcases List.mem_cons.mp h1 with rfl | h2
    · omega
    · have := (List.pairwise_cons.mp (List.pairwise_append.mp s).2.1).1 y h2
      omega
theorem am_ss_0 (S : am_S) (a b : Nat) : am_ss S a b 0 = S := funext fun f => funext fun p => by
  simp only [am_ss, am_su_get, Nat.sub_zero]
  split
  · rename_i e
    subst e
    split
    · rename_i e; subst e; rfl
    · rfl
  · rfl
theorem am_sk_0 (S : am_S) (x : am_R3) : am_sk S x 0 = S := by
  unfold am_sk
  split <;> simp only [am_ss_0]
theorem am_fo_c0 {S : am_S} {x : am_R3} {t : List am_R3} {n : Nat} (h : am_ls S x = 0) : am_fo (x :: t) (S, n) = am_fo t (S, n) := by
  show am_fo t (am_sk S x (am_ls S x), n + am_c1 S x) = _
  have e : am_c1 S x = 0 := by unfold am_c1; rw [h]; rfl
  rw [e, h, am_sk_0]
  rfl
theorem am_fo_c1 {S : am_S} {x : am_R3} {t : List am_R3} {n : Nat} (h : 0 < am_ls S x) : am_fo (x :: t) (S, n) = am_fo t (am_st1 S x, n + 1) := by
  show am_fo t (am_st1 S x, n + am_c1 S x) = _
  rw [show am_c1 S x = 1 from if_pos h]
theorem am_fo_all : ∀ (l : List am_R3) (S : am_S) (n : Nat), (∀ x ∈ l, am_ls S x = 0) → am_fo l (S, n) = (S, n)
  | [], _, _, _ => rfl
  | x :: t, S, n, h => by rw [am_fo_c0 (h x (List.mem_cons_self ..))]; exact am_fo_all t S n fun y hy => h y (List.mem_cons_of_mem _ hy)
theorem am_ls2 (S : am_S) (a b : Nat) : am_ls S (a, b, 8) = min (S (5 + a) b) (S (5 + b) a) := rfl
theorem am_ls3 (S : am_S) {a b c : Nat} (hc : c < 8) : am_ls S (a, b, c) = min (S (5 + a) b) (min (S (5 + b) c) (S (5 + c) a)) := by
  unfold am_ls
  exact if_neg (show ¬ c = 8 by omega)
theorem am_ls_0 {S S' : am_S} (h : am_le2 S S') {x : am_R3} (hx : am_rgv x = true) (h0 : am_ls S x = 0) : am_ls S' x = 0 := by
  obtain ⟨a, b, c⟩ := x
  obtain ⟨h1, h2, h3⟩ := am_rgv_e hx
  dsimp only at h1 h2 h3
  have e1 := h.2 a b (by omega)
  have e2 := h.2 b a (by omega)
  rcases h3 with rfl | ⟨h3, -, -⟩
  · rw [am_ls2] at h0 ⊢
    omega
  · have e3 := h.2 b c (by omega)
    have e4 := h.2 c a (by omega)
    rw [am_ls3 _ h3] at h0 ⊢
    omega
theorem am_ss_eq (S : am_S) (a b l : Nat) : am_ss S a b l (5 + a) b = S (5 + a) b - l := by
  simp only [am_ss, am_su_get, if_true]
theorem am_st1_le2 {S : am_S} {x : am_R3} (hx : am_rgv x = true) : am_le2 S (am_st1 S x) := by
  obtain ⟨h1, h2, h3⟩ := am_rgv_e hx
  exact am_fo_le2 [x] (S, 0) fun y hy => by
    rw [List.mem_singleton] at hy
    subst hy
    omega
theorem am_ls_own {S : am_S} {x : am_R3} (hx : am_rgv x = true) : am_ls (am_st1 S x) x = 0 := by
  obtain ⟨a, b, c⟩ := x
  obtain ⟨h1, h2, h3⟩ := am_rgv_e hx
  dsimp only at h1 h2 h3
  rcases h3 with rfl | ⟨h3, h4, h5⟩
  · show am_ls (am_sk S (a, b, 8) (am_ls S (a, b, 8))) (a, b, 8) = 0
    rw [am_ls2 S]
    generalize hl : min (S (5 + a) b) (S (5 + b) a) = l
    have e : am_sk S (a, b, 8) l = am_ss (am_ss S a b l) b a l := rfl
    rw [e, am_ls2, am_ss_eq, am_ss_ne (by omega), am_ss_eq, am_ss_ne (by omega)]
    omega
  · show am_ls (am_sk S (a, b, c) (am_ls S (a, b, c))) (a, b, c) = 0
    rw [am_ls3 S h3]
    generalize hl : min (S (5 + a) b) (min (S (5 + b) c) (S (5 + c) a)) = l
    have e : am_sk S (a, b, c) l = am_ss (am_ss (am_ss S a b l) b c l) c a l := by unfold am_sk; exact if_neg (show ¬ c = 8 by omega)
    have v1 : am_ss (am_ss (am_ss S a b l) b c l) c a l (5 + a) b = S (5 + a) b - l := by rw [am_ss_ne (by omega), am_ss_ne (by omega), am_ss_eq]
    have v2 : am_ss (am_ss (am_ss S a b l) b c l) c a l (5 + b) c = S (5 + b) c - l := by rw [am_ss_ne (by omega), am_ss_eq, am_ss_ne (by omega)]
    have v3 : am_ss (am_ss (am_ss S a b l) b c l) c a l (5 + c) a = S (5 + c) a - l := by rw [am_ss_eq, am_ss_ne (by omega), am_ss_ne (by omega)]
    rw [e, am_ls3 _ h3, v1, v2, v3]
    omega
theorem am_ss_comm {S : am_S} {a b c d l : Nat} (h : ¬ (a = c ∧ b = d)) : am_ss (am_ss S a b l) c d l = am_ss (am_ss S c d l) a b l := funext fun f => funext fun p => by
  simp only [am_ss, am_su_get]
  repeat' split
  all_goals first | rfl | omega
theorem am_lexc {a b a' b' N : Nat} (hb : b' < N) (hN : N ≤ 8) (h : a' * 8 + b' < a * 8 + b) (hb2 : b < 8) : a' * N + b' < a * N + b := by
  rcases Nat.lt_or_ge a' a with h1 | h1
  · have := Nat.mul_le_mul_right N (Nat.succ_le_of_lt h1)
    rw [Nat.succ_mul] at this
    omega
  · have e : a' = a := by omega
    subst e
    omega
theorem am_act {S : am_S} (hw : am_wf S) {x : am_R3} (hx : am_rgv x = true) (h : 0 < am_ls S x) : x.2.1 < S 13 0 ∧ (x.2.2 = 8 ∨ x.2.2 < S 13 0) := by
  obtain ⟨a, b, c⟩ := x
  obtain ⟨h1, h2, h3⟩ := am_rgv_e hx
  dsimp only at h1 h2 h3 ⊢
  have hb : b < S 13 0 := by
    refine Nat.lt_of_not_le fun hn => ?_
    have := hw.2.2.2.2 a b (by omega) h2 (Or.inr (Or.inl hn))
    rcases h3 with rfl | ⟨h3, -, -⟩
    · rw [am_ls2] at h; omega
    · rw [am_ls3 _ h3] at h; omega
  refine ⟨hb, ?_⟩
  rcases h3 with rfl | ⟨h3, -, -⟩
  · exact Or.inl rfl
  · refine Or.inr (Nat.lt_of_not_le fun hn => ?_)
    have := hw.2.2.2.2 b c h2 h3 (Or.inr (Or.inl hn))
    rw [am_ls3 _ h3] at h
    omega
section AMPK
variable {S : am_S} {pre suf : List am_R3} {x : am_R3}
theorem am_pick2 (hw : am_wf S) (hL : am_LL = pre ++ x :: suf) (h0 : ∀ y ∈ pre, am_ls S y = 0) (hx : 0 < am_ls S x) {a c : Nat} (hac : a < c) (hc : c < S 13 0) (ha : 0 < am_ls S (a, c, 8)) (hm : ∀ a' c', a' < c' → c' < S 13 0 → a' * S 13 0 + c' < a * S 13 0 + c → am_ls S (a', c', 8) = 0) : x = (a, c, 8) := by
  have h8 := hw.1
  have mem := am_LL_c2 ⟨a, by omega⟩ ⟨c, by omega⟩ hac
  have hv := am_LL_v x (by rw [hL]; simp)
  have ka : am_key (a, c, 8) = a * 8 + c := rfl
  have hk : ¬ am_key (a, c, 8) < am_key x := fun h => by
    have : am_ls S (a, c, 8) = 0 := h0 _ (am_LL_pre hL mem h)
    omega
  obtain ⟨p, r, z⟩ := x
  obtain ⟨v1, v2, v3⟩ := am_rgv_e hv
  have hr := am_act hw hv hx
  dsimp only at v1 v2 v3 hr
  rcases v3 with rfl | ⟨v3, -, -⟩
  · have kx : am_key (p, r, 8) = p * 8 + r := rfl
    by_cases e : p * 8 + r < a * 8 + c
    · have := hm p r v1 hr.1 (am_lexc hr.1 h8 e (by omega))
      omega
    · have e1 : p = a := by omega
      have e2 : r = c := by omega
      rw [e1, e2]
  · have kx : am_key (p, r, z) = 64 + (p * 8 + r) * 8 + z := if_neg (show ¬ z = 8 by omega)
    omega
theorem am_pickn (hw : am_wf S) (hL : am_LL = pre ++ x :: suf) (hx : 0 < am_ls S x) (hm : ∀ a' c', a' < c' → c' < S 13 0 → am_ls S (a', c', 8) = 0) : x.2.2 < 8 := by
  have hv := am_LL_v x (by rw [hL]; simp)
  obtain ⟨p, r, z⟩ := x
  obtain ⟨v1, v2, v3⟩ := am_rgv_e hv
  have hr := am_act hw hv hx
  dsimp only at v1 v2 v3 hr ⊢
  rcases v3 with rfl | ⟨v3, -, -⟩
  · have := hm p r v1 hr.1
    omega
  · exact v3
theorem am_pick3 (hw : am_wf S) (hL : am_LL = pre ++ x :: suf) (h0 : ∀ y ∈ pre, am_ls S y = 0) (hx : 0 < am_ls S x) (hz : x.2.2 < 8) {a b c : Nat} (hab : a < b) (hac : a < c) (hbc : b ≠ c) (hb : b < S 13 0) (hc : c < S 13 0) (ha : 0 < am_ls S (a, b, c)) (hm : ∀ a' b' c', a' < b' → a' < c' → b' ≠ c' → b' < S 13 0 → c' < S 13 0 → (a' * S 13 0 + b') * S 13 0 + c' < (a * S 13 0 + b) * S 13 0 + c → am_ls S (a', b', c') = 0) : x = (a, b, c) := by
  have h8 := hw.1
  have mem := am_LL_c3 ⟨a, by omega⟩ ⟨b, by omega⟩ ⟨c, by omega⟩ hab hac hbc
  have hv := am_LL_v x (by rw [hL]; simp)
  have ka : am_key (a, b, c) = 64 + (a * 8 + b) * 8 + c := if_neg (show ¬ c = 8 by omega)
  have hk : ¬ am_key (a, b, c) < am_key x := fun h => by
    have : am_ls S (a, b, c) = 0 := h0 _ (am_LL_pre hL mem h)
    omega
  obtain ⟨p, r, z⟩ := x
  obtain ⟨v1, v2, v3⟩ := am_rgv_e hv
  have hr := am_act hw hv hx
  dsimp only at v1 v2 v3 hr hz
  obtain ⟨-, v4, v5⟩ : z < 8 ∧ p < z ∧ r ≠ z := by omega
  have hz2 : z < S 13 0 := by omega
  have kx : am_key (p, r, z) = 64 + (p * 8 + r) * 8 + z := if_neg (show ¬ z = 8 by omega)
  by_cases e : (p * 8 + r) * 8 + z < (a * 8 + b) * 8 + c
  · have hlt : (p * S 13 0 + r) * S 13 0 + z < (a * S 13 0 + b) * S 13 0 + c := by
      by_cases e2 : p * 8 + r < a * 8 + b
      · have e3 := am_lexc hr.1 h8 e2 (by omega)
        have := Nat.mul_le_mul_right (S 13 0) (Nat.succ_le_of_lt e3)
        rw [Nat.succ_mul] at this
        omega
      · have e4 : p = a := by omega
        have e5 : r = b := by omega
        have e6 : z < c := by omega
        rw [e4, e5]
        omega
    have := hm p r z v1 v4 v5 hr.1 hz2 hlt
    omega
  · have e1 : p = a := by omega
    have e2 : r = b := by omega
    have e3 : z = c := by omega
    rw [e1, e2, e3]
end AMPK
