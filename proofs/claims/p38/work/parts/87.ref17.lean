/-! THE REFERENCE: owed, drawn -/
def am_ow (S : am_S) (k : Nat) : Nat := am_al S (k / 8) + am_rw S (k / 8) (k % 8)
theorem am_ow_s (S : am_S) (k : Nat) : am_ow S (k + 1) = am_ow S k + S (5 + k / 8) (k % 8) := by
  unfold am_ow
  by_cases c : k % 8 = 7
  · have e1 : (k + 1) / 8 = k / 8 + 1 := by omega
    have e2 : (k + 1) % 8 = 0 := by omega
    rw [e1, e2, c]
    show am_al S (k / 8) + am_rw S (k / 8) 8 + 0 = _
    have : am_rw S (k / 8) 8 = am_rw S (k / 8) 7 + S (5 + k / 8) 7 := rfl
    omega
  · have e1 : (k + 1) / 8 = k / 8 := by omega
    have e2 : (k + 1) % 8 = k % 8 + 1 := by omega
    rw [e1, e2]
    have : am_rw S (k / 8) (k % 8 + 1) = am_rw S (k / 8) (k % 8) + S (5 + k / 8) (k % 8) := rfl
    omega
section AMRH7
variable {X : am_X} {D q : Nat} {S : am_S} {G : am_G}
theorem am_m178 (h : am_rp (G 115) S) : am_CD X (D + 1) 178 [.ref 114] (am_L0 q, G) = some (some (.int (nI (am_al S 8))), (am_L0 q, G)) := by
  have hl : ∀ d k, k + d = 64 → am_Rn X D (some .int) am_J178 4 [some (.ref 114), some (.int (nI (am_ow S k))), some (.int (nI k))] [] (am_L0 q, G) (some (.int (nI (am_ow S 64))), (am_L0 q, G)) := by
    intro d
    induction d with
    | zero =>
      intro k hk
      obtain rfl : k = 64 := by omega
      have h1 : ¬ nI 64 < 64 := by decide +kernel
      simp only [am_s178_4, am_s178_5, am_s178_7, am_s178_28, am_s178_29, h1, eq_self, am_os_some, Option.toList_some, Option.toList_none, List.cons_append, List.nil_append, if_true, if_false, true_and, am_nw1_i, am_nw1_r, am_nw1_n, cond_true]
    | succ d ih =>
      intro k hk
      have h1 : nI k < 64 := nI_lt (b := 64) (by omega) (by decide)
      have hi : nI k + 1 = nI (k + 1) := nI_add k 1
      have kk := h.2.2.2 (k / 8) (k % 8) (by omega) (by omega)
      rw [show 47 + 8 * (k / 8) + k % 8 = 47 + k by omega] at kk
      have s1 : nI (am_ow S k) + nI (S (5 + k / 8) (k % 8)) = nI (am_ow S (k + 1)) := by rw [am_ow_s]; exact nI_add _ _
      simp only [am_s178_4, am_s178_5, am_s178_7, am_s178_10, am_s178_11, am_s178_12, am_s178_15, am_s178_17, am_s178_18, am_s178_19, am_s178_20, am_s178_21, am_s178_22, h1, am_f114_0, am_ad47, am_r115 (show 47 + k < 281 by omega), kk, s1, eq_self, am_os_some, Option.toList_some, Option.toList_none, List.cons_append, List.nil_append, if_true, if_false, true_and, am_nw1_i, am_nw1_r, am_nw1_n, cond_true]
      rw [am_s178_25, hi]
      exact ih (k + 1) (by omega)
  refine am_CD_of (M := am_N178) rfl rfl ?_
  show am_Rn _ _ ((Option.some FieldType.int)) am_J178 0 [some (.ref 114), none, none] [] (am_L0 q, G) _
  simp only [am_s178_0, am_s178_1, am_s178_2, am_s178_3, eq_self, am_os_some, Option.toList_some, Option.toList_none, List.cons_append, List.nil_append, if_true, if_false, true_and, am_nw1_i, am_nw1_r, am_nw1_n, cond_true]
  exact hl 64 0 rfl
end AMRH7
