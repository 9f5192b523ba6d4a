/-! two calls, one behind the other, on the fresh world: the class's, then the reference's; they answer the same -/
def am_G2 (tc tr : Nat) (as : List Value) : Prop := ∀ X : am_X, ∃ (r : Int32) (q : Nat) (G1 G2 : am_G), am_CD X 50 tc (.ref 0 :: as) (am_L0 1000, am_g0) = some (some (.int r), (am_L0 q, G1)) ∧ am_CD X 50 tr (.ref 114 :: as) (am_L0 q, G1) = some (some (.int r), (am_L0 q, G2))
noncomputable def am_two2 (F D q tc tr : Nat) (as : List Value) (w : am_M) : Bool := match am_call am_none F D tc (.ref 0 :: as) w with
  | some (some (.int r), w1) => (match am_call am_none F D tr (.ref 114 :: as) w1 with
    | some (some (.int r2), w2) => decide (r = r2) && (decide (w1.1 = am_L0 q) && decide (w2.1 = am_L0 q))
    | _ => false)
  | _ => false
theorem am_G2_two {q tc tr : Nat} {as : List Value} (h : am_two2 100000 40 q tc tr as am_W0 = true) : am_G2 tc tr as := by
  intro X
  unfold am_two2 at h
  generalize e : am_call am_none 100000 40 tc (.ref 0 :: as) am_W0 = z at h
  rcases z with _ | ⟨v, w1⟩
  · cases h
  rcases v with _ | v
  · cases h
  cases v with
  | int r =>
    dsimp only at h
    generalize e2 : am_call am_none 100000 40 tr (.ref 114 :: as) w1 = z2 at h
    rcases z2 with _ | ⟨v2, w2⟩
    · cases h
    rcases v2 with _ | v2
    · cases h
    cases v2 with
    | int r2 =>
      simp only [Bool.and_eq_true, decide_eq_true_eq] at h
      obtain ⟨a, b, c⟩ := h
      have h1 := am_CD_up (X := X) (X' := X) (fun _ _ hh => hh) 40 50 tc _ _ _ (by decide) (am_call_CD (X' := X) (fun i q hh => by cases hh) 40 tc _ _ _ e)
      have h2 := am_CD_up (X := X) (X' := X) (fun _ _ hh => hh) 40 50 tr _ _ _ (by decide) (am_call_CD (X' := X) (fun i q hh => by cases hh) 40 tr _ _ _ e2)
      have e3 : w1 = (am_L0 q, w1.2) := by rw [← b]
      have e4 : w2 = (am_L0 q, w2.2) := by rw [← c]
      rw [e3] at h1 h2
      rw [e4, ← a] at h2
      exact ⟨r, q, w1.2, w2.2, h1, h2⟩
    | _ => cases h
  | _ => cases h
