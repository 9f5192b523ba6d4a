/-! THE REFERENCE: rules: the pure side -/
theorem am_wi_int (v M : Int32) : am_wi v M = decide (0 ≤ v.toInt ∧ v.toInt ≤ M.toInt) := by
  have e0 : (0 : Int32).toInt = 0 := by decide +kernel
  unfold am_wi
  have h1 : (¬ v < 0) = (0 ≤ v.toInt) := by
    rw [Int32.lt_iff_toInt_lt, e0]
    exact propext Int.not_lt
  have h2 : (v ≤ M) = (v.toInt ≤ M.toInt) := propext Int32.le_iff_toInt_le
  simp only [h1, h2, Bool.decide_and]
theorem am_sgn_int {b v : Int32} (hv : am_vok b v) : am_sgn b v = v ∨ (am_sgn b v).toInt < 0 ∧ 100 < v.toInt := by
  unfold am_sgn
  by_cases h8 : b = 8
  · rw [if_pos h8]
    obtain ⟨j, hj, rfl⟩ := hv.1 h8
    have e : (nI j).toInt8.toInt32.toInt = (j : Int).bmod (2 ^ 8) := by
      rw [Int8.toInt_toInt32, Int32.toInt_toInt8, nI_toInt (by omega)]
    have ej := nI_toInt (n := j) (by omega)
    rw [Int.bmod_def] at e
    by_cases c : j < 128
    · left
      refine Int32.toInt_inj.mp ?_
      rw [e, ej]
      split <;> omega
    · right
      rw [e, ej]
      split <;> omega
  · rw [if_neg h8]
    by_cases h16 : b = 16
    · rw [if_pos h16]
      obtain ⟨j, hj, rfl⟩ := hv.2 h16
      have e : (nI j).toInt16.toInt32.toInt = (j : Int).bmod (2 ^ 16) := by
        rw [Int16.toInt_toInt32, Int32.toInt_toInt16, nI_toInt (by omega)]
      have ej := nI_toInt (n := j) (by omega)
      rw [Int.bmod_def] at e
      by_cases c : j < 32768
      · left
        refine Int32.toInt_inj.mp ?_
        rw [e, ej]
        split <;> omega
      · right
        rw [e, ej]
        split <;> omega
    · rw [if_neg h16]
      exact Or.inl rfl
/-- a number of a SHEET that lies within 0 to 100, say, is what it was put as -/
theorem am_sgn_wi {b v M : Int32} (hv : am_vok b v) (hM : M.toInt ≤ 100) : am_wi (am_sgn b v) M = am_wi v M ∧ (am_wi v M = true → am_sgn b v = v) := by
  rcases am_sgn_int hv with h | ⟨h1, h2⟩
  · rw [h]; exact ⟨rfl, fun _ => rfl⟩
  · rw [am_wi_int, am_wi_int]
    have e1 : decide (0 ≤ (am_sgn b v).toInt ∧ (am_sgn b v).toInt ≤ M.toInt) = false := decide_eq_false (by omega)
    have e2 : decide (0 ≤ v.toInt ∧ v.toInt ≤ M.toInt) = false := decide_eq_false (by omega)
    rw [e1, e2]
    exact ⟨rfl, fun h => nomatch h⟩
theorem am_okp_e {S : am_S} {V : Nat → Int32} {r p : Nat} : am_okp S V r p = if am_wi (V p) 1 = true then (am_rul r (S 2 p) == decide (V p = 1)) else true := by
  unfold am_okp
  cases h : am_wi (V p) 1 with
  | true =>
    rw [if_pos rfl]
    obtain ⟨a1, a2⟩ := am_wi_nI (n := 1) (by decide) h
    generalize (V p).toNatClampNeg = j at a1 a2
    rw [a2]
    match j, a1 with
    | 0, _ =>
      have e1 : ¬ nI 0 = 1 := by decide
      have e0 : nI 0 = 0 := by decide
      rw [if_neg e1, if_pos e0, decide_eq_false e1]
      cases am_rul r (S 2 p) <;> rfl
    | 1, _ =>
      have e1 : nI 1 = 1 := by decide
      rw [if_pos e1, decide_eq_true e1]
      cases am_rul r (S 2 p) <;> rfl
  | false =>
    have n1 : ¬ V p = 1 := fun e => by rw [e] at h; revert h; decide
    have n0 : ¬ V p = 0 := fun e => by rw [e] at h; revert h; decide
    rw [if_neg n1, if_neg n0]
    rfl
/-- the rules that fit among the d highest -/
def am_tp (S : am_S) (V : Nat → Int32) (z : Nat) : Nat → List Nat
  | 0 => []
  | d + 1 => if am_fts S V z (255 - d) = true then (255 - d) :: am_tp S V z d else am_tp S V z d
theorem am_flr_tp (S : am_S) (V : Nat → Int32) (z : Nat) : ∀ d k, k + d = 256 → am_flr S V z 256 = am_flr S V z k ++ am_tp S V z d
  | 0, k, h => by
    obtain rfl : k = 256 := by omega
    exact (List.append_nil _).symm
  | d + 1, k, h => by
    rw [am_flr_tp S V z d (k + 1) (by omega)]
    have e : 255 - d = k := by omega
    have et : am_tp S V z (d + 1) = if am_fts S V z (255 - d) = true then (255 - d) :: am_tp S V z d else am_tp S V z d := rfl
    rw [et, e, am_flr]
    by_cases c : am_fts S V z k = true
    · rw [if_pos c, if_pos c, List.append_assoc]
      rfl
    · rw [if_neg c, if_neg c]
theorem am_tp_all (S : am_S) (V : Nat → Int32) (z : Nat) : am_tp S V z 256 = am_flr S V z 256 := (am_flr_tp S V z 256 0 rfl).symm
theorem am_evn_app (L : List Nat) (r t : Nat) : ∀ k, k ≤ L.length → am_evn (L ++ [r]) t k = am_evn L t k
  | 0, _ => rfl
  | k + 1, h => by
    show am_evn (L ++ [r]) t k + _ = am_evn L t k + _
    rw [am_evn_app L r t k (by omega)]
    have e : (L ++ [r]).getD k 0 = L.getD k 0 := by
      rw [List.getD_eq_getElem?_getD, List.getElem?_append_left (by omega), ← List.getD_eq_getElem?_getD]
    rw [e]
/-- the sum over all rules below k -/
def am_ev (S : am_S) (V : Nat → Int32) (z t k : Nat) : Int32 := am_evn (am_flr S V z k) t (am_flr S V z k).length
theorem am_ev_s (S : am_S) (V : Nat → Int32) (z t k : Nat) : am_ev S V z t (k + 1) = am_ev S V z t k + (if am_fts S V z k = true then (if am_rul k t = true then 1 else -1) else 0) := by
  unfold am_ev
  rw [am_flr]
  by_cases c : am_fts S V z k = true
  · rw [if_pos c, if_pos c, List.length_append, List.length_singleton]
    show am_evn (am_flr S V z k ++ [k]) t (am_flr S V z k).length + (if am_rul ((am_flr S V z k ++ [k]).getD (am_flr S V z k).length 0) t = true then 1 else -1) = _
    rw [am_evn_app _ _ _ _ (Nat.le_refl _)]
    have e : (am_flr S V z k ++ [k]).getD (am_flr S V z k).length 0 = k := by
      rw [List.getD_eq_getElem?_getD, List.getElem?_append_right (Nat.le_refl _), Nat.sub_self]
      rfl
    rw [e]
  · rw [if_neg c, if_neg c]
    exact (Int32.add_zero _).symm
theorem am_evn_b (L : List Nat) (t : Nat) : ∀ k : Nat, k ≤ 256 → -(k : Int) ≤ (am_evn L t k).toInt ∧ (am_evn L t k).toInt ≤ k
  | 0, _ => by
    show -((0 : Nat) : Int) ≤ (0 : Int32).toInt ∧ (0 : Int32).toInt ≤ ((0 : Nat) : Int)
    decide +kernel
  | k + 1, h => by
    have ih := am_evn_b L t k (by omega)
    have e1 : (1 : Int32).toInt = 1 := by decide +kernel
    have e2 : (-1 : Int32).toInt = -1 := by decide +kernel
    show -((k + 1 : Nat) : Int) ≤ (am_evn L t k + (if am_rul (L.getD k 0) t = true then 1 else -1)).toInt ∧ (am_evn L t k + (if am_rul (L.getD k 0) t = true then 1 else -1)).toInt ≤ ((k + 1 : Nat) : Int)
    rw [Int32.toInt_add, Int.bmod_def]
    by_cases c : am_rul (L.getD k 0) t = true
    · rw [if_pos c, e1]
      split <;> omega
    · rw [if_neg c, e2]
      split <;> omega
theorem am_une_lt {L : List Nat} {t : Nat} (h : L.length ≤ 256) : am_une L t < 1000 := by
  have hb := am_evn_b L t L.length h
  unfold am_une
  generalize am_evn L t L.length = x at hb
  have e1 : (1000 : Int32).toInt = 1000 := by decide +kernel
  have e0 : (0 : Int32).toInt = 0 := by decide +kernel
  rw [Int32.lt_iff_toInt_lt, e1]
  unfold am_abs
  split
  · omega
  · rw [Int32.toInt_sub, e0, Int.bmod_def]
    split <;> omega
def am_mv2 (L : List Nat) : Nat → Nat × Int32
  | 0 => (0, 1000)
  | k + 1 => if am_une L k < (am_mv2 L k).2 then (k, am_une L k) else am_mv2 L k
theorem am_mv2_e {L : List Nat} (h : L.length ≤ 256) : ∀ k, am_mv2 L (k + 1) = am_mev L k
  | 0 => by
    show (if am_une L 0 < 1000 then (0, am_une L 0) else (0, 1000)) = (0, am_une L 0)
    rw [if_pos (am_une_lt h)]
  | k + 1 => by
    show (if am_une L (k + 1) < (am_mv2 L (k + 1)).2 then (k + 1, am_une L (k + 1)) else am_mv2 L (k + 1)) = _
    rw [am_mv2_e h k]
    rfl
theorem am_abs_e (x : Int32) : (if x < 0 then -x else x) = am_abs x := by
  unfold am_abs
  by_cases c : x < 0
  · rw [if_pos c, if_neg (fun e => absurd c (Int32.not_lt.mpr e))]
    exact (Int32.zero_sub x).symm
  · rw [if_neg c, if_pos (Int32.not_lt.mp c)]
