/-! ABSTRACT: PEOPLE, laws, DAYS. S f p: f 0 KIND, 1 m, 2 TRAITS, 3 WATER, 4 THIRST of p; 5 + i: what i OWES j; 13: how many (0), DAY (1) -/
abbrev am_S : Type := Nat → Nat → Nat
abbrev am_T : Type := List (Nat × Nat)
def am_su (S : am_S) (f p v : Nat) : am_S := fun a b => if a = f then (if b = p then v else S a b) else S a b
theorem am_su_get (S : am_S) (f p v a b : Nat) : am_su S f p v a b = if a = f then (if b = p then v else S a b) else S a b := rfl
def am_fil (k m : Nat) : Nat := if k = 1 then 3 + m % 3 else if k = 2 then 6 else if k = 3 then 9 else if k = 4 then 8 + m % 3 else if k = 5 then 3 else if k = 6 then 9 - m else 3
def am_dr (k : Nat) : Nat := if k = 1 then 1 else if k = 4 then 1 else if k = 2 then 3 else 2
def am_cl0 (v : Int32) : Int32 := if v ≤ 0 then 0 else 1
def am_jn (s : Nat) (x y : Int32) : Int32 :=
  if s = 124 then (if x = 0 then (if y = 0 then 0 else 1) else 1)
  else if s = 38 then (if x = 0 then 0 else (if y = 0 then 0 else 1))
  else if s = 60 then (if x < y then 1 else 0)
  else if s = 61 then (if x = y then 1 else 0)
  else if s = 62 then (if x ≤ y then 0 else 1)
  else if s = 43 then x + y
  else if s = 45 then x - y
  else if s = 42 then x * y
  else if s = 47 then (if y = 0 then 0 else x / y)
  else (if y = 0 then 0 else x - x / y * y)
/-- a TEXT worked out, sign by sign, over a stack (its top first) -/
def am_wst (a b c : Int32) (s v : Nat) (st : List Int32) : Option (List Int32) :=
  if s = 48 then some (nI v :: st)
  else if s = 110 then some ((if v = 0 then a else if v = 1 then b else c) :: st)
  else if s = 33 then (match st with
    | x :: t => some ((if x = 0 then 1 else 0) :: t)
    | [] => none)
  else (match st with
    | y :: x :: t => some (am_jn s x y :: t)
    | _ => none)
def am_wo (a b c : Int32) : am_T → List Int32 → Option (List Int32)
  | [], st => some st
  | z :: t, st => match am_wst a b c z.1 z.2 st with
    | some st1 => am_wo a b c t st1
    | none => none
theorem am_wo_app (a b c : Int32) : ∀ (T U : am_T) (st : List Int32), am_wo a b c (T ++ U) st = (match am_wo a b c T st with
    | some st1 => am_wo a b c U st1
    | none => none)
  | [], U, st => rfl
  | z :: t, U, st => by
    show (match am_wst a b c z.1 z.2 st with
      | some st1 => am_wo a b c (t ++ U) st1
      | none => none) = _
    rw [am_wo]
    cases am_wst a b c z.1 z.2 st with
    | none => rfl
    | some st1 => exact am_wo_app a b c t U st1
/-- what a law gives, before it is held within 0 to 1 -/
def am_lr (u : Nat) (T : am_T) (a b c : Int32) : Int32 := match T with
  | [] => if u = 0 then a - a / 2 * 2 else if a ≤ 3 then 0 else 1
  | z :: t => match am_wo a b c (z :: t) [] with
    | some (v :: _) => v
    | _ => 0
def am_lgv (u : Nat) (T : am_T) (a b c : Int32) : Int32 := am_cl0 (am_lr u T a b c)
theorem am_cl0_or (v : Int32) : am_cl0 v = 0 ∨ am_cl0 v = 1 := by unfold am_cl0; split <;> simp
/-- GIVEN -/
def am_gt (T : am_T) (traits rest water : Nat) : Bool := decide (am_lgv 0 T (nI traits) (nI rest) (nI water) = 1)
def am_gv (T : am_T) (S : am_S) (p : Nat) : Bool := am_gt T (S 2 p) (S 13 1 % 7) (S 3 p)
/-- LENDS to p -/
def am_ln0 (T : am_T) (S : am_S) (p o : Nat) : Bool := decide (am_lgv 1 T (nI (S 3 o)) (nI (S (5 + p) o)) (nI (S 1 o)) = 1)
/-- of the first k, the one who lends to p; h: the one who doesn't, 8 else -/
def am_lb (T : am_T) (h : Nat) (S : am_S) (p : Nat) : Nat → Option Nat
  | 0 => none
  | k + 1 => if k ≠ p ∧ k ≠ h ∧ 0 < S 3 k ∧ am_ln0 T S p k = true ∧ (∀ j, am_lb T h S p k = some j → S 3 j < S 3 k) then some k else am_lb T h S p k
def am_bg (T : am_T) (h : Nat) (S : am_S) (p : Nat) : am_S := match am_lb T h S p (S 13 0) with
  | none => S
  | some j => am_su (am_su (am_su S 3 j (S 3 j - 1)) 3 p (min 999 (S 3 p + 1))) (5 + p) j (min 99 (S (5 + p) j + 1))
def am_g1 (T U : am_T) (h : Nat) (S : am_S) (p : Nat) : am_S := if am_gv T S p = true then am_su S 3 p (min 999 (S 3 p + am_fil (S 0 p) (S 1 p))) else am_bg U h S p
def am_dr1 (S : am_S) (p : Nat) : am_S := if S 3 p < am_dr (S 0 p) then am_su (am_su S 3 p 0) 4 p (min 99 (S 4 p + (am_dr (S 0 p) - S 3 p))) else am_su (am_su S 3 p (S 3 p - am_dr (S 0 p))) 4 p 0
def am_goes (T U : am_T) (h : Nat) (S : am_S) : Nat → am_S
  | 0 => S
  | k + 1 => am_g1 T U h (am_goes T U h S k) k
def am_dk (S : am_S) : Nat → am_S
  | 0 => S
  | k + 1 => am_dr1 (am_dk S k) k
def am_day (T U : am_T) (h : Nat) (S : am_S) : am_S := am_su (am_dk (am_goes T U h S (S 13 0)) (S 13 0)) 13 1 (S 13 1 + 1)
def am_days (T U : am_T) (h : Nat) (S : am_S) : Nat → am_S
  | 0 => S
  | n + 1 => am_day T U h (am_days T U h S n)
/-- what PEOPLE keep to: everyone's values; beyond the last one nobody has WATER, THIRST or debts; nobody OWES itself -/
def am_wf (S : am_S) : Prop := S 13 0 ≤ 8 ∧ (∀ p, p < 8 → S 0 p ≤ 6 ∧ S 1 p ≤ 9 ∧ S 2 p ≤ 15 ∧ S 3 p ≤ 999 ∧ S 4 p ≤ 99) ∧ (∀ i j, i < 8 → j < 8 → S (5 + i) j ≤ 99) ∧ (∀ p, S 13 0 ≤ p → p < 8 → S 3 p = 0 ∧ S 4 p = 0) ∧ (∀ i j, i < 8 → j < 8 → S 13 0 ≤ i ∨ S 13 0 ≤ j ∨ i = j → S (5 + i) j = 0)
theorem am_lb_lt {T : am_T} {h : Nat} {S : am_S} {p : Nat} : ∀ {k j : Nat}, am_lb T h S p k = some j → j < k ∧ j ≠ p ∧ j ≠ h ∧ 0 < S 3 j
  | 0, j, e => by cases e
  | k + 1, j, e => by
    unfold am_lb at e
    split at e
    · rename_i hc
      cases e
      exact ⟨by omega, hc.1, hc.2.1, hc.2.2.1⟩
    · have := am_lb_lt e
      exact ⟨by omega, this.2⟩
theorem am_wf_bg {T : am_T} {h : Nat} {S : am_S} {p : Nat} (hw : am_wf S) (hp : p < S 13 0) : am_wf (am_bg T h S p) ∧ am_bg T h S p 13 = S 13 := by
  unfold am_bg
  cases hj : am_lb T h S p (S 13 0) with
  | none => exact ⟨hw, rfl⟩
  | some j =>
    dsimp only
    obtain ⟨h1, h2, -, h4⟩ := am_lb_lt hj
    obtain ⟨a1, a2, a3, a4, a5⟩ := hw
    have e13 : ∀ x, am_su (am_su (am_su S 3 j (S 3 j - 1)) 3 p (min 999 (S 3 p + 1))) (5 + p) j (min 99 (S (5 + p) j + 1)) 13 x = S 13 x := fun x => by
      simp only [am_su_get]
      rw [if_neg (by omega), if_neg (by decide), if_neg (by decide)]
    refine ⟨⟨by rw [e13]; exact a1, ?_, ?_, ?_, ?_⟩, funext e13⟩
    · intro z hz
      obtain ⟨b0, b1, b2, b3, b4⟩ := a2 z hz
      obtain ⟨-, -, -, b5, -⟩ := a2 j (by omega)
      simp only [am_su_get]
      refine ⟨?_, ?_, ?_, ?_, ?_⟩
      · rw [if_neg (by omega), if_neg (by decide), if_neg (by decide)]; exact b0
      · rw [if_neg (by omega), if_neg (by decide), if_neg (by decide)]; exact b1
      · rw [if_neg (by omega), if_neg (by decide), if_neg (by decide)]; exact b2
      · rw [if_neg (by omega)]
        simp only [if_true]
        split
        · omega
        · split <;> omega
      · rw [if_neg (by omega), if_neg (by decide), if_neg (by decide)]; exact b4
    · intro x y hx hy
      have := a3 x y hx hy
      simp only [am_su_get]
      rw [if_neg (show ¬ 5 + x = 3 by omega)]
      split
      · split
        · omega
        · rw [if_neg (by omega)]; exact this
      · rw [if_neg (by omega)]; exact this
    · intro z hz hz8
      rw [e13] at hz
      have := a4 z hz hz8
      simp only [am_su_get]
      refine ⟨?_, ?_⟩
      · rw [if_neg (by omega)]
        simp only [if_true]
        rw [if_neg (by omega), if_neg (by omega)]; exact this.1
      · rw [if_neg (by omega), if_neg (by decide), if_neg (by decide)]; exact this.2
    · intro x y hx hy hz
      rw [e13] at hz
      have := a5 x y hx hy hz
      simp only [am_su_get]
      split
      · rename_i e
        have : x = p := by omega
        subst this
        rw [if_neg (by omega), if_neg (by omega), if_neg (by omega)]
        assumption
      · rw [if_neg (by omega), if_neg (by omega)]; exact this
theorem am_fi_le {k m : Nat} (hk : k ≤ 6) (hm : m ≤ 9) : am_fil k m ≤ 10 := by
  unfold am_fil
  repeat' split
  all_goals omega
theorem am_wf_su3 {S : am_S} {p v : Nat} (hw : am_wf S) (hp : p < S 13 0) (hv : v ≤ 999) : am_wf (am_su S 3 p v) := by
  obtain ⟨a1, a2, a3, a4, a5⟩ := hw
  refine ⟨a1, ?_, ?_, ?_, ?_⟩
  · intro z hz
    obtain ⟨b0, b1, b2, b3, b4⟩ := a2 z hz
    refine ⟨b0, b1, b2, ?_, b4⟩
    simp only [am_su_get, if_true]
    split <;> omega
  · intro x y hx hy
    simp only [am_su_get]
    rw [if_neg (by omega)]
    exact a3 x y hx hy
  · intro z hz hz8
    have hz1 : S 13 0 ≤ z := hz
    refine ⟨?_, (a4 z hz1 hz8).2⟩
    simp only [am_su_get, if_true]
    rw [if_neg (by omega)]
    exact (a4 z hz1 hz8).1
  · intro x y hx hy hz
    have hz1 : S 13 0 ≤ x ∨ S 13 0 ≤ y ∨ x = y := hz
    simp only [am_su_get]
    rw [if_neg (by omega)]
    exact a5 x y hx hy hz1
theorem am_wf_su4 {S : am_S} {p v : Nat} (hw : am_wf S) (hp : p < S 13 0) (hv : v ≤ 99) : am_wf (am_su S 4 p v) := by
  obtain ⟨a1, a2, a3, a4, a5⟩ := hw
  refine ⟨a1, ?_, ?_, ?_, ?_⟩
  · intro z hz
    obtain ⟨b0, b1, b2, b3, b4⟩ := a2 z hz
    refine ⟨b0, b1, b2, b3, ?_⟩
    simp only [am_su_get, if_true]
    split <;> omega
  · intro x y hx hy
    simp only [am_su_get]
    rw [if_neg (by omega)]
    exact a3 x y hx hy
  · intro z hz hz8
    have hz1 : S 13 0 ≤ z := hz
    refine ⟨(a4 z hz1 hz8).1, ?_⟩
    simp only [am_su_get, if_true]
    rw [if_neg (by omega)]
    exact (a4 z hz1 hz8).2
  · intro x y hx hy hz
    have hz1 : S 13 0 ≤ x ∨ S 13 0 ≤ y ∨ x = y := hz
    simp only [am_su_get]
    rw [if_neg (by omega)]
    exact a5 x y hx hy hz1
theorem am_wf_g1 {T U : am_T} {h : Nat} {S : am_S} {p : Nat} (hw : am_wf S) (hp : p < S 13 0) : am_wf (am_g1 T U h S p) ∧ am_g1 T U h S p 13 = S 13 := by
  unfold am_g1
  split
  · exact ⟨am_wf_su3 hw hp (by omega), rfl⟩
  · exact am_wf_bg hw hp
theorem am_wf_dr1 {S : am_S} {p : Nat} (hw : am_wf S) (hp : p < S 13 0) : am_wf (am_dr1 S p) ∧ am_dr1 S p 13 = S 13 := by
  have h3 := (hw.2.1 p (by have := hw.1; omega)).2.2.2.1
  unfold am_dr1
  split
  · exact ⟨am_wf_su4 (S := am_su S 3 p 0) (am_wf_su3 hw hp (by omega)) hp (by omega), rfl⟩
  · exact ⟨am_wf_su4 (S := am_su S 3 p (S 3 p - am_dr (S 0 p))) (am_wf_su3 hw hp (by omega)) hp (by omega), rfl⟩
theorem am_wf_goes {T U : am_T} {h : Nat} {S : am_S} (hw : am_wf S) : ∀ k, k ≤ S 13 0 → am_wf (am_goes T U h S k) ∧ am_goes T U h S k 13 = S 13
  | 0, _ => ⟨hw, rfl⟩
  | k + 1, hk => by
    have ih := am_wf_goes (T := T) (U := U) (h := h) hw k (by omega)
    have := am_wf_g1 (T := T) (U := U) (h := h) (p := k) ih.1 (by rw [ih.2]; omega)
    exact ⟨this.1, this.2.trans ih.2⟩
theorem am_wf_dk {S : am_S} (hw : am_wf S) : ∀ k, k ≤ S 13 0 → am_wf (am_dk S k) ∧ am_dk S k 13 = S 13
  | 0, _ => ⟨hw, rfl⟩
  | k + 1, hk => by
    have ih := am_wf_dk hw k (by omega)
    have := am_wf_dr1 (p := k) ih.1 (by rw [ih.2]; omega)
    exact ⟨this.1, this.2.trans ih.2⟩
theorem am_wf_day {T U : am_T} {h : Nat} {S : am_S} (hw : am_wf S) : am_wf (am_day T U h S) ∧ am_day T U h S 13 0 = S 13 0 ∧ am_day T U h S 13 1 = S 13 1 + 1 := by
  have h1 := am_wf_goes (T := T) (U := U) (h := h) hw (S 13 0) (Nat.le_refl _)
  have h2 := am_wf_dk h1.1 (S 13 0) (by rw [h1.2]; exact Nat.le_refl _)
  have e : am_dk (am_goes T U h S (S 13 0)) (S 13 0) 13 = S 13 := h2.2.trans h1.2
  refine ⟨?_, ?_, ?_⟩
  · obtain ⟨a1, a2, a3, a4, a5⟩ := h2.1
    exact ⟨a1, a2, fun i j hi hj => by
      show am_su _ 13 1 _ (5 + i) j ≤ 99
      rw [am_su_get, if_neg (by omega)]
      exact a3 i j hi hj, a4, fun i j hi hj hz => by
      show am_su _ 13 1 _ (5 + i) j = 0
      rw [am_su_get, if_neg (by omega)]
      exact a5 i j hi hj hz⟩
  · show am_su _ 13 1 _ 13 0 = _
    rw [am_su_get, if_pos rfl, if_neg (by decide), e]
  · show am_su _ 13 1 _ 13 1 = _
    rw [am_su_get, if_pos rfl, if_pos rfl]
theorem am_wf_days {T U : am_T} {h : Nat} {S : am_S} (hw : am_wf S) : ∀ n, am_wf (am_days T U h S n) ∧ am_days T U h S n 13 0 = S 13 0 ∧ am_days T U h S n 13 1 = S 13 1 + n
  | 0 => ⟨hw, rfl, rfl⟩
  | n + 1 => by
    have ih := am_wf_days (T := T) (U := U) (h := h) hw n
    have := am_wf_day (T := T) (U := U) (h := h) ih.1
    exact ⟨this.1, this.2.1.trans ih.2.1, by
      show am_day T U h (am_days T U h S n) 13 1 = _
      rw [this.2.2, ih.2.2]
      omega⟩
