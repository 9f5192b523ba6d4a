/-! TEXTS: the grammar as a function. u: the USE; B, n: the bytes; f: fuel; md: 0 .. 4 a level T, A, B, S, P; 5: Q; 6 .. 10: what follows the first operand of a level; op: how many of ! and ( are open; i: the place. Answers: the signs, the place behind (or the FAULT), whether it went well -/
def am_byt (B : Nat → Nat) (n i : Nat) : Nat := if i < n then B i else 1000
def am_lvl (c : Nat) : Nat := if c = 124 then 0 else if c = 38 then 1 else if c = 60 then 2 else if c = 61 then 2 else if c = 62 then 2 else if c = 43 then 3 else if c = 45 then 3 else if c = 42 then 4 else if c = 47 then 4 else if c = 37 then 4 else 9
def am_dig (c : Nat) : Bool := Nat.ble 48 c && Nat.ble c 57
def am_num (B : Nat → Nat) (n : Nat) : Nat → Nat → Nat → Nat × Nat
  | 0, i, v => (v, i)
  | k + 1, i, v => if am_dig (am_byt B n i) = true then am_num B n k (i + 1) (10 * v + (am_byt B n i - 48)) else (v, i)
def am_nam (u c : Nat) : Option Nat := if u = 0 then (if c = 116 then some 0 else if c = 100 then some 1 else if c = 119 then some 2 else none) else (if c = 119 then some 0 else if c = 111 then some 1 else if c = 109 then some 2 else none)
abbrev am_PR : Type := Option (am_T × Nat × Bool)
def am_seq (r : am_PR) (k : am_T → Nat → am_PR) : am_PR := match r with
  | some (T, i, true) => k T i
  | some (_, i, false) => some ([], i, false)
  | none => none
def am_pr (u : Nat) (B : Nat → Nat) (n : Nat) : Nat → Nat → Nat → Nat → am_PR
  | 0, _, _, _ => none
  | f + 1, md, op, i =>
    if md < 5 then am_seq (am_pr u B n f (md + 1) op i) fun T1 i1 => am_seq (am_pr u B n f (md + 6) op i1) fun T2 i2 => some (T1 ++ T2, i2, true)
    else if md = 5 then
      (if am_dig (am_byt B n i) = true then some ([(48, (am_num B n 4 i 0).1)], (am_num B n 4 i 0).2, true)
      else match am_nam u (am_byt B n i) with
        | some k => some ([(110, k)], i + 1, true)
        | none =>
          if am_byt B n i = 33 ∧ op < 5 then am_seq (am_pr u B n f 5 (op + 1) (i + 1)) fun T1 i1 => some (T1 ++ [(33, 0)], i1, true)
          else if am_byt B n i = 40 ∧ op < 5 then am_seq (am_pr u B n f 0 (op + 1) (i + 1)) fun T1 i1 => (if am_byt B n i1 = 41 then some (T1, i1 + 1, true) else some ([], i1, false))
          else some ([], i, false))
    else
      (if am_lvl (am_byt B n i) = md - 6 then
        am_seq (am_pr u B n f (md - 6 + 1) op (i + 1)) fun T1 i1 =>
          (if md = 8 then some (T1 ++ [(am_byt B n i, 0)], i1, true)
          else am_seq (am_pr u B n f md op i1) fun T2 i2 => some (T1 ++ ((am_byt B n i, 0) :: T2), i2, true))
      else some ([], i, true))
theorem am_seq_some {r : am_PR} {k : am_T → Nat → am_PR} {z : am_T × Nat × Bool} (h : am_seq r k = some z) : (∃ T i, r = some (T, i, true) ∧ k T i = some z) ∨ (∃ T i, r = some (T, i, false) ∧ z = ([], i, false)) := by
  unfold am_seq at h
  match r, h with
  | none, h => cases h
  | some (T, i, true), h => exact Or.inl ⟨T, i, rfl, h⟩
  | some (T, i, false), h => exact Or.inr ⟨T, i, rfl, (Option.some.inj h).symm⟩
theorem am_byt_lt {B : Nat → Nat} {n i : Nat} (h : am_byt B n i ≠ 1000) : i < n := by
  unfold am_byt at h
  split at h
  · assumption
  · exact absurd rfl h
theorem am_dig_lt {B : Nat → Nat} {n i : Nat} (h : am_dig (am_byt B n i) = true) : i < n ∧ 48 ≤ am_byt B n i ∧ am_byt B n i ≤ 57 := by
  simp only [am_dig, Bool.and_eq_true] at h
  have h1 := Nat.le_of_ble_eq_true h.1
  have h2 := Nat.le_of_ble_eq_true h.2
  exact ⟨am_byt_lt (B := B) (n := n) (i := i) (by omega), h1, h2⟩
theorem am_nam_lt {u c k : Nat} (h : am_nam u c = some k) : k ≤ 2 ∧ c ≠ 1000 := by
  unfold am_nam at h
  repeat' split at h
  all_goals first
    | (cases h; exact ⟨by omega, by omega⟩)
    | cases h
theorem am_lvl_op {c l : Nat} (h : am_lvl c = l) (hl : l < 5) : c ∈ am_opz ∧ c ≠ 1000 := by
  unfold am_lvl at h
  repeat' split at h
  all_goals first
    | omega
    | (rename_i e; subst e; exact ⟨by decide, by decide⟩)
theorem am_num_b {B : Nat → Nat} {n : Nat} : ∀ (k i v m : Nat), v < m → i ≤ n → (am_num B n k i v).1 < m * 10 ^ k ∧ i ≤ (am_num B n k i v).2 ∧ (am_num B n k i v).2 ≤ n
  | 0, i, v, m, h, hi => ⟨by simpa [am_num] using h, Nat.le_refl _, hi⟩
  | k + 1, i, v, m, h, hi => by
    unfold am_num
    split
    · rename_i hd
      have := am_dig_lt hd
      have ih := am_num_b (B := B) (n := n) k (i + 1) (10 * v + (am_byt B n i - 48)) (10 * m) (by omega) (by omega)
      refine ⟨?_, by omega, ih.2.2⟩
      have e : 10 * m * 10 ^ k = m * 10 ^ (k + 1) := by rw [Nat.pow_succ]; ac_rfl
      omega
    · refine ⟨?_, Nat.le_refl _, hi⟩
      have : m ≤ m * 10 ^ (k + 1) := Nat.le_mul_of_pos_right m (Nat.pow_pos (by decide))
      exact Nat.lt_of_lt_of_le h this
theorem am_num_1 {B : Nat → Nat} {n k i v : Nat} (h : am_dig (am_byt B n i) = true) (hi : i ≤ n) : i + 1 ≤ (am_num B n (k + 1) i v).2 := by
  unfold am_num
  rw [if_pos h]
  have := am_dig_lt h
  exact (am_num_b (B := B) (n := n) k (i + 1) (10 * v + (am_byt B n i - 48)) (10 * v + (am_byt B n i - 48) + 1) (by omega) (by omega)).2.1
/-- what an answer says -/
def am_prok (n md i : Nat) (z : am_T × Nat × Bool) : Prop := i ≤ z.2.1 ∧ z.2.1 ≤ n ∧ (z.2.2 = false → z.1 = []) ∧ (z.2.2 = true → z.1.length + i ≤ z.2.1 ∧ (md < 6 → i < z.2.1) ∧ (∀ y ∈ z.1, am_sg y.1 ∧ y.2 < 10000) ∧ (md < 6 → ∀ a b c : Int32, ∃ v, ∀ st, am_wo a b c z.1 st = some (v :: st)) ∧ (6 ≤ md → ∀ a b c v0 : Int32, ∃ v, ∀ st, am_wo a b c z.1 (v0 :: st) = some (v :: st)))
theorem am_wo_op {a b c x y : Int32} {s : Nat} (hs : s ∈ am_opz) (st : List Int32) : am_wo a b c [(s, 0)] (y :: x :: st) = some (am_jn s x y :: st) := by
  obtain ⟨-, -, -, h1, h2, h3⟩ := am_nI_sg s hs
  have e : am_wst a b c s 0 (y :: x :: st) = some (am_jn s x y :: st) := by
    unfold am_wst
    rw [if_neg h1, if_neg h2, if_neg h3]
  unfold am_wo
  simp only [e]
  rfl
theorem am_pr_ok {u : Nat} {B : Nat → Nat} {n : Nat} : ∀ (f md op i : Nat) (z : am_T × Nat × Bool), i ≤ n → md < 11 → am_pr u B n f md op i = some z → am_prok n md i z
  | 0, _, _, _, _, _, _, h => by cases h
  | f + 1, md, op, i, z, hi, hmd, h => by
    unfold am_pr at h
    split at h
    · rename_i h5
      rcases am_seq_some h with ⟨T1, i1, h1, h⟩ | ⟨T1, i1, h1, rfl⟩
      · obtain ⟨a1, a2, -, a4⟩ := am_pr_ok f _ _ _ _ hi (by omega) h1
        obtain ⟨b1, b2, b3, b4, -⟩ := a4 rfl
        rcases am_seq_some h with ⟨T2, i2, h2, h⟩ | ⟨T2, i2, h2, rfl⟩
        · obtain ⟨c1, c2, -, c4⟩ := am_pr_ok f _ _ _ _ a2 (by omega) h2
          obtain ⟨d1, -, d3, -, d5⟩ := c4 rfl
          cases h
          dsimp only at a1 a2 b1 b2 c1 c2 d1
          refine ⟨by show i ≤ i2; omega, c2, (fun e => by cases e), fun _ => ⟨by rw [List.length_append]; show T1.length + T2.length + i ≤ i2; omega, fun _ => by have := b2 (by omega); show i < i2; omega, fun y hy => ?_, fun _ a b c => ?_, fun h6 => by omega⟩⟩
          · rcases List.mem_append.mp hy with hy | hy
            · exact b3 y hy
            · exact d3 y hy
          · obtain ⟨v1, e1⟩ := b4 (by omega) a b c
            obtain ⟨v2, e2⟩ := d5 (by omega) a b c v1
            exact ⟨v2, fun st => by
              show am_wo a b c (T1 ++ T2) st = _
              rw [am_wo_app, e1 st]
              exact e2 st⟩
        · obtain ⟨c1, c2, -, -⟩ := am_pr_ok f _ _ _ _ a2 (by omega) h2
          dsimp only at a1 c1 c2
          exact ⟨by show i ≤ i2; omega, c2, fun _ => rfl, fun e => by cases e⟩
      · obtain ⟨a1, a2, -, -⟩ := am_pr_ok f _ _ _ _ hi (by omega) h1
        exact ⟨a1, a2, fun _ => rfl, fun e => by cases e⟩
    · rename_i h5
      split at h
      · rename_i h5e
        split at h
        · rename_i hd
          have hb := am_num_b (B := B) (n := n) 4 i 0 1 (by decide) hi
          have h1 : i + 1 ≤ (am_num B n 4 i 0).2 := am_num_1 (B := B) (n := n) (k := 3) (v := 0) hd hi
          cases h
          refine ⟨hb.2.1, hb.2.2, (fun e => by cases e), fun _ => ⟨by show 1 + i ≤ (am_num B n 4 i 0).2; omega, fun _ => by show i < (am_num B n 4 i 0).2; omega, fun y hy => ?_, fun _ a b c => ⟨nI (am_num B n 4 i 0).1, fun st => rfl⟩, fun h6 => by omega⟩⟩
          rw [List.mem_singleton.mp hy]
          exact ⟨Or.inl rfl, by have := hb.1; simpa using this⟩
        · split at h
          · rename_i k hk
            have h1 := am_nam_lt hk
            have h2 := am_byt_lt h1.2
            cases h
            refine ⟨by show i ≤ i + 1; omega, h2, (fun e => by cases e), fun _ => ⟨by show 1 + i ≤ i + 1; omega, fun _ => by show i < i + 1; omega, fun y hy => ?_, fun _ a b c => ⟨if k = 0 then a else if k = 1 then b else c, fun st => rfl⟩, fun h6 => by omega⟩⟩
            rw [List.mem_singleton.mp hy]
            exact ⟨Or.inr (Or.inl rfl), by show k < 10000; omega⟩
          · split at h
            · rename_i hc
              have h2 := am_byt_lt (B := B) (n := n) (i := i) (by omega)
              rcases am_seq_some h with ⟨T1, i1, h1, h⟩ | ⟨T1, i1, h1, rfl⟩
              · obtain ⟨a1, a2, -, a4⟩ := am_pr_ok f _ _ _ _ h2 (by omega) h1
                obtain ⟨b1, b2, b3, b4, -⟩ := a4 rfl
                cases h
                dsimp only at a1 a2 b1
                have b2' := b2 (by omega)
                dsimp only at b2'
                refine ⟨by show i ≤ i1; omega, a2, (fun e => by cases e), fun _ => ⟨by rw [List.length_append]; show T1.length + 1 + i ≤ i1; omega, fun _ => by show i < i1; omega, fun y hy => ?_, fun _ a b c => ?_, fun h6 => by omega⟩⟩
                · rcases List.mem_append.mp hy with hy | hy
                  · exact b3 y hy
                  · rw [List.mem_singleton.mp hy]; exact ⟨Or.inr (Or.inr (Or.inl rfl)), by decide⟩
                · obtain ⟨v1, e1⟩ := b4 (by omega) a b c
                  exact ⟨if v1 = 0 then 1 else 0, fun st => by
                    show am_wo a b c (T1 ++ [(33, 0)]) st = _
                    rw [am_wo_app, e1 st]
                    rfl⟩
              · obtain ⟨a1, a2, -, -⟩ := am_pr_ok f _ _ _ _ h2 (by omega) h1
                dsimp only at a1 a2
                exact ⟨by show i ≤ i1; omega, a2, fun _ => rfl, fun e => by cases e⟩
            · split at h
              · rename_i hc
                have h2 := am_byt_lt (B := B) (n := n) (i := i) (by omega)
                rcases am_seq_some h with ⟨T1, i1, h1, h⟩ | ⟨T1, i1, h1, rfl⟩
                · obtain ⟨a1, a2, -, a4⟩ := am_pr_ok f _ _ _ _ h2 (by omega) h1
                  obtain ⟨b1, b2, b3, b4, -⟩ := a4 rfl
                  dsimp only at a1 a2 b1
                  split at h
                  · rename_i hc2
                    have h3 := am_byt_lt (B := B) (n := n) (i := i1) (by omega)
                    cases h
                    exact ⟨by show i ≤ i1 + 1; omega, h3, (fun e => by cases e), fun _ => ⟨by show T1.length + i ≤ i1 + 1; omega, fun _ => by show i < i1 + 1; omega, b3, fun _ a b c => b4 (by omega) a b c, fun h6 => by omega⟩⟩
                  · cases h
                    exact ⟨by show i ≤ i1; omega, a2, fun _ => rfl, fun e => by cases e⟩
                · obtain ⟨a1, a2, -, -⟩ := am_pr_ok f _ _ _ _ h2 (by omega) h1
                  dsimp only at a1 a2
                  exact ⟨by show i ≤ i1; omega, a2, fun _ => rfl, fun e => by cases e⟩
              · cases h
                exact ⟨Nat.le_refl _, hi, fun _ => rfl, fun e => by cases e⟩
      · rename_i h5e
        split at h
        · rename_i hl
          have hop := am_lvl_op hl (by omega)
          have h2 := am_byt_lt hop.2
          rcases am_seq_some h with ⟨T1, i1, h1, h⟩ | ⟨T1, i1, h1, rfl⟩
          · obtain ⟨a1, a2, -, a4⟩ := am_pr_ok f _ _ _ _ h2 (by omega) h1
            obtain ⟨b1, b2, b3, b4, -⟩ := a4 rfl
            dsimp only at a1 a2 b1
            have b2' := b2 (by omega)
            dsimp only at b2'
            have hev : ∀ a b c v0 : Int32, ∃ v, ∀ st, am_wo a b c (T1 ++ [(am_byt B n i, 0)]) (v0 :: st) = some (v :: st) := fun a b c v0 => by
              obtain ⟨v1, e1⟩ := b4 (by omega) a b c
              exact ⟨am_jn (am_byt B n i) v0 v1, fun st => by
                rw [am_wo_app, e1 (v0 :: st)]
                exact am_wo_op hop.1 st⟩
            have hsg : ∀ y ∈ T1 ++ [(am_byt B n i, 0)], am_sg y.1 ∧ y.2 < 10000 := fun y hy => by
              rcases List.mem_append.mp hy with hy | hy
              · exact b3 y hy
              · rw [List.mem_singleton.mp hy]; exact ⟨Or.inr (Or.inr (Or.inr hop.1)), by show 0 < 10000; decide⟩
            split at h
            · cases h
              exact ⟨by show i ≤ i1; omega, a2, (fun e => by cases e), fun _ => ⟨by rw [List.length_append]; show T1.length + 1 + i ≤ i1; omega, fun h6 => by omega, hsg, fun h6 => by omega, fun _ => hev⟩⟩
            · rcases am_seq_some h with ⟨T2, i2, h3, h⟩ | ⟨T2, i2, h3, rfl⟩
              · obtain ⟨c1, c2, -, c4⟩ := am_pr_ok f _ _ _ _ a2 hmd h3
                obtain ⟨d1, -, d3, -, d5⟩ := c4 rfl
                cases h
                dsimp only at c1 c2 d1
                have ec : T1 ++ ((am_byt B n i, 0) :: T2) = (T1 ++ [(am_byt B n i, 0)]) ++ T2 := by simp
                refine ⟨by show i ≤ i2; omega, c2, (fun e => by cases e), fun _ => ⟨by rw [List.length_append, List.length_cons]; show T1.length + (T2.length + 1) + i ≤ i2; omega, fun h6 => by omega, fun y hy => ?_, fun h6 => by omega, fun _ a b c v0 => ?_⟩⟩
                · dsimp only at hy
                  rw [ec] at hy
                  rcases List.mem_append.mp hy with hy | hy
                  · exact hsg y hy
                  · exact d3 y hy
                · obtain ⟨v1, e1⟩ := hev a b c v0
                  obtain ⟨v2, e2⟩ := d5 (by omega) a b c v1
                  exact ⟨v2, fun st => by
                    dsimp only
                    rw [ec, am_wo_app, e1 st]
                    exact e2 st⟩
              · obtain ⟨c1, c2, -, -⟩ := am_pr_ok f _ _ _ _ a2 hmd h3
                dsimp only at c1 c2
                exact ⟨by show i ≤ i2; omega, c2, fun _ => rfl, fun e => by cases e⟩
          · obtain ⟨a1, a2, -, -⟩ := am_pr_ok f _ _ _ _ h2 (by omega) h1
            dsimp only at a1 a2
            exact ⟨by show i ≤ i1; omega, a2, fun _ => rfl, fun e => by cases e⟩
        · cases h
          exact ⟨Nat.le_refl _, hi, (fun e => by cases e), fun _ => ⟨by show 0 + i ≤ i; omega, fun h6 => by omega, (fun y hy => by cases hy), fun h6 => by omega, fun _ a b c v0 => ⟨v0, fun st => rfl⟩⟩⟩
/-- enough fuel: it answers -/
def am_rank (md : Nat) : Nat := if md < 5 then 7 - md else 1
theorem am_seq_isSome {r : am_PR} {k : am_T → Nat → am_PR} (h1 : r.isSome = true) (h2 : ∀ T i, r = some (T, i, true) → (k T i).isSome = true) : (am_seq r k).isSome = true := by
  unfold am_seq
  match r, h1, h2 with
  | some (T, i, true), _, h2 => exact h2 T i rfl
  | some (T, i, false), _, _ => rfl
theorem am_pr_tot {u : Nat} {B : Nat → Nat} {n : Nat} : ∀ (f md op i : Nat), i ≤ n → md < 11 → (n - i) * 8 + am_rank md ≤ f → (am_pr u B n f md op i).isSome = true
  | 0, md, op, i, hi, hmd, h => by
    have : 1 ≤ am_rank md := by unfold am_rank; split <;> omega
    omega
  | f + 1, md, op, i, hi, hmd, h => by
    unfold am_pr
    split
    · rename_i h5
      have hr : am_rank md = 7 - md := by unfold am_rank; rw [if_pos h5]
      refine am_seq_isSome (am_pr_tot f _ _ _ hi (by omega) ?_) fun T1 i1 h1 => ?_
      · have : am_rank (md + 1) ≤ 6 - md := by unfold am_rank; split <;> omega
        omega
      · obtain ⟨a1, a2, -, -⟩ := am_pr_ok f _ _ _ _ hi (by omega) h1
        dsimp only at a1 a2
        refine am_seq_isSome (am_pr_tot f _ _ _ a2 (by omega) ?_) fun T2 i2 h2 => rfl
        have : am_rank (md + 6) = 1 := by unfold am_rank; rw [if_neg (by omega)]
        have : (n - i1) * 8 ≤ (n - i) * 8 := Nat.mul_le_mul_right 8 (by omega)
        omega
    · rename_i h5
      have hr : am_rank md = 1 := by unfold am_rank; rw [if_neg h5]
      have step : ∀ md' i', md' < 11 → i < i' → i' ≤ n → (n - i') * 8 + am_rank md' ≤ f := fun md' i' hm h1 h2 => by
        have : am_rank md' ≤ 7 := by unfold am_rank; split <;> omega
        have : (n - i' + 1) * 8 ≤ (n - i) * 8 := Nat.mul_le_mul_right 8 (by omega)
        omega
      split
      · split
        · rfl
        · split
          · rfl
          · split
            · rename_i hc
              have h2 := am_byt_lt (B := B) (n := n) (i := i) (by omega)
              exact am_seq_isSome (am_pr_tot f _ _ _ h2 (by omega) (step 5 (i + 1) (by omega) (by omega) h2)) fun T1 i1 h1 => rfl
            · split
              · rename_i hc
                have h2 := am_byt_lt (B := B) (n := n) (i := i) (by omega)
                refine am_seq_isSome (am_pr_tot f _ _ _ h2 (by omega) (step 0 (i + 1) (by omega) (by omega) h2)) fun T1 i1 h1 => ?_
                split <;> rfl
              · rfl
      · split
        · rename_i hl
          have hop := am_lvl_op hl (by omega)
          have h2 := am_byt_lt hop.2
          refine am_seq_isSome (am_pr_tot f _ _ _ h2 (by omega) (step _ (i + 1) (by omega) (by omega) h2)) fun T1 i1 h1 => ?_
          obtain ⟨a1, a2, -, -⟩ := am_pr_ok f _ _ _ _ h2 (by omega) h1
          dsimp only at a1 a2
          split
          · rfl
          · exact am_seq_isSome (am_pr_tot f _ _ _ a2 hmd (step md i1 hmd (by omega) a2)) fun T2 i2 h3 => rfl
        · rfl
