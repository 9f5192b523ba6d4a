/-! THE WORLD of the machine as the kit's: cell i lies at B + i; what is outside, at x i -/
def am_r (B : Nat) (x : Nat → Nat) (i : Nat) : Nat := if i < 1000 then B + i else x i
def am_c (r : Nat → Nat) : Value → Value
  | .ref a => .ref (r a)
  | v => v
def am_fs (r : Nat → Nat) (g : Nat → Int32) : Nat → List (Option Value) → List Value
  | _, [] => []
  | k, none :: t => .int (g k) :: am_fs r g (k + 1) t
  | k, some v :: t => am_c r v :: am_fs r g (k + 1) t
abbrev am_D : Type := ClassId × ClassId × ClassId
def am_dt (d : am_D) (t : Nat) : ClassId := if t = 0 then d.2.1 else d.2.2
def am_dy (t : Nat) : FieldType := if t = 0 then .array .int else .object "WellRefuses$Sheet"
def am_row (vs : List (Option Nat)) (r : Nat → Nat) : Nat → Option Nat := fun j => (vs.getD j none).map r
def am_E (r : Nat → Nat) (d : am_D) (c : am_L) (g : Nat → Int32) : va_E := match c with
  | .inl o => .inr (o.1, am_fs r g 0 o.2)
  | .inr (.inl n) => .inl (d.1, n, .inl g)
  | .inr (.inr o) => .inl (am_dt d o.1, o.2.length, .inr (.inr (.inr (.inr (am_row o.2 r)))))
def am_ws (r : Nat → Nat) (d : am_D) (G : am_G) : Nat → List am_L → va_W
  | _, [] => []
  | i, c :: t => (r i, am_E r d c (G i)) :: am_ws r d G (i + 1) t
def am_ts (d : am_D) : List (ClassId × FieldType) := [(d.1, .int), (d.2.1, .array .int), (d.2.2, .object "WellRefuses$Sheet")]
def am_sz : am_L → Nat
  | .inl o => o.2.length
  | .inr (.inl n) => n
  | .inr (.inr o) => o.2.length
def am_sl : List am_L → Nat
  | [] => 0
  | c :: t => am_sz c + am_sl t
theorem am_sl_app (a b : List am_L) : am_sl (a ++ b) = am_sl a + am_sl b := by
  induction a with
  | nil => simp [am_sl]
  | cons c t ih => simp only [List.cons_append, am_sl, ih]; omega
theorem am_sl_set : ∀ (L : List am_L) (i : Nat) (c c' : am_L), L[i]? = some c → am_sz c' = am_sz c → am_sl (L.set i c') = am_sl L
  | [], _, _, _, h, _ => by simp at h
  | a :: t, 0, c, c', h, e => by
    simp only [List.getElem?_cons_zero, Option.some.injEq] at h
    subst h
    simp only [List.set_cons_zero, am_sl, e]
  | a :: t, i + 1, c, c', h, e => by
    simp only [List.getElem?_cons_succ] at h
    simp only [List.set_cons_succ, am_sl, am_sl_set t i c c' h e]
theorem am_fs_len (r : Nat → Nat) (g : Nat → Int32) : ∀ (l : List (Option Value)) (k : Nat), (am_fs r g k l).length = l.length
  | [], _ => rfl
  | none :: t, k => by simp only [am_fs, List.length_cons, am_fs_len r g t (k + 1)]
  | some v :: t, k => by simp only [am_fs, List.length_cons, am_fs_len r g t (k + 1)]
theorem am_fs_none (r : Nat → Nat) (g : Nat → Int32) : ∀ (l : List (Option Value)) (k i : Nat), l[i]? = some none → (am_fs r g k l)[i]? = some (.int (g (k + i)))
  | [], _, _, h => by simp at h
  | none :: t, k, 0, _ => by simp [am_fs]
  | some v :: t, k, 0, h => by simp at h
  | none :: t, k, i + 1, h => by
    simp only [List.getElem?_cons_succ] at h
    simp only [am_fs, List.getElem?_cons_succ, am_fs_none r g t (k + 1) i h]
    rw [show k + 1 + i = k + (i + 1) by omega]
  | some v :: t, k, i + 1, h => by
    simp only [List.getElem?_cons_succ] at h
    simp only [am_fs, List.getElem?_cons_succ, am_fs_none r g t (k + 1) i h]
    rw [show k + 1 + i = k + (i + 1) by omega]
theorem am_fs_some (r : Nat → Nat) (g : Nat → Int32) : ∀ (l : List (Option Value)) (k i : Nat) (v : Value), l[i]? = some (some v) → (am_fs r g k l)[i]? = some (am_c r v)
  | [], _, _, _, h => by simp at h
  | none :: t, k, 0, _, h => by simp at h
  | some v :: t, k, 0, v', h => by
    simp only [List.getElem?_cons_zero, Option.some.injEq] at h
    subst h
    simp [am_fs]
  | none :: t, k, i + 1, v, h => by
    simp only [List.getElem?_cons_succ] at h
    simp only [am_fs, List.getElem?_cons_succ, am_fs_some r g t (k + 1) i v h]
  | some u :: t, k, i + 1, v, h => by
    simp only [List.getElem?_cons_succ] at h
    simp only [am_fs, List.getElem?_cons_succ, am_fs_some r g t (k + 1) i v h]
theorem am_fs_cong (r : Nat → Nat) (g g' : Nat → Int32) : ∀ (l : List (Option Value)) (k : Nat), (∀ j, k ≤ j → g' j = g j) → am_fs r g' k l = am_fs r g k l
  | [], _, _ => rfl
  | none :: t, k, h => by simp only [am_fs, h k (Nat.le_refl k), am_fs_cong r g g' t (k + 1) (fun j hj => h j (by omega))]
  | some v :: t, k, h => by simp only [am_fs, am_fs_cong r g g' t (k + 1) (fun j hj => h j (by omega))]
theorem am_fs_up (r : Nat → Nat) (g : Nat → Int32) (x : Int32) : ∀ (l : List (Option Value)) (k i : Nat), l[i]? = some none → (am_fs r g k l).set i (.int x) = am_fs r (fun j => if j = k + i then x else g j) k l
  | [], _, _, h => by simp at h
  | none :: t, k, 0, _ => by
    simp only [am_fs, List.set_cons_zero, Nat.add_zero, if_true]
    rw [am_fs_cong r g _ t (k + 1) (fun j hj => if_neg (by omega))]
  | some v :: t, k, 0, h => by simp at h
  | none :: t, k, i + 1, h => by
    simp only [List.getElem?_cons_succ] at h
    simp only [am_fs, List.set_cons_succ, am_fs_up r g x t (k + 1) i h]
    rw [if_neg (by omega), show k + 1 + i = k + (i + 1) by omega]
  | some v :: t, k, i + 1, h => by
    simp only [List.getElem?_cons_succ] at h
    simp only [am_fs, List.set_cons_succ, am_fs_up r g x t (k + 1) i h]
    rw [show k + 1 + i = k + (i + 1) by omega]
theorem am_fs_set (r : Nat → Nat) (g : Nat → Int32) (v' : Value) : ∀ (l : List (Option Value)) (k i : Nat) (v : Value), l[i]? = some (some v) → (am_fs r g k l).set i (am_c r v') = am_fs r g k (l.set i (some v'))
  | [], _, _, _, h => by simp at h
  | none :: t, k, 0, _, h => by simp at h
  | some v :: t, k, 0, _, _ => by simp only [am_fs, List.set_cons_zero]
  | none :: t, k, i + 1, v, h => by
    simp only [List.getElem?_cons_succ] at h
    simp only [am_fs, List.set_cons_succ, am_fs_set r g v' t (k + 1) i v h]
  | some u :: t, k, i + 1, v, h => by
    simp only [List.getElem?_cons_succ] at h
    simp only [am_fs, List.set_cons_succ, am_fs_set r g v' t (k + 1) i v h]
theorem am_ws_len (r : Nat → Nat) (d : am_D) (G : am_G) : ∀ (L : List am_L) (k : Nat), (am_ws r d G k L).length = L.length
  | [], _ => rfl
  | c :: t, k => by simp only [am_ws, List.length_cons, am_ws_len r d G t (k + 1)]
theorem am_ws_get (r : Nat → Nat) (d : am_D) (G : am_G) : ∀ (L : List am_L) (k i : Nat) (c : am_L), L[i]? = some c → (am_ws r d G k L)[i]? = some (r (k + i), am_E r d c (G (k + i)))
  | [], _, _, _, h => by simp at h
  | a :: t, k, 0, c, h => by
    simp only [List.getElem?_cons_zero, Option.some.injEq] at h
    subst h
    simp [am_ws]
  | a :: t, k, i + 1, c, h => by
    simp only [List.getElem?_cons_succ] at h
    simp only [am_ws, List.getElem?_cons_succ, am_ws_get r d G t (k + 1) i c h]
    rw [show k + 1 + i = k + (i + 1) by omega]
theorem am_ws_inv (r : Nat → Nat) (d : am_D) (G : am_G) {L : List am_L} {i : Nat} {q : Nat × va_E} (h : (am_ws r d G 0 L)[i]? = some q) : ∃ c, L[i]? = some c ∧ q = (r i, am_E r d c (G i)) := by
  have hl : i < L.length := by
    have := (List.getElem?_eq_some_iff.mp h).1
    rwa [am_ws_len] at this
  obtain ⟨c, hc⟩ : ∃ c, L[i]? = some c := ⟨L[i], List.getElem?_eq_getElem hl⟩
  have h2 := am_ws_get r d G L 0 i c hc
  rw [Nat.zero_add] at h2
  exact ⟨c, hc, Option.some.inj (h.symm.trans h2)⟩
/-- one cell changes -/
theorem am_ws_set (r : Nat → Nat) (d : am_D) (G G' : am_G) (c' : am_L) : ∀ (L : List am_L) (k i : Nat), i < L.length → (∀ b, b ≠ k + i → G' b = G b) → (am_ws r d G k L).set i (r (k + i), am_E r d c' (G' (k + i))) = am_ws r d G' k (L.set i c')
  | [], _, _, h, _ => absurd h (Nat.not_lt_zero _)
  | a :: t, k, 0, _, hG => by
    simp only [am_ws, List.set_cons_zero, Nat.add_zero]
    congr 1
    have key : ∀ (t : List am_L) (j : Nat), k < j → am_ws r d G j t = am_ws r d G' j t := by
      intro t
      induction t with
      | nil => intro j _; rfl
      | cons c t ih => intro j hj; simp only [am_ws, hG j (by omega), ih (j + 1) (by omega)]
    exact key t (k + 1) (by omega)
  | a :: t, k, i + 1, h, hG => by
    simp only [am_ws, List.set_cons_succ, hG k (by omega)]
    rw [show k + (i + 1) = (k + 1) + i by omega, am_ws_set r d G G' c' t (k + 1) i (by simpa using h) (fun b hb => hG b (by omega))]
theorem am_ws_cong (r : Nat → Nat) (d : am_D) (G G' : am_G) : ∀ (L : List am_L) (k : Nat), (∀ b, k ≤ b → b < k + L.length → G' b = G b) → am_ws r d G' k L = am_ws r d G k L
  | [], _, _ => rfl
  | c :: t, k, h => by
    simp only [List.length_cons] at h
    simp only [am_ws, h k (Nat.le_refl k) (by omega), am_ws_cong r d G G' t (k + 1) (fun b h1 h2 => h b (by omega) (by omega))]
theorem am_ws_app (r : Nat → Nat) (d : am_D) (G : am_G) : ∀ (L L2 : List am_L) (k : Nat), am_ws r d G k (L ++ L2) = am_ws r d G k L ++ am_ws r d G (k + L.length) L2
  | [], L2, k => by simp [am_ws]
  | c :: t, L2, k => by
    simp only [List.cons_append, am_ws, am_ws_app r d G t L2 (k + 1), List.length_cons]
    rw [show k + 1 + t.length = k + (t.length + 1) by omega]
theorem am_r_lt {B : Nat} {x : Nat → Nat} {i : Nat} (h : i < 1000) : am_r B x i = B + i := if_pos h
theorem am_r_ge {B : Nat} {x : Nat → Nat} {i : Nat} (h : 1000 ≤ i) : am_r B x i = x i := if_neg (by omega)
/-- the cells are apart, and lie from B on -/
theorem am_ws_D (B : Nat) (x : Nat → Nat) (d : am_D) (G : am_G) {L : List am_L} (hl : L.length ≤ 1000) : va_D (fun q : Nat => B ≤ q) (am_ws (am_r B x) d G 0 L) := by
  have key : ∀ (k : Nat) (q : Nat × va_E), (am_ws (am_r B x) d G 0 L)[k]? = some q → q.1 = B + k := by
    intro k q hq
    obtain ⟨c, hc, rfl⟩ := am_ws_inv _ _ _ hq
    have := (List.getElem?_eq_some_iff.mp hc).1
    exact am_r_lt (by omega)
  exact ⟨fun i j p q hi hj e => by rw [key i p hi, key j q hj] at e; omega, fun k q hq => by show B ≤ q.1; rw [key k q hq]; omega⟩
theorem am_in_vp {i : Int32} {n : Nat} (h : am_in i n = true) : vp_in i n := by
  simp only [am_in, Bool.and_eq_true, Bool.not_eq_true', decide_eq_false_iff_not] at h
  intro q
  have h2 := Nat.le_of_ble_eq_true h.2
  rcases q with q | q
  · exact h.1 q
  · omega
theorem am_in_lt {i : Int32} {n : Nat} (h : am_in i n = true) : ¬ i < 0 ∧ i.toNatClampNeg < n := by
  simp only [am_in, Bool.and_eq_true, Bool.not_eq_true', decide_eq_false_iff_not] at h
  exact ⟨h.1, by have := Nat.le_of_ble_eq_true h.2; omega⟩
theorem am_c_cat (r : Nat → Nat) (v : Value) : (am_c r v).category = v.category := by cases v <;> rfl
theorem am_cat_ok {st : List Value} (r : Nat → Nat) (h : am_cat st = true) : ((st.map (am_c r)).map fun v => v.category).sum ≤ 8 := by
  have h2 := Nat.le_of_ble_eq_true h
  rw [List.map_map, show ((fun v : Value => v.category) ∘ am_c r) = fun v => v.category from funext fun v => am_c_cat r v]
  exact h2
/-- the locals: what is known of each place -/
def am_fx : Nat → am_V → List (Nat × Value)
  | _, [] => []
  | k, none :: t => am_fx (k + 1) t
  | k, some v :: t => (k, v) :: am_fx (k + 1) t
theorem am_fx_mem : ∀ (lv : am_V) (k : Nat) (q : Nat × Value), q ∈ am_fx k lv ↔ k ≤ q.1 ∧ lv[q.1 - k]? = some (some q.2)
  | [], k, q => by simp [am_fx]
  | none :: t, k, q => by
    rw [am_fx, am_fx_mem t (k + 1) q]
    constructor
    · rintro ⟨h1, h2⟩
      refine ⟨by omega, ?_⟩
      rw [show q.1 - k = (q.1 - (k + 1)) + 1 by omega]
      simpa using h2
    · rintro ⟨h1, h2⟩
      by_cases e : q.1 = k
      · rw [e, Nat.sub_self] at h2; simp at h2
      · refine ⟨by omega, ?_⟩
        rw [show q.1 - k = (q.1 - (k + 1)) + 1 by omega] at h2
        simpa using h2
  | some v :: t, k, q => by
    rw [am_fx, List.mem_cons, am_fx_mem t (k + 1) q]
    constructor
    · rintro (rfl | ⟨h1, h2⟩)
      · exact ⟨Nat.le_refl _, by simp⟩
      · refine ⟨by omega, ?_⟩
        rw [show q.1 - k = (q.1 - (k + 1)) + 1 by omega]
        simpa using h2
    · rintro ⟨h1, h2⟩
      by_cases e : q.1 = k
      · rw [e, Nat.sub_self] at h2
        simp only [List.getElem?_cons_zero, Option.some.injEq] at h2
        exact Or.inl (by rw [← e, h2])
      · refine Or.inr ⟨by omega, ?_⟩
        rw [show q.1 - k = (q.1 - (k + 1)) + 1 by omega] at h2
        simpa using h2
def am_cv (r : Nat → Nat) (lv : am_V) : am_V := lv.map (Option.map (am_c r))
def am_H (r : Nat → Nat) (ls : Array Slot) (lv : am_V) : Prop := lv_has ls lv.length (am_fx 0 (am_cv r lv))
theorem am_cv_get (r : Nat → Nat) {lv : am_V} {i : Nat} {v : Value} (h : am_ld lv i = some v) : (am_cv r lv)[i]? = some (some (am_c r v)) := by
  unfold am_ld at h
  unfold am_cv
  rw [List.getElem?_map]
  cases hi : lv[i]? with
  | none => rw [hi] at h; cases h
  | some o => rw [hi] at h; simp only at h; subst h; rfl
theorem am_H_at {r : Nat → Nat} {ls : Array Slot} {lv : am_V} (h : am_H r ls lv) {i : Nat} {v : Value} (hv : am_ld lv i = some v) : ls[i]? = some (.val (am_c r v)) :=
  h.2.2 (i, am_c r v) ((am_fx_mem _ 0 _).mpr ⟨Nat.zero_le _, am_cv_get r hv⟩)
theorem am_H_mem {r : Nat → Nat} {ls : Array Slot} {lv : am_V} {i : Nat} {v : Value} (hv : am_ld lv i = some v) : ∃ k : Nat, (am_fx 0 (am_cv r lv))[k]? = some (i, am_c r v) :=
  List.getElem?_of_mem ((am_fx_mem _ 0 _).mpr ⟨Nat.zero_le _, am_cv_get r hv⟩)
/-- behind a store -/
theorem am_H_st {r : Nat → Nat} {ls : Array Slot} {lv : am_V} {i : Nat} {v : Value} (hnw : am_nw lv i = true) (hi : i < lv.length) (h : lv_has ls lv.length ((i, am_c r v) :: (am_fx 0 (am_cv r lv)).filter (fun q => !(q.1 == i) && !(q.1 + 1 == i && q.2.category == 2)))) : am_H r ls (lv.set i (some v)) := by
  refine ⟨by rw [List.length_set]; exact h.1, h.2.1, fun q hq => h.2.2 q ?_⟩
  replace hq := ((am_fx_mem _ 0 q).mp hq).2
  simp only [am_cv, List.map_set, Nat.sub_zero] at hq
  by_cases e : q.1 = i
  · rw [e, List.getElem?_set_self (by simpa using hi)] at hq
    simp only [Option.map_some, Option.some.injEq] at hq
    have : q = (i, am_c r v) := by rw [← e, hq]
    rw [this]
    exact List.mem_cons_self
  · rw [List.getElem?_set_ne (Ne.symm e)] at hq
    refine List.mem_cons_of_mem _ (List.mem_filter.mpr ⟨(am_fx_mem _ 0 q).mpr ⟨Nat.zero_le _, hq⟩, ?_⟩)
    have h1 : (q.1 == i) = false := by simpa using e
    rw [h1]
    simp only [Bool.not_false, Bool.true_and, Bool.not_eq_true', Bool.and_eq_false_iff]
    by_cases e2 : q.1 + 1 = i
    · right
      subst e2
      simp only [am_nw] at hnw
      rw [List.getElem?_map] at hq
      cases hl : lv[q.1]? with
      | none => rw [hl] at hq; simp at hq
      | some o =>
        rw [hl] at hq hnw
        cases o with
        | none => simp at hq
        | some u =>
          simp only [Option.map_some, Option.some.injEq] at hq
          rw [← hq, am_c_cat]
          cases u <;> first | rfl | simp at hnw
    · left
      simpa using e2
theorem am_st_some {lv : am_V} {i : Nat} {v : Value} {k : am_V → am_O} {o : Option Value × am_M} (h : am_st lv i v k = some o) : am_nw lv i = true ∧ i < lv.length ∧ k (lv.set i (some v)) = some o := by
  unfold am_st at h
  cases hb : (am_nw lv i && Nat.blt i lv.length) with
  | false => rw [hb] at h; cases h
  | true =>
    rw [hb] at h
    simp only [Bool.and_eq_true] at hb
    exact ⟨hb.1, by have := Nat.le_of_ble_eq_true hb.2; omega, h⟩
