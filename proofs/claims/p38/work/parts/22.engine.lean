/-! THE ENGINE: a run from a place of a method, as a proposition that rewrites step by step -/
def am_os {α : Type} (x : Option α) (f : α → Prop) : Prop := ∃ v, x = some v ∧ f v
theorem am_os_some {α : Type} (v : α) (f : α → Prop) : am_os (some v) f = f v := propext ⟨fun ⟨u, h, h2⟩ => by cases h; exact h2, fun h => ⟨v, rfl, h⟩⟩
theorem am_os_none {α : Type} (f : α → Prop) : am_os (none : Option α) f = False := propext ⟨(fun ⟨u, h, _⟩ => nomatch h), fun h => False.elim h⟩
def am_Rn (X : am_X) (D : Nat) (rt : Option FieldType) (ins : Nat → Option am_e) (pc : Nat) (lv : am_V) (st : List Value) (w : am_M) (o : Option Value × am_M) : Prop := ∃ n, am_run X (am_CD X D) rt ins n pc lv st w = some o
section AMQ
variable {X : am_X} {D : Nat} {rt : Option FieldType} {ins : Nat → Option am_e} {pc pc1 pc2 : Nat} {lv lv1 : am_V} {st st1 : List Value} {w w1 : am_M} {o : Option Value × am_M} {en : am_e}
theorem am_Rn_iff (he : ins pc = some en) : am_Rn X D rt ins pc lv st w o ↔ ∃ n, am_ex X (am_CD X D) rt en (am_run X (am_CD X D) rt ins n) pc lv st w = some o := by
  constructor
  · rintro ⟨n, h⟩
    cases n with
    | zero => cases h
    | succ n =>
      unfold am_run at h
      rw [he] at h
      exact ⟨n, h⟩
  · rintro ⟨n, h⟩
    refine ⟨n + 1, ?_⟩
    unfold am_run
    rw [he]
    exact h
/-- straight on -/
theorem am_q (he : ins pc = some en) (h : ∀ k, am_ex X (am_CD X D) rt en k pc lv st w = k pc1 lv1 st1 w1) : am_Rn X D rt ins pc lv st w o = am_Rn X D rt ins pc1 lv1 st1 w1 o := by
  refine propext ((am_Rn_iff he).trans ?_)
  exact exists_congr fun n => by rw [h]
/-- a store -/
theorem am_qs {j : Nat} {v : Value} (he : ins pc = some en) (hl : Nat.blt j lv.length = true) (h : ∀ k, am_ex X (am_CD X D) rt en k pc lv st w = am_st lv j v (fun lv => k pc1 lv st1 w1)) : am_Rn X D rt ins pc lv st w o = (am_nw lv j = true ∧ am_Rn X D rt ins pc1 (lv.set j (some v)) st1 w1 o) := by
  refine propext ((am_Rn_iff he).trans ?_)
  constructor
  · rintro ⟨n, h1⟩
    rw [h] at h1
    obtain ⟨h2, -, h3⟩ := am_st_some h1
    exact ⟨h2, n, h3⟩
  · rintro ⟨h2, n, h3⟩
    refine ⟨n, ?_⟩
    rw [h]
    unfold am_st
    rw [h2, hl]
    exact h3
/-- a branch -/
theorem am_qi {c : Prop} [Decidable c] (he : ins pc = some en) (h : ∀ k, am_ex X (am_CD X D) rt en k pc lv st w = bif decide c then k pc1 lv1 st1 w1 else k pc2 lv1 st1 w1) : am_Rn X D rt ins pc lv st w o = if c then am_Rn X D rt ins pc1 lv1 st1 w1 o else am_Rn X D rt ins pc2 lv1 st1 w1 o := by
  refine propext ((am_Rn_iff he).trans ?_)
  by_cases hc : c
  · rw [if_pos hc]
    exact exists_congr fun n => by rw [h, decide_eq_true hc]; rfl
  · rw [if_neg hc]
    exact exists_congr fun n => by rw [h, decide_eq_false hc]; rfl
/-- where something must be there -/
theorem am_qo {α : Type} {x : Option α} {f : α → Nat × am_V × List Value × am_M} (he : ins pc = some en) (h : ∀ k, am_ex X (am_CD X D) rt en k pc lv st w = x.bind fun v => k (f v).1 (f v).2.1 (f v).2.2.1 (f v).2.2.2) : am_Rn X D rt ins pc lv st w o = am_os x fun v => am_Rn X D rt ins (f v).1 (f v).2.1 (f v).2.2.1 (f v).2.2.2 o := by
  refine propext ((am_Rn_iff he).trans ?_)
  cases x with
  | none =>
    rw [am_os_none]
    refine ⟨fun ⟨n, h1⟩ => ?_, fun h => h.elim⟩
    rw [h] at h1
    cases h1
  | some v =>
    rw [am_os_some]
    exact exists_congr fun n => by rw [h]; rfl
/-- the end -/
theorem am_qr {c : Prop} {r : Option Value} (he : ins pc = some en) (h : ∀ k, am_ex X (am_CD X D) rt en k pc lv st w = some o ↔ (c ∧ o = (r, w))) : am_Rn X D rt ins pc lv st w o = (c ∧ o = (r, w)) := by
  refine propext ((am_Rn_iff he).trans ?_)
  exact ⟨fun ⟨n, h1⟩ => (h _).mp h1, fun h1 => ⟨0, (h _).mpr h1⟩⟩
end AMQ
def am_putM (w : am_M) (a ci k : Nat) (v : Value) : Option am_M := match w.1[a]? with
  | some (.inl o) => bif Nat.beq o.1 ci then (match o.2[k]?, v with
    | some none, .int x => bif am_nar (am_ty ci k) x then some (w.1, am_up w.2 a k x) else none
    | some (some _), .ref b => bif am_isr (am_ty ci k) then some (w.1.set a (.inl (o.1, o.2.set k (some (.ref b)))), w.2) else none
    | _, _ => none) else none
  | _ => none
theorem am_put_M (w : am_M) (a ci f : Nat) (v : Value) (K : am_M → am_O) : am_put w a ci f v K = (am_putM w a ci f v).bind fun w1 => K w1 := by
  unfold am_put am_putM
  cases w.1[a]? with
  | none => rfl
  | some c =>
    match c with
    | .inr _ => rfl
    | .inl z =>
      dsimp only
      cases Nat.beq z.1 ci with
      | false => rfl
      | true =>
        dsimp only [cond_true]
        cases z.2[f]? with
        | none => rfl
        | some u =>
          cases u with
          | none =>
            cases v with
            | int x => dsimp only; cases am_nar (am_ty ci f) x <;> rfl
            | _ => rfl
          | some u =>
            cases v with
            | ref x => dsimp only; cases am_isr (am_ty ci f) <;> rfl
            | _ => rfl
def am_astM (w : am_M) (a : Nat) (i x : Int32) : Option am_M := match w.1[a]? with
  | some (.inr (.inl n)) => bif am_in i n then some (w.1, am_up w.2 a i.toNatClampNeg x) else none
  | _ => none
theorem am_ast_M (w : am_M) (a : Nat) (i x : Int32) (K : am_M → am_O) : am_ast w a i x K = (am_astM w a i x).bind fun w1 => K w1 := by
  unfold am_ast am_astM
  cases w.1[a]? with
  | none => rfl
  | some c =>
    match c with
    | .inl _ => rfl
    | .inr (.inr _) => rfl
    | .inr (.inl n) => dsimp only; cases am_in i n <;> rfl
def am_acpM (w : am_M) (a b : Nat) (sp dp n : Int32) : Option am_M := match w.1[a]?, w.1[b]? with
  | some (.inr (.inl na)), some (.inr (.inl nb)) => bif (!decide (sp < 0) && (!decide (dp < 0) && !decide (n < 0))) && (Nat.ble (sp.toNatClampNeg + n.toNatClampNeg) na && Nat.ble (dp.toNatClampNeg + n.toNatClampNeg) nb) then some (w.1, am_cpy w.2 a b sp.toNatClampNeg dp.toNatClampNeg n.toNatClampNeg) else none
  | _, _ => none
theorem am_acp_M (w : am_M) (a b : Nat) (sp dp n : Int32) (K : am_M → am_O) : am_acp w a b sp dp n K = (am_acpM w a b sp dp n).bind fun w1 => K w1 := by
  unfold am_acp am_acpM
  cases w.1[a]? with
  | none => rfl
  | some c =>
    match c with
    | .inl _ => rfl
    | .inr (.inr _) => rfl
    | .inr (.inl na) =>
      cases w.1[b]? with
      | none => rfl
      | some c2 =>
        match c2 with
        | .inl _ => rfl
        | .inr (.inr _) => rfl
        | .inr (.inl nb) =>
          dsimp only
          cases ((!decide (sp < 0) && (!decide (dp < 0) && !decide (n < 0))) && (Nat.ble (sp.toNatClampNeg + n.toNatClampNeg) na && Nat.ble (dp.toNatClampNeg + n.toNatClampNeg) nb)) <;> rfl
/-- a call: its parameters in their order, what is below -/
def am_rcv (rc : Bool) (ci : Nat) (as : List Value) (w : am_M) : Bool := bif rc then (match as.head? with
      | some (.ref b) => (match w.1[b]? with
        | some (.inl o) => Nat.beq o.1 ci
        | _ => false)
      | _ => false) else true
def am_calM (C : Nat → List Value → am_M → am_O) (rc : Bool) (t ci : Nat) (as st : List Value) (w : am_M) : Option (List Value × am_M) :=
  bif am_cat st && am_rcv rc ci as w then (match C t as w with
    | some o => some (o.1.toList ++ st, o.2)
    | none => none) else none
theorem am_cal_M {C : Nat → List Value → am_M → am_O} {rc : Bool} {t na ci : Nat} {s0 as st : List Value} {w : am_M} {K : List Value → am_M → am_O} (h1 : s0 = as.reverse ++ st) (h2 : as.length = na) : am_cal C rc t na ci s0 w K = (am_calM C rc t ci as st w).bind fun q => K q.1 q.2 := by
  subst h1
  subst h2
  unfold am_cal am_calM
  have e1 : Nat.ble as.length (as.reverse ++ st).length = true := Nat.ble_eq_true_of_le (by simp)
  have e2 : (as.reverse ++ st).drop as.length = st := by
    rw [← List.length_reverse, List.drop_left]
  have e3 : ((as.reverse ++ st).take as.length).reverse = as := by
    rw [← List.length_reverse (as := as), List.take_left, List.reverse_reverse]
  rw [e1, e2, e3]
  cases hc : am_cat st with
  | false => rfl
  | true =>
    simp only [Bool.and_self, cond_true, Bool.true_and]
    show (bif am_rcv rc ci as w then _ else none) = _
    cases am_rcv rc ci as w with
    | false => rfl
    | true =>
      simp only [cond_true]
      cases C t as w <;> rfl
/-- a call on a String -/
def am_calS (C : Nat → List Value → am_M → am_O) (t : Nat) (as st : List Value) (w : am_M) : Option (List Value × am_M) := bif am_srv as then am_calM C false t 0 as st w else none
theorem am_cal_S {C : Nat → List Value → am_M → am_O} {t na : Nat} {s0 as st : List Value} {w : am_M} {K : List Value → am_M → am_O} (h1 : s0 = as.reverse ++ st) (h2 : as.length = na) : (bif am_srv ((s0.take na).reverse) then (am_cal C false t na 0 s0 w K) else none) = (am_calS C t as st w).bind fun q => K q.1 q.2 := by
  have e3 : (s0.take na).reverse = as := by
    subst h1
    subst h2
    rw [← List.length_reverse (as := as), List.take_left, List.reverse_reverse]
  rw [e3]
  unfold am_calS
  cases am_srv as with
  | false => rfl
  | true => exact am_cal_M h1 h2
theorem am_calS_ok {C : Nat → List Value → am_M → am_O} {t : Nat} {as st : List Value} {w : am_M} {o : Option Value × am_M} (h1 : am_cat st = true) (h2 : am_srv as = true) (h3 : C t as w = some o) : am_calS C t as st w = some (o.1.toList ++ st, o.2) := by
  unfold am_calS am_calM
  rw [h1, h2, h3]
  rfl
def am_nw1 (a : Option Value) : Bool := am_nw [a, none] 1
theorem am_nw1_n : am_nw1 none = true := rfl
theorem am_nw1_i (x : Int32) : am_nw1 (some (.int x)) = true := rfl
theorem am_nw1_r (x : Nat) : am_nw1 (some (.ref x)) = true := rfl
/-- a method's answer, by a run from its first place -/
theorem am_CD_of {X : am_X} {D t : Nat} {as : List Value} {w : am_M} {o : Option Value × am_M} {M : am_m} (hM : am_mt[t]? = some M) (hl : Nat.ble (am_lay as).length M.2.2.1 = true) (h : am_Rn X D M.2.2.2.1 M.2.2.2.2.2.2.2.2 0 (am_ent M.2.2.1 as) [] w o) : am_CD X (D + 1) t as w = some o := by
  obtain ⟨n, h⟩ := h
  exact am_CD_intro hM (Nat.le_of_ble_eq_true hl) h
theorem am_cat_0 : am_cat [] = true := rfl
theorem am_cat_le {st : List Value} (h : st.length ≤ 4) : am_cat st = true := by
  have key : ∀ l : List Value, (l.map fun v => v.category).sum ≤ 2 * l.length := by
    intro l
    induction l with
    | nil => simp
    | cons v t ih =>
      have : v.category ≤ 2 := by cases v <;> simp [Value.category]
      simp only [List.map_cons, List.sum_cons, List.length_cons]
      omega
  exact Nat.ble_eq_true_of_le (by have := key st; omega)
theorem am_cat_1 (a : Value) : am_cat [a] = true := am_cat_le (by simp)
theorem am_cat_2 (a b : Value) : am_cat [a, b] = true := am_cat_le (by simp)
theorem am_cat_3 (a b c : Value) : am_cat [a, b, c] = true := am_cat_le (by simp)
theorem am_cat_4 (a b c d : Value) : am_cat [a, b, c, d] = true := am_cat_le (by simp)
section AMQ2
variable {X : am_X} {D : Nat} {rt : Option FieldType} {ins : Nat → Option am_e} {pc pc1 pc2 : Nat} {lv lv1 : am_V} {st st1 : List Value} {w w1 : am_M} {o : Option Value × am_M} {en : am_e}
theorem am_qs0 {v : Value} (he : ins pc = some en) (hl : Nat.blt 0 lv.length = true) (h : ∀ k, am_ex X (am_CD X D) rt en k pc lv st w = am_st lv 0 v (fun lv => k pc1 lv st1 w1)) : am_Rn X D rt ins pc lv st w o = am_Rn X D rt ins pc1 (lv.set 0 (some v)) st1 w1 o :=
  (am_qs he hl h).trans (propext ⟨fun h => h.2, fun h => ⟨rfl, h⟩⟩)
/-- a division -/
theorem am_qd {c : Prop} [Decidable c] (he : ins pc = some en) (h : ∀ k, am_ex X (am_CD X D) rt en k pc lv st w = bif decide c then none else k pc1 lv1 st1 w1) : am_Rn X D rt ins pc lv st w o = (¬ c ∧ am_Rn X D rt ins pc1 lv1 st1 w1 o) := by
  refine propext ((am_Rn_iff he).trans ?_)
  by_cases hc : c
  · refine ⟨fun ⟨n, h1⟩ => ?_, fun h => absurd hc h.1⟩
    rw [h, decide_eq_true hc] at h1
    cases h1
  · refine ⟨fun ⟨n, h1⟩ => ⟨hc, n, ?_⟩, fun ⟨_, n, h1⟩ => ⟨n, ?_⟩⟩
    · rw [h, decide_eq_false hc] at h1
      exact h1
    · rw [h, decide_eq_false hc]
      exact h1
/-- where a check must hold -/
theorem am_qc {c : Bool} (he : ins pc = some en) (h : ∀ k, am_ex X (am_CD X D) rt en k pc lv st w = bif c then k pc1 lv1 st1 w1 else none) : am_Rn X D rt ins pc lv st w o = (c = true ∧ am_Rn X D rt ins pc1 lv1 st1 w1 o) := by
  refine propext ((am_Rn_iff he).trans ?_)
  cases c with
  | false =>
    refine ⟨fun ⟨n, h1⟩ => ?_, fun h => nomatch h.1⟩
    rw [h] at h1
    cases h1
  | true =>
    refine ⟨fun ⟨n, h1⟩ => ⟨rfl, n, ?_⟩, fun ⟨_, n, h1⟩ => ⟨n, ?_⟩⟩
    · rw [h] at h1
      exact h1
    · rw [h]
      exact h1
/-- a switch -/
def am_tsw (pc : Nat) (d lo hi : Int) (offs : Array Int) (x : Int32) : Option Nat := bif decide (x.toInt < lo) || decide (hi < x.toInt) then some (am_jmp pc d) else (match offs[(x.toInt - lo).toNat]? with
  | some off => some (am_jmp pc off)
  | none => none)
theorem am_tsw_M (pc : Nat) (d lo hi : Int) (offs : Array Int) (x : Int32) (K : Nat → am_O) : (bif decide (x.toInt < lo) || decide (hi < x.toInt) then K (am_jmp pc d) else (match offs[(x.toInt - lo).toNat]? with
    | some off => K (am_jmp pc off)
    | none => none)) = (am_tsw pc d lo hi offs x).bind fun t => K t := by
  unfold am_tsw
  cases (decide (x.toInt < lo) || decide (hi < x.toInt)) with
  | true => rfl
  | false =>
    dsimp only [cond_false]
    cases offs[(x.toInt - lo).toNat]? <;> rfl
def am_lsw (pc : Nat) (d : Int) (ps : Array (Int × Int)) (x : Int32) : Option Nat := some (am_jmp pc (Op.lookupswitch.offset ps.toList d x.toInt))
def am_acpS (st : List Value) (w : am_M) (a b : Nat) (sp dp n : Int32) : Option am_M := bif am_cat st then am_acpM w a b sp dp n else none
theorem am_acp_S (st : List Value) (w : am_M) (a b : Nat) (sp dp n : Int32) (K : am_M → am_O) : (bif am_cat st then am_acp w a b sp dp n K else none) = (am_acpS st w a b sp dp n).bind fun w1 => K w1 := by
  unfold am_acpS
  rw [am_acp_M]
  cases am_cat st <;> rfl
theorem am_ret_i {C : Nat → List Value → am_M → am_O} {e2 : Nat × List Nat × Int32} {k : Nat → am_V → List Value → am_M → am_O} {v : Int32} : am_ex X C (some .int) (.ireturn, e2) k pc lv [.int v] w = some o ↔ (True ∧ o = (some (.int v), w)) :=
  ⟨fun h => ⟨trivial, (Option.some.inj h).symm⟩, fun h => by rw [h.2]; rfl⟩
theorem am_ret_z {C : Nat → List Value → am_M → am_O} {e2 : Nat × List Nat × Int32} {k : Nat → am_V → List Value → am_M → am_O} {v : Int32} : am_ex X C (some .boolean) (.ireturn, e2) k pc lv [.int v] w = some o ↔ ((v = 0 ∨ v = 1) ∧ o = (some (.int v), w)) := by
  show (bif (decide (v = 0) || decide (v = 1)) then some (some (Value.int v), w) else none) = some o ↔ _
  by_cases h0 : v = 0 <;> by_cases h1 : v = 1 <;> simp [h0, h1, eq_comm]
theorem am_ret_b {C : Nat → List Value → am_M → am_O} {e2 : Nat × List Nat × Int32} {k : Nat → am_V → List Value → am_M → am_O} {v : Int32} : am_ex X C (some .byte) (.ireturn, e2) k pc lv [.int v] w = some o ↔ (v = 0 ∧ o = (some (.int v), w)) := by
  show (bif (decide (v = 0)) then some (some (Value.int v), w) else none) = some o ↔ _
  by_cases h0 : v = 0 <;> simp [h0, eq_comm]
theorem am_ret_a {C : Nat → List Value → am_M → am_O} {e2 : Nat × List Nat × Int32} {k : Nat → am_V → List Value → am_M → am_O} {a : Nat} {ty : FieldType} (h : am_isr ty = true) : am_ex X C (some ty) (.areturn, e2) k pc lv [.ref a] w = some o ↔ (True ∧ o = (some (.ref a), w)) := by
  show (bif am_isr ty then some (some (Value.ref a), w) else none) = some o ↔ _
  rw [h]
  simp [eq_comm]
theorem am_ret_v {C : Nat → List Value → am_M → am_O} {e2 : Nat × List Nat × Int32} {k : Nat → am_V → List Value → am_M → am_O} : am_ex X C none (.return_, e2) k pc lv [] w = some o ↔ (True ∧ o = (none, w)) :=
  ⟨fun h => ⟨trivial, (Option.some.inj h).symm⟩, fun h => by rw [h.2]; rfl⟩
theorem am_ex_gf {C : Nat → List Value → am_M → am_O} {q n ci f p9 : Nat} {r : List Nat} {c : Int32} {k : Nat → am_V → List Value → am_M → am_O} {a : Nat} : am_ex X C rt (.getfield q, n, ci :: f :: p9 :: r, c) k pc lv (.ref a :: st) w = (am_fld w a ci f).bind fun v => k (pc + 3) lv (v :: st) w := by
  simp only [am_ex, am_r1]
  cases am_fld w a ci f <;> rfl
theorem am_ex_ial {C : Nat → List Value → am_M → am_O} {e2 : Nat × List Nat × Int32} {k : Nat → am_V → List Value → am_M → am_O} {a : Nat} {i : Int32} : am_ex X C rt (.iaload, e2) k pc lv (.int i :: .ref a :: st) w = (am_ald X w a i).bind fun v => k (pc + 1) lv (.int v :: st) w := by
  simp only [am_ex, am_ir]
  cases am_ald X w a i <;> rfl
theorem am_ex_sf {C : Nat → List Value → am_M → am_O} {q n f p9 : Nat} {c : Int32} {k : Nat → am_V → List Value → am_M → am_O} {a : Nat} : am_ex X C rt (.getfield q, n, [f, p9], c) k pc lv (.ref a :: st) w = (am_sfl a f).bind fun v => k (pc + 3) lv (v :: st) w := by
  simp only [am_ex, am_r1]
  cases am_sfl a f <;> rfl
theorem am_ex_bal {C : Nat → List Value → am_M → am_O} {e2 : Nat × List Nat × Int32} {k : Nat → am_V → List Value → am_M → am_O} {a : Nat} {i : Int32} : am_ex X C rt (.baload, e2) k pc lv (.int i :: .ref a :: st) w = (am_bld a i).bind fun v => k (pc + 1) lv (.int v :: st) w := by
  simp only [am_ex, am_ir]
  cases am_bld a i <;> rfl
theorem am_ex_aal {C : Nat → List Value → am_M → am_O} {e2 : Nat × List Nat × Int32} {k : Nat → am_V → List Value → am_M → am_O} {a : Nat} {i : Int32} : am_ex X C rt (.aaload, e2) k pc lv (.int i :: .ref a :: st) w = (am_rld w a i).bind fun v => k (pc + 1) lv (.ref v :: st) w := by
  simp only [am_ex, am_ir]
  cases am_rld w a i <;> rfl
theorem am_ex_len {C : Nat → List Value → am_M → am_O} {e2 : Nat × List Nat × Int32} {k : Nat → am_V → List Value → am_M → am_O} {a : Nat} : am_ex X C rt (.arraylength, e2) k pc lv (.ref a :: st) w = (am_len X w a).bind fun n => k (pc + 1) lv (.int (Int32.ofNat n) :: st) w := by
  simp only [am_ex, am_r1]
  cases am_len X w a <;> rfl
theorem am_ex_ts {C : Nat → List Value → am_M → am_O} {e2 : Nat × List Nat × Int32} {k : Nat → am_V → List Value → am_M → am_O} {d lo hi : Int} {offs : Array Int} {x : Int32} : am_ex X C rt (.tableswitch d lo hi offs, e2) k pc lv (.int x :: st) w = (am_tsw pc d lo hi offs x).bind fun t => k t lv st w := by
  simp only [am_ex, am_i1]
  unfold am_tsw
  cases (decide (x.toInt < lo) || decide (hi < x.toInt)) with
  | true => rfl
  | false =>
    dsimp only [cond_false]
    cases offs[(x.toInt - lo).toNat]? <;> rfl
end AMQ2
