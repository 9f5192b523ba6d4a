def am_TB : List Cond := lw_tbl.filter goodWord
def am_at (p : Nat) (w : Cond) : Bool := decide (lw_tbl[p]? = some w) && goodWord w
theorem am_at_in {p : Nat} {w : Cond} (h : am_at p w = true) : w ∈ am_TB := by
  simp only [am_at, Bool.and_eq_true, decide_eq_true_eq] at h
  exact List.mem_filter.mpr ⟨List.mem_of_getElem? h.1, h.2⟩
def am_str : List (String × Nat × String) := [("WellRefuses$Reader", 27, ""), ("WellRefuses$Law", 28, "tdw"), ("WellRefuses$Law", 30, "wom")]
def am_nest : List (String × Nat × Nat) := [("WellRefuses", 9, 74), ("WellRefuses$People", 29, 1), ("WellRefuses", 30, 39), ("WellRefuses", 37, 51), ("WellRefuses", 44, 68), ("WellRefuses", 63, 57)]
def am_np (M : am_m) : Nat := match parseMethodDescriptor M.1.desc with
  | some sig => sig.parameters.length
  | none => 0
def am_ln : Instr → Nat
  | .bipush _ | .ldc _ | .iload _ | .istore _ | .aload _ | .astore _ | .newarray _ => 2
  | .sipush _ | .ldc_w _ | .ldc2_w _ | .iinc _ _ | .ifCond _ _ | .if_icmp _ _ | .goto _ | .getfield _ | .putfield _ | .getstatic _ | .invokevirtual _ | .invokestatic _ | .invokespecial _ | .new _ | .anewarray _ => 3
  | .multianewarray _ _ => 4
  | .tableswitch _ _ _ _ | .lookupswitch _ _ => 0
  | _ => 1
noncomputable def am_okA (y : MethodName) (pc : Nat) (e : am_e) : Bool := match e.1 with
  | .iconst c => decide (Int32.ofInt c = e.2.2.2)
  | .bipush c => decide ((Int8.ofInt c).toInt32 = e.2.2.2)
  | .sipush c => decide ((Int16.ofInt c).toInt32 = e.2.2.2)
  | .ldc i => (match e.2.2.1 with
    | [0, p] => am_at p (.constant y.cls i e.2.2.2)
    | [1, q] => (match am_str[q - 1000]? with
      | some z => decide (z.1 = y.cls) && (decide (z.2.1 = i) && Nat.ble 1000 q)
      | none => false)
    | _ => false)
  | .ldc_w i => (match e.2.2.1 with
    | [0, p] => am_at p (.constant y.cls i e.2.2.2)
    | _ => false)
  | .ldc2_w i => (match e.2.2.1 with
    | [a, p] => am_at p (.constantLong y.cls i (Int64.ofNat a))
    | _ => false)
  | .iinc _ c => decide (Int32.ofInt c = e.2.2.2)
  | .ifCond _ off => (match e.2.2.1 with
    | [t] => decide ((pc : Int) + off = (t : Int))
    | _ => false)
  | .if_icmp _ off => (match e.2.2.1 with
    | [t] => decide ((pc : Int) + off = (t : Int))
    | _ => false)
  | .goto off => (match e.2.2.1 with
    | [t] => decide ((pc : Int) + off = (t : Int))
    | _ => false)
  | .tableswitch d _ _ offs => decide (0 ≤ (pc : Int) + d) && offs.toList.all fun o => decide (0 ≤ (pc : Int) + o)
  | .lookupswitch d ps => ((ps.toList.zip (ps.toList.drop 1)).all fun (a, next) => a.1 < next.1) && (decide (0 ≤ (pc : Int) + d) && ps.toList.all fun q => decide (0 ≤ (pc : Int) + q.2))
  | .getfield i => (match e.2.2.1 with
    | [ci, k, p] => (match vwCl[ci]? with
      | some c => Nat.blt k c.2.2 && am_at p (.fieldLink y.cls i (c.2.1 k).1 (c.2.1 k).2.1 (c.2.1 k).2.2.1)
      | none => false)
    | [f, p] => am_at p (.fieldLink y.cls i "java/lang/String" (bif Nat.beq f 0 then "coder" else "value") (bif Nat.beq f 0 then "B" else "[B"))
    | _ => false)
  | .putfield i => (match e.2.2.1 with
    | [ci, k, p] => (match vwCl[ci]? with
      | some c => Nat.blt k c.2.2 && (am_at p (.fieldLink y.cls i (c.2.1 k).1 (c.2.1 k).2.1 (c.2.1 k).2.2.1) && (!(c.2.1 k).2.2.2 || (decide (y.name = "<init>") && decide ((c.2.1 k).1 = y.cls))))
      | none => false)
    | _ => false)
  | .getstatic i => (match e.2.2.1 with
    | [q, p] => Nat.beq q 1004 && am_at p (.fieldLink y.cls i "WellRefuses$Kinds" "ABOVE" "[I")
    | [_, p, _] => am_at p (.fieldLink y.cls i "java/lang/String" "COMPACT_STRINGS" "Z")
    | _ => false)
  | .new i => (match e.2.2.1 with
    | [ci, p1, p2, p3] => (match vwCl[ci]? with
      | some c => am_at p1 (.classLink y.cls i c.1) && (am_at p2 (.instantiable c.1 c.2.2) && am_at p3 (.initialized c.1))
      | none => false)
    | _ => false)
  | .newarray a => decide (a = .int)
  | .anewarray i => (match e.2.2.1 with
    | [_, p] => am_at p (.classLink y.cls i "WellRefuses$Sheet")
    | _ => false)
  | .multianewarray i d => Nat.beq d 2 && (match e.2.2.1 with
    | [_, p] => am_at p (.classLink y.cls i "[[I")
    | _ => false)
  | .invokevirtual i => (match e.2.2.1 with
    | [0, t, na, ci, p1, p2, p3] => (match am_mt[t]? with
      | some M => am_at p1 (.methodLink y.cls i M.1) && (am_at p2 (.instanceMethod M.1) && (am_at p3 (.selects M.1.cls M.1 M.1) && (Nat.beq (am_np M + 1) na && (!(Nat.beq M.2.2.2.2.2.2.1 0) && (match vwCl[ci]? with
        | some c => decide (c.1 = M.1.cls)
        | none => false)))))
      | none => false)
    | [9, t, na, p1, p2, p3] => (match am_mt[t]? with
      | some M => am_at p1 (.methodLink y.cls i M.1) && (am_at p2 (.instanceMethod M.1) && (am_at p3 (.selects M.1.cls M.1 M.1) && (Nat.beq (am_np M + 1) na && (!(Nat.beq M.2.2.2.2.2.2.1 0) && decide (M.1.cls = "java/lang/String")))))
      | none => false)
    | _ => false)
  | .invokestatic i => (match e.2.2.1 with
    | [1, t, na, _, p1, p2] => (match am_mt[t]? with
      | some M => am_at p1 (.methodLink y.cls i M.1) && (am_at p2 (.static M.1) && (Nat.beq (am_np M) na && !(Nat.beq M.2.2.2.2.2.2.1 0)))
      | none => false)
    | [4, _, p] => am_at p (.methodLink y.cls i arraycopyName)
    | [6, _, p] => am_at p (.methodLink y.cls i Lib.Math.max.name)
    | [7, _, p] => am_at p (.methodLink y.cls i Lib.Math.min.name)
    | [8, _, p] => am_at p (.methodLink y.cls i Lib.Math.abs.name)
    | [9, _, _] => true
    | _ => false)
  | .invokespecial i => (match e.2.2.1 with
    | [2, t, na, _, p1, p2] => (match am_mt[t]? with
      | some M => am_at p1 (.methodLink y.cls i M.1) && (am_at p2 (.instanceMethod M.1) && (Nat.beq (am_np M + 1) na && (!(Nat.beq M.2.2.2.2.2.2.1 0) && (decide (M.1.name = "<init>") && decide (M.2.2.2.1 = none)))))
      | none => false)
    | [3, t, na, _, _, p2] => (match am_mt[t]? with
      | some M => decide ((y.cls, i, t) ∈ am_nest) && (am_at p2 (.instanceMethod M.1) && (Nat.beq (am_np M + 1) na && (!(Nat.beq M.2.2.2.2.2.2.1 0) && (decide (M.1.name = "<init>") && decide (M.2.2.2.1 = none)))))
      | none => false)
    | [5, _, p] => am_at p (.methodLink y.cls i Lib.objectInit)
    | _ => false)
  | _ => true
noncomputable def am_okE (y : MethodName) (b : ByteArray) (pc : Nat) (e : am_e) : Bool := decide (decode b pc = .ok (e.1, e.2.1)) && ((Nat.beq (am_ln e.1) 0 || Nat.beq (am_ln e.1) e.2.1) && am_okA y pc e)
noncomputable def am_okR (M : am_m) (lo n : Nat) : Bool := (List.range n).all fun k => match M.2.2.2.2.2.2.2.2 (lo + k) with
  | some e => am_okE M.1 M.2.1 (lo + k) e
  | none => true
theorem am_okR_at {M : am_m} {lo n : Nat} (h : am_okR M lo n = true) {pc : Nat} {e : am_e} (h1 : lo ≤ pc) (h2 : pc < lo + n) (he : M.2.2.2.2.2.2.2.2 pc = some e) : am_okE M.1 M.2.1 pc e = true := by
  have h3 := List.all_eq_true.mp h (pc - lo) (List.mem_range.mpr (by omega))
  rw [show lo + (pc - lo) = pc by omega, he] at h3
  exact h3
noncomputable def am_okC (M : am_m) : Bool := plainName M.1.cls && (decide (Cond.initialized M.1.cls ∈ lw_tbl) && (goodWord (.initialized M.1.cls) && (decide (M.1.cls ≠ "java/lang/invoke/MethodHandle") && (decide (M.1.cls ≠ "java/lang/invoke/VarHandle") && (Nat.ble M.2.2.1 9 && (Nat.beq M.2.2.2.2.2.2.1 0 || am_at M.2.2.2.2.2.2.1 (.code M.1 M.2.1 M.2.2.1 M.2.2.2.1)))))))
def am_okP (M : am_m) : Prop := (∀ pc e, M.2.2.2.2.2.2.2.2 pc = some e → am_okE M.1 M.2.1 pc e = true) ∧ am_okC M = true
