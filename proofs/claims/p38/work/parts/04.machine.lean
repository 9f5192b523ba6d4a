/-! THE MACHINE: a computing picture of the bytecode. A world is the cells' shapes, by their numbers, and the ints that they hold; numbers from 1000 on are things outside: 1000.. Strings, 1003 the script, 1004 Kinds.ABOVE -/
/-- a cell's shape: an object (its class's number; its fields: none an int, some v a reference), a row of ints (its length), a row of references (its type's number, what it holds) -/
abbrev am_L : Type := (Nat × List (Option Value)) ⊕ (Nat ⊕ (Nat × List (Option Nat)))
abbrev am_G : Type := Nat → Nat → Int32
abbrev am_M : Type := List am_L × am_G
abbrev am_V : Type := List (Option Value)
abbrev am_O : Type := Option (Option Value × am_M)
abbrev am_X : Type := Nat → Option (Nat × (Nat → Int32))
def am_up (G : am_G) (i j : Nat) (v : Int32) : am_G := fun a b => if a = i then (if b = j then v else G a b) else G a b
def am_z (G : am_G) (n : Nat) : am_G := fun a b => if a < n then G a b else 0
def am_cpy (G : am_G) (a b sp dp n : Nat) : am_G := fun i j => if i = b then (if dp ≤ j ∧ j < dp + n then G a (sp + (j - dp)) else G b j) else G i j
def am_in (i : Int32) (n : Nat) : Bool := !decide (i < 0) && Nat.blt i.toNatClampNeg n
def am_ld (lv : am_V) (i : Nat) : Option Value := match lv[i]? with
  | some v => v
  | none => none
def am_nw (lv : am_V) : Nat → Bool
  | 0 => true
  | i + 1 => match lv[i]? with
    | some (some (.long _)) => false
    | some (some (.double _)) => false
    | _ => true
def am_st (lv : am_V) (i : Nat) (v : Value) (k : am_V → am_O) : am_O := bif am_nw lv i && Nat.blt i lv.length then k (lv.set i (some v)) else none
def am_i1 (st : List Value) (k : Int32 → List Value → am_O) : am_O := match st with
  | .int x :: t => k x t
  | _ => none
def am_i2 (st : List Value) (k : Int32 → Int32 → List Value → am_O) : am_O := match st with
  | .int y :: .int x :: t => k x y t
  | _ => none
def am_l1 (st : List Value) (k : Int64 → List Value → am_O) : am_O := match st with
  | .long x :: t => k x t
  | _ => none
def am_l2 (st : List Value) (k : Int64 → Int64 → List Value → am_O) : am_O := match st with
  | .long y :: .long x :: t => k x y t
  | _ => none
def am_li (st : List Value) (k : Int64 → Int32 → List Value → am_O) : am_O := match st with
  | .int y :: .long x :: t => k x y t
  | _ => none
def am_r1 (st : List Value) (k : Nat → List Value → am_O) : am_O := match st with
  | .ref a :: t => k a t
  | _ => none
def am_ir (st : List Value) (k : Nat → Int32 → List Value → am_O) : am_O := match st with
  | .int i :: .ref a :: t => k a i t
  | _ => none
def am_iir (st : List Value) (k : Nat → Int32 → Int32 → List Value → am_O) : am_O := match st with
  | .int x :: .int i :: .ref a :: t => k a i x t
  | _ => none
def am_vr (st : List Value) (k : Nat → Value → List Value → am_O) : am_O := match st with
  | v :: .ref a :: t => k a v t
  | _ => none
def am_rir (st : List Value) (k : Nat → Int32 → Nat → List Value → am_O) : am_O := match st with
  | .ref b :: .int i :: .ref a :: t => k a i b t
  | _ => none
def am_tys : List (Nat → FieldType) := [tyX0, tyX2, tyX3, tyX4, tyX5, tyX6, tyX7, tyX8, tyX9, tyX10, tyX11, tyX12]
def am_ns : List Nat := [1, 5, 10, 5, 2, 2, 3, 3, 4, 6, 9, 29]
def am_ty (ci k : Nat) : FieldType := match am_tys[ci]? with
  | some f => f k
  | none => .int
/-- which ints a place of a type takes -/
def am_nar (ty : FieldType) (x : Int32) : Bool := match ty with
  | .int => true
  | .byte => decide (x = 0)
  | .boolean => decide (x = 0) || decide (x = 1)
  | _ => false
def am_isr (ty : FieldType) : Bool := match ty with
  | .object _ => true
  | .array _ => true
  | _ => false
def am_blank (ci : Nat) : List (Option Value) := (List.range ((am_ns[ci]?).getD 0)).map fun k => if am_isr (am_ty ci k) then some .null else none
def am_fld (w : am_M) (a ci k : Nat) : Option Value := match w.1[a]? with
  | some (.inl o) => bif Nat.beq o.1 ci then (match o.2[k]? with
    | some none => some (.int (w.2 a k))
    | some (some v) => some v
    | none => none) else none
  | _ => none
def am_put (w : am_M) (a ci k : Nat) (v : Value) (K : am_M → am_O) : am_O := match w.1[a]? with
  | some (.inl o) => bif Nat.beq o.1 ci then (match o.2[k]?, v with
    | some none, .int x => bif am_nar (am_ty ci k) x then K (w.1, am_up w.2 a k x) else none
    | some (some _), .ref b => bif am_isr (am_ty ci k) then K (w.1.set a (.inl (o.1, o.2.set k (some (.ref b)))), w.2) else none
    | _, _ => none) else none
  | _ => none
def am_ald (X : am_X) (w : am_M) (a : Nat) (i : Int32) : Option Int32 := match w.1[a]? with
  | some (.inr (.inl n)) => bif am_in i n then some (w.2 a i.toNatClampNeg) else none
  | some _ => none
  | none => bif Nat.ble 1000 a then (match X a with
    | some q => bif am_in i q.1 then some (q.2 i.toNatClampNeg) else none
    | none => none) else none
def am_ast (w : am_M) (a : Nat) (i x : Int32) (K : am_M → am_O) : am_O := match w.1[a]? with
  | some (.inr (.inl n)) => bif am_in i n then K (w.1, am_up w.2 a i.toNatClampNeg x) else none
  | _ => none
def am_rld (w : am_M) (a : Nat) (i : Int32) : Option Nat := match w.1[a]? with
  | some (.inr (.inr o)) => bif am_in i o.2.length then (match o.2[i.toNatClampNeg]? with
    | some (some b) => some b
    | _ => none) else none
  | _ => none
def am_rst (w : am_M) (a : Nat) (i : Int32) (b : Nat) (K : am_M → am_O) : am_O := match w.1[a]?, w.1[b]? with
  | some (.inr (.inr o)), some (.inl o2) => bif am_in i o.2.length && (Nat.beq o.1 1 && Nat.beq o2.1 6) then K (w.1.set a (.inr (.inr (o.1, o.2.set i.toNatClampNeg (some b)))), w.2) else none
  | _, _ => none
/-- the bytes of the Strings 1000, 1001, 1002 (at 1010 ..) -/
def am_bx (a : Nat) : Option (List Int32) := if a = 1010 then some [] else if a = 1011 then some [116, 100, 119] else if a = 1012 then some [119, 111, 109] else none
def am_bld (a : Nat) (i : Int32) : Option Int32 := match am_bx a with
  | some l => bif am_in i l.length then l[i.toNatClampNeg]? else none
  | none => none
def am_iss (a : Nat) : Bool := Nat.ble 1000 a && Nat.ble a 1002
def am_sfl (a f : Nat) : Option Value := bif am_iss a then some (bif Nat.beq f 0 then .int 0 else .ref (a + 10)) else none
def am_srv (as : List Value) : Bool := match as with
  | .ref b :: _ => am_iss b
  | _ => false
def am_len (X : am_X) (w : am_M) (a : Nat) : Option Nat := match w.1[a]? with
  | some (.inr (.inl n)) => some n
  | some (.inr (.inr o)) => some o.2.length
  | some (.inl _) => none
  | none => match am_bx a with
    | some l => some l.length
    | none => bif Nat.ble 1000 a then (match X a with
      | some q => some q.1
      | none => none) else none
def am_acp (w : am_M) (a b : Nat) (sp dp n : Int32) (K : am_M → am_O) : am_O := match w.1[a]?, w.1[b]? with
  | some (.inr (.inl na)), some (.inr (.inl nb)) => bif (!decide (sp < 0) && (!decide (dp < 0) && !decide (n < 0))) && (Nat.ble (sp.toNatClampNeg + n.toNatClampNeg) na && Nat.ble (dp.toNatClampNeg + n.toNatClampNeg) nb) then K (w.1, am_cpy w.2 a b sp.toNatClampNeg dp.toNatClampNeg n.toNatClampNeg) else none
  | _, _ => none
def am_cat (st : List Value) : Bool := Nat.ble ((st.map fun v => v.category).sum) 8
/-- a call: what its parameters are, what is below; the receiver's class -/
def am_cal (C : Nat → List Value → am_M → am_O) (rc : Bool) (t na ci : Nat) (st : List Value) (w : am_M) (K : List Value → am_M → am_O) : am_O :=
  bif Nat.ble na st.length && am_cat (st.drop na) then
    (bif (bif rc then (match ((st.take na).reverse).head? with
      | some (.ref b) => (match w.1[b]? with
        | some (.inl o) => Nat.beq o.1 ci
        | _ => false)
      | _ => false) else true) then
      (match C t ((st.take na).reverse) w with
      | some o => K (o.1.toList ++ st.drop na) o.2
      | none => none) else none) else none
def am_isp (st : List Value) : Bool := match st with
  | .ref _ :: _ => true
  | _ => false
def am_jmp (pc : Nat) (off : Int) : Nat := ((pc : Int) + off).toNat
def am_ex (X : am_X) (C : Nat → List Value → am_M → am_O) (rt : Option FieldType) (e : am_e) (k : Nat → am_V → List Value → am_M → am_O) (pc : Nat) (lv : am_V) (st : List Value) (w : am_M) : am_O :=
  match e.1 with
  | .iconst _ => k (pc + 1) lv (.int e.2.2.2 :: st) w
  | .bipush _ => k (pc + 2) lv (.int e.2.2.2 :: st) w
  | .sipush _ => k (pc + 3) lv (.int e.2.2.2 :: st) w
  | .ldc _ => match e.2.2.1 with
    | [_] => none
    | [0, _] => k (pc + 2) lv (.int e.2.2.2 :: st) w
    | [1, q] => k (pc + 2) lv (.ref q :: st) w
    | _ => none
  | .ldc_w _ => k (pc + 3) lv (.int e.2.2.2 :: st) w
  | .ldc2_w _ => match e.2.2.1 with
    | a :: _ => k (pc + 3) lv (.long (Int64.ofNat a) :: st) w
    | _ => none
  | .iload_n j => match am_ld lv j with
    | some (.int x) => k (pc + 1) lv (.int x :: st) w
    | _ => none
  | .iload j => match am_ld lv j with
    | some (.int x) => k (pc + 2) lv (.int x :: st) w
    | _ => none
  | .lload_n j => match am_ld lv j with
    | some (.long x) => k (pc + 1) lv (.long x :: st) w
    | _ => none
  | .aload_n j => match am_ld lv j with
    | some (.ref x) => k (pc + 1) lv (.ref x :: st) w
    | _ => none
  | .aload j => match am_ld lv j with
    | some (.ref x) => k (pc + 2) lv (.ref x :: st) w
    | _ => none
  | .istore_n j => am_i1 st fun x t => am_st lv j (.int x) fun lv => k (pc + 1) lv t w
  | .istore j => am_i1 st fun x t => am_st lv j (.int x) fun lv => k (pc + 2) lv t w
  | .astore_n j => am_r1 st fun x t => am_st lv j (.ref x) fun lv => k (pc + 1) lv t w
  | .astore j => am_r1 st fun x t => am_st lv j (.ref x) fun lv => k (pc + 2) lv t w
  | .iinc j _ => match am_ld lv j with
    | some (.int x) => am_st lv j (.int (x + e.2.2.2)) fun lv => k (pc + 3) lv st w
    | _ => none
  | .iadd => am_i2 st fun x y t => k (pc + 1) lv (.int (x + y) :: t) w
  | .isub => am_i2 st fun x y t => k (pc + 1) lv (.int (x - y) :: t) w
  | .imul => am_i2 st fun x y t => k (pc + 1) lv (.int (x * y) :: t) w
  | .idiv => am_i2 st fun x y t => bif decide (y = 0) then none else k (pc + 1) lv (.int (x / y) :: t) w
  | .irem => am_i2 st fun x y t => bif decide (y = 0) then none else k (pc + 1) lv (.int (x - x / y * y) :: t) w
  | .iand => am_i2 st fun x y t => k (pc + 1) lv (.int (x &&& y) :: t) w
  | .ior => am_i2 st fun x y t => k (pc + 1) lv (.int (x ||| y) :: t) w
  | .ixor => am_i2 st fun x y t => k (pc + 1) lv (.int (x ^^^ y) :: t) w
  | .ineg => am_i1 st fun x t => k (pc + 1) lv (.int (-x) :: t) w
  | .ishl => am_i2 st fun x y t => k (pc + 1) lv (.int (x <<< (y &&& 31)) :: t) w
  | .ishr => am_i2 st fun x y t => k (pc + 1) lv (.int (x >>> (y &&& 31)) :: t) w
  | .iushr => am_i2 st fun x y t => k (pc + 1) lv (.int (x.toUInt32 >>> (y.toUInt32 &&& Int32.toUInt32 31)).toInt32 :: t) w
  | .i2l => am_i1 st fun x t => k (pc + 1) lv (.long x.toInt64 :: t) w
  | .l2i => am_l1 st fun x t => k (pc + 1) lv (.int x.toInt32 :: t) w
  | .i2b => am_i1 st fun x t => k (pc + 1) lv (.int x.toInt8.toInt32 :: t) w
  | .i2s => am_i1 st fun x t => k (pc + 1) lv (.int x.toInt16.toInt32 :: t) w
  | .i2c => am_i1 st fun x t => k (pc + 1) lv (.int (x.toUInt32 % 65536).toInt32 :: t) w
  | .land => am_l2 st fun x y t => k (pc + 1) lv (.long (x &&& y) :: t) w
  | .lor => am_l2 st fun x y t => k (pc + 1) lv (.long (x ||| y) :: t) w
  | .lshl => am_li st fun x y t => k (pc + 1) lv (.long (x <<< (y.toInt64 &&& 63)) :: t) w
  | .lshr => am_li st fun x y t => k (pc + 1) lv (.long (x >>> (y.toInt64 &&& 63)) :: t) w
  | .lushr => am_li st fun x y t => k (pc + 1) lv (.long (x.toUInt64 >>> (y.toInt64.toUInt64 &&& Int64.toUInt64 63)).toInt64 :: t) w
  | .dup => match st with
    | .int x :: t => k (pc + 1) lv (.int x :: .int x :: t) w
    | .ref x :: t => k (pc + 1) lv (.ref x :: .ref x :: t) w
    | _ => none
  | .pop => match st with
    | .int _ :: t => k (pc + 1) lv t w
    | .ref _ :: t => k (pc + 1) lv t w
    | _ => none
  | .dup2 => am_ir st fun a i t => k (pc + 1) lv (.int i :: .ref a :: .int i :: .ref a :: t) w
  | .ifCond c _ => am_i1 st fun x t => match e.2.2.1 with
    | [tgt] => (match c with
      | .eq => bif decide (x = 0) then k tgt lv t w else k (pc + 3) lv t w
      | .ne => bif decide (x = 0) then k (pc + 3) lv t w else k tgt lv t w
      | .lt => bif decide (x < 0) then k tgt lv t w else k (pc + 3) lv t w
      | .ge => bif decide (x < 0) then k (pc + 3) lv t w else k tgt lv t w
      | .gt => bif decide (x ≤ 0) then k (pc + 3) lv t w else k tgt lv t w
      | .le => bif decide (x ≤ 0) then k tgt lv t w else k (pc + 3) lv t w)
    | _ => none
  | .if_icmp c _ => am_i2 st fun x y t => match e.2.2.1 with
    | [tgt] => (match c with
      | .eq => bif decide (x = y) then k tgt lv t w else k (pc + 3) lv t w
      | .ne => bif decide (x = y) then k (pc + 3) lv t w else k tgt lv t w
      | .lt => bif decide (x < y) then k tgt lv t w else k (pc + 3) lv t w
      | .ge => bif decide (x < y) then k (pc + 3) lv t w else k tgt lv t w
      | .gt => bif decide (x ≤ y) then k (pc + 3) lv t w else k tgt lv t w
      | .le => bif decide (x ≤ y) then k tgt lv t w else k (pc + 3) lv t w)
    | _ => none
  | .goto _ => match e.2.2.1 with
    | [tgt] => k tgt lv st w
    | _ => none
  | .tableswitch d lo hi offs => am_i1 st fun x t => bif decide (x.toInt < lo) || decide (hi < x.toInt) then k (am_jmp pc d) lv t w else (match offs[(x.toInt - lo).toNat]? with
    | some off => k (am_jmp pc off) lv t w
    | none => none)
  | .lookupswitch d ps => am_i1 st fun x t => k (am_jmp pc (Op.lookupswitch.offset ps.toList d x.toInt)) lv t w
  | .getfield _ => am_r1 st fun a t => match e.2.2.1 with
    | ci :: f :: _ :: _ => (match am_fld w a ci f with
      | some v => k (pc + 3) lv (v :: t) w
      | none => none)
    | [f, _] => (match am_sfl a f with
      | some v => k (pc + 3) lv (v :: t) w
      | none => none)
    | _ => none
  | .putfield _ => am_vr st fun a v t => match e.2.2.1 with
    | ci :: f :: _ => am_put w a ci f v fun w => k (pc + 3) lv t w
    | _ => none
  | .getstatic _ => match e.2.2.1 with
    | [q, _] => k (pc + 3) lv (.ref q :: st) w
    | [_, _, _] => k (pc + 3) lv (.int 1 :: st) w
    | _ => none
  | .iaload => am_ir st fun a i t => match am_ald X w a i with
    | some x => k (pc + 1) lv (.int x :: t) w
    | none => none
  | .baload => am_ir st fun a i t => match am_bld a i with
    | some x => k (pc + 1) lv (.int x :: t) w
    | none => none
  | .iastore => am_iir st fun a i x t => am_ast w a i x fun w => k (pc + 1) lv t w
  | .aaload => am_ir st fun a i t => match am_rld w a i with
    | some b => k (pc + 1) lv (.ref b :: t) w
    | none => none
  | .aastore => am_rir st fun a i b t => am_rst w a i b fun w => k (pc + 1) lv t w
  | .arraylength => am_r1 st fun a t => match am_len X w a with
    | some n => k (pc + 1) lv (.int (Int32.ofNat n) :: t) w
    | none => none
  | .new _ => match e.2.2.1 with
    | ci :: _ => bif Nat.blt w.1.length 900 then k (pc + 3) lv (.ref w.1.length :: st) (w.1 ++ [.inl (ci, am_blank ci)], am_z w.2 w.1.length) else none
    | _ => none
  | .newarray _ => am_i1 st fun n t => bif Nat.blt w.1.length 900 && am_in n 1000 then k (pc + 2) lv (.ref w.1.length :: t) (w.1 ++ [.inr (.inl n.toNatClampNeg)], am_z w.2 w.1.length) else none
  | .anewarray _ => am_i1 st fun n t => bif Nat.blt w.1.length 900 && am_in n 1000 then k (pc + 3) lv (.ref w.1.length :: t) (w.1 ++ [.inr (.inr (1, List.replicate n.toNatClampNeg none))], am_z w.2 w.1.length) else none
  | .multianewarray _ _ => am_i2 st fun n m t => bif Nat.blt w.1.length 900 && (am_in n 20 && am_in m 1000) then k (pc + 4) lv (.ref w.1.length :: t) (w.1 ++ (.inr (.inr (0, (List.range n.toNatClampNeg).map fun i => some (w.1.length + 1 + i))) :: List.replicate n.toNatClampNeg (.inr (.inl m.toNatClampNeg))), am_z w.2 w.1.length) else none
  | .invokevirtual _ => match e.2.2.1 with
    | 0 :: t :: na :: ci :: _ => am_cal C true t na ci st w fun st w => k (pc + 3) lv st w
    | 9 :: t :: na :: _ :: _ => bif am_srv ((st.take na).reverse) then (am_cal C false t na 0 st w fun st w => k (pc + 3) lv st w) else none
    | _ => none
  | .invokestatic _ => match e.2.2.1 with
    | 1 :: t :: na :: _ => am_cal C false t na 0 st w fun st w => k (pc + 3) lv st w
    | 4 :: _ => (match st with
      | .int n :: .int dp :: .ref b :: .int sp :: .ref a :: t => bif am_cat t then am_acp w a b sp dp n fun w => k (pc + 3) lv t w else none
      | _ => none)
    | 6 :: _ => am_i2 st fun x y t => bif am_cat t then k (pc + 3) lv (.int (if x < y then y else x) :: t) w else none
    | 7 :: _ => am_i2 st fun x y t => bif am_cat t then k (pc + 3) lv (.int (if y < x then y else x) :: t) w else none
    | 8 :: _ => am_i1 st fun x t => bif am_cat t then k (pc + 3) lv (.int (if 0 ≤ x then x else 0 - x) :: t) w else none
    | _ => none
  | .invokespecial _ => match e.2.2.1 with
    | 2 :: t :: na :: _ => bif am_isp ((st.take na).reverse) then (am_cal C false t na 0 st w fun st w => k (pc + 3) lv st w) else none
    | 3 :: t :: na :: _ => bif am_isp ((st.take na).reverse) then (am_cal C false t na 0 st w fun st w => k (pc + 3) lv st w) else none
    | 5 :: _ => am_r1 st fun _ t => bif am_cat t then k (pc + 3) lv t w else none
    | _ => none
  | .ireturn => match st, rt with
    | [.int v], some ty => bif am_nar ty v then some (some (.int v), w) else none
    | _, _ => none
  | .areturn => match st, rt with
    | [.ref a], some ty => bif am_isr ty then some (some (.ref a), w) else none
    | _, _ => none
  | .return_ => match st, rt with
    | [], none => some (none, w)
    | _, _ => none
  | _ => none
def am_run (X : am_X) (C : Nat → List Value → am_M → am_O) (rt : Option FieldType) (ins : Nat → Option am_e) : Nat → Nat → am_V → List Value → am_M → am_O
  | 0, _, _, _, _ => none
  | n + 1, pc, lv, st, w => match ins pc with
    | some e => am_ex X C rt e (am_run X C rt ins n) pc lv st w
    | none => none
/-- the parameters as locals -/
def am_lay : List Value → am_V
  | [] => []
  | .long x :: t => some (.long x) :: none :: am_lay t
  | .double x :: t => some (.double x) :: none :: am_lay t
  | v :: t => some v :: am_lay t
def am_ent (nL : Nat) (args : List Value) : am_V := am_lay args ++ List.replicate (nL - (am_lay args).length) none
noncomputable def am_call (X : am_X) (F : Nat) : Nat → Nat → List Value → am_M → am_O
  | 0, _, _, _ => none
  | d + 1, m, args, w => match am_mt[m]? with
    | some M => bif Nat.ble (am_lay args).length M.2.2.1 then am_run X (am_call X F d) M.2.2.2.1 M.2.2.2.2.2.2.2.2 F 0 (am_ent M.2.2.1 args) [] w else none
    | none => none
