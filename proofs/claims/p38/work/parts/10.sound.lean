/-- what lies outside the world -/
def am_Ext (B : Nat) (x : Nat → Nat) (X : am_X) (U : State) : Prop :=
  (∀ i q, X i = some q → am_XA (x i) q U U.heap ∧ x i < B) ∧ (∀ z ∈ am_nest, ∀ M, am_mt[z.2.2]? = some M → va_Nw (.methodLinkNest z.1 z.2.1 M.1 "WellRefuses") U) ∧ (∀ i z, am_str[i]? = some z → vk_R z.1 z.2.1 z.2.2 (x (1000 + i)) U) ∧ va_Z "WellRefuses$Kinds" "ABOVE" "[I" (.ref (x 1004)) (fun q => B ≤ q) U U.heap ∧ (Cond.arrayOver (.object "WellRefuses$Sheet")).before #[] U = true ∧ (Cond.arrayOver (.array .int)).before #[] U = true ∧ vk_S 3 am_sl3 am_sb3 (fun i => x (1000 + i)) (fun i => x (1010 + i)) (fun q : Nat => B ≤ q) U U.heap ∧ va_Z "java/lang/String" "COMPACT_STRINGS" "Z" (.int 1) (fun q => B ≤ q) U U.heap
theorem am_fi {u U : State} (hvm : u.vm.Alike U.vm) (P : Kind → Bool) : U.vm.classes.findIdx? (fun x : Class => P x.kind) = u.vm.classes.findIdx? (fun x : Class => P x.kind) := by
  have b : ∀ vm : Vm, vm.bare.classes.findIdx? (fun x : Class => P x.kind) = vm.classes.findIdx? (fun x : Class => P x.kind) := fun vm => by
    simp only [Vm.bare, Array.findIdx?_map]
    rfl
  rw [← b U.vm, ← b u.vm, hvm.bare_eq]
def am_pk (comp : ClassId) (kd : Kind) : Bool := match kd with
  | .array component _ => component == comp
  | _ => false
def am_qk (f : Option ClassId) (c : Nat) (kd : Kind) : Bool := match kd with
  | .array _ ty => decide (ty = FieldType.array .int) && decide (f = some c)
  | _ => false
theorem am_AOA {u U : State} (hvm : u.vm.Alike U.vm) (h : (Cond.arrayOver (.array .int)).before #[] u = true) : (Cond.arrayOver (.array .int)).before #[] U = true := by
  have f1 : U.vm.findClass (FieldType.array .int).toString = u.vm.findClass (FieldType.array .int).toString := by rw [hvm.findClass]
  have f2 : U.vm.findClass ("[" ++ (FieldType.array .int).toString) = u.vm.findClass ("[" ++ (FieldType.array .int).toString) := by rw [hvm.findClass]
  unfold Cond.before Cond.holds at h ⊢
  simp only [Cond.value] at h ⊢
  rw [f1, f2]
  cases e1 : u.vm.findClass (FieldType.array .int).toString with
  | none => rw [e1] at h; simp at h
  | some comp =>
    rw [e1, Option.bind_some] at h
    rw [Option.bind_some]
    change (((u.vm.classes.findIdx? fun x : Class => am_pk comp x.kind).bind fun c => (u.vm.classes[c]?).map fun k : Class => am_qk (u.vm.findClass ("[" ++ (FieldType.array .int).toString)) c k.kind) == some true) = true at h
    show (((U.vm.classes.findIdx? fun x : Class => am_pk comp x.kind).bind fun c => (U.vm.classes[c]?).map fun k : Class => am_qk (u.vm.findClass ("[" ++ (FieldType.array .int).toString)) c k.kind) == some true) = true
    rw [am_fi hvm]
    cases e2 : (u.vm.classes.findIdx? fun x : Class => am_pk comp x.kind) with
    | none => rw [e2] at h; simp at h
    | some c =>
      rw [e2, Option.bind_some] at h
      rw [Option.bind_some]
      cases e3 : u.vm.classes[c]? with
      | none => rw [e3] at h; simp at h
      | some k =>
        obtain ⟨k', hk', he⟩ := hvm.2.2 _ _ e3
        rw [e3] at h
        rw [hk']
        have hkk : k'.kind = k.kind := by rw [he]
        simp only [Option.map_some, hkk] at h ⊢
        exact h
theorem am_Ext.to {B : Nat} {x : Nat → Nat} {X : am_X} {s U : State} (h : am_Ext B x X s) (hW : s.WarmedH U.vm) (hz : B ≤ s.heap.size) (hq : ∀ q : Nat, q < B → U.heap[q]? = s.heap[q]?) : am_Ext B x X U := by
  obtain ⟨h1, h2, h3, h4, h5, h6, h7, h8⟩ := h
  refine ⟨fun i q hi => ⟨((h1 i q hi).1.kept (hq _ (h1 i q hi).2)).moved hW.alike, (h1 i q hi).2⟩, fun z hz M hM => va_Nw.warmM hW (h2 z hz M hM), fun i z hz => vk_R.warm hW (h3 i z hz), (h4.kept (fun a _ ha => hq a (Nat.lt_of_not_le ha))).moved hW.alike, va_AO.use (va_AO.moved hW.alike (va_AO.of h5)), am_AOA hW.alike h6, (h7.kept (fun a _ ha => hq a (Nat.lt_of_not_le ha))).moved hW.alike, (h8.kept (fun a _ ha => hq a (Nat.lt_of_not_le ha))).moved hW.alike⟩
def am_room (dp mc ms : Nat) : Room := { frames := dp + 1, cells := mc, slots := ms, locals := (dp + 1) * 60 }
def am_wsm (M : am_m) : List Cond := Cond.code M.1 M.2.1 M.2.2.1 M.2.2.2.1 :: am_TB
def am_Pre (B : Nat) (x : Nat → Nat) (dC : Nat → ClassId) (dI : Nat → Nat → Nat) (d : am_D) (X : am_X) (w : am_M) (U : State) : Prop := am_P B x dC dI d w U.heap ∧ va_K (dC, dI) vwCl (am_ts d) U ∧ am_Ext B x X U
def am_Post (B : Nat) (x : Nat → Nat) (dC : Nat → ClassId) (dI : Nat → Nat → Nat) (d : am_D) (o : Option Value × am_M) : Array Value → State → Outcome → State → Prop := fun _ st oc t => (oc = .returned (o.1.map (am_c (am_r B x))) ∧ am_P B x dC dI d o.2 t.heap) ∧ va_F (fun q : Nat => B ≤ q) st t
abbrev am_mc (w : am_M) (o : Option Value × am_M) : Nat := o.2.1.length - w.1.length
abbrev am_ms (w : am_M) (o : Option Value × am_M) : Nat := am_sl o.2.1 - am_sl w.1
def am_Met (l : Launch) (B : Nat) (x : Nat → Nat) (dC : Nat → ClassId) (dI : Nat → Nat → Nat) (d : am_D) (X : am_X) (dp : Nat) (M : am_m) (as : List Value) (w : am_M) (o : Option Value × am_M) : Prop :=
  Met l M.1 (am_wsm M) (am_room dp (am_mc w o) (am_ms w o)) (va_Pc (as.map (am_c (am_r B x))) (am_Pre B x dC dI d X w)) (am_Post B x dC dI d o) (am_mc w o) (am_ms w o) (fun q : Nat => B ≤ q)
/-- more cells, more slots -/
def am_le (w w1 : am_M) : Prop := w.1.length ≤ w1.1.length ∧ am_sl w.1 ≤ am_sl w1.1
theorem am_le.rf (w : am_M) : am_le w w := ⟨Nat.le_refl _, Nat.le_refl _⟩
theorem am_le.tr {a b c : am_M} (h : am_le a b) (h2 : am_le b c) : am_le a c := ⟨Nat.le_trans h.1 h2.1, Nat.le_trans h.2 h2.2⟩
theorem am_i1_some {st : List Value} {K : Int32 → List Value → am_O} {o : Option Value × am_M} (h : am_i1 st K = some o) : ∃ x t, st = .int x :: t ∧ K x t = some o := by
  unfold am_i1 at h
  split at h
  · exact ⟨_, _, rfl, h⟩
  · cases h
theorem am_i2_some {st : List Value} {K : Int32 → Int32 → List Value → am_O} {o : Option Value × am_M} (h : am_i2 st K = some o) : ∃ x y t, st = .int y :: .int x :: t ∧ K x y t = some o := by
  unfold am_i2 at h
  split at h
  · exact ⟨_, _, _, rfl, h⟩
  · cases h
theorem am_l1_some {st : List Value} {K : Int64 → List Value → am_O} {o : Option Value × am_M} (h : am_l1 st K = some o) : ∃ x t, st = .long x :: t ∧ K x t = some o := by
  unfold am_l1 at h
  split at h
  · exact ⟨_, _, rfl, h⟩
  · cases h
theorem am_l2_some {st : List Value} {K : Int64 → Int64 → List Value → am_O} {o : Option Value × am_M} (h : am_l2 st K = some o) : ∃ x y t, st = .long y :: .long x :: t ∧ K x y t = some o := by
  unfold am_l2 at h
  split at h
  · exact ⟨_, _, _, rfl, h⟩
  · cases h
theorem am_li_some {st : List Value} {K : Int64 → Int32 → List Value → am_O} {o : Option Value × am_M} (h : am_li st K = some o) : ∃ x y t, st = .int y :: .long x :: t ∧ K x y t = some o := by
  unfold am_li at h
  split at h
  · exact ⟨_, _, _, rfl, h⟩
  · cases h
theorem am_r1_some {st : List Value} {K : Nat → List Value → am_O} {o : Option Value × am_M} (h : am_r1 st K = some o) : ∃ x t, st = .ref x :: t ∧ K x t = some o := by
  unfold am_r1 at h
  split at h
  · exact ⟨_, _, rfl, h⟩
  · cases h
theorem am_ir_some {st : List Value} {K : Nat → Int32 → List Value → am_O} {o : Option Value × am_M} (h : am_ir st K = some o) : ∃ a i t, st = .int i :: .ref a :: t ∧ K a i t = some o := by
  unfold am_ir at h
  split at h
  · exact ⟨_, _, _, rfl, h⟩
  · cases h
theorem am_iir_some {st : List Value} {K : Nat → Int32 → Int32 → List Value → am_O} {o : Option Value × am_M} (h : am_iir st K = some o) : ∃ a i x t, st = .int x :: .int i :: .ref a :: t ∧ K a i x t = some o := by
  unfold am_iir at h
  split at h
  · exact ⟨_, _, _, _, rfl, h⟩
  · cases h
theorem am_vr_some {st : List Value} {K : Nat → Value → List Value → am_O} {o : Option Value × am_M} (h : am_vr st K = some o) : ∃ a v t, st = v :: .ref a :: t ∧ K a v t = some o := by
  unfold am_vr at h
  split at h
  · exact ⟨_, _, _, rfl, h⟩
  · cases h
theorem am_rir_some {st : List Value} {K : Nat → Int32 → Nat → List Value → am_O} {o : Option Value × am_M} (h : am_rir st K = some o) : ∃ a i b t, st = .ref b :: .int i :: .ref a :: t ∧ K a i b t = some o := by
  unfold am_rir at h
  split at h
  · exact ⟨_, _, _, _, rfl, h⟩
  · cases h
theorem am_bif {c : Bool} {a b : am_O} {o : Option Value × am_M} (h : (bif c then a else b) = some o) : (c = true ∧ a = some o) ∨ (c = false ∧ b = some o) := by
  cases c
  · exact Or.inr ⟨rfl, h⟩
  · exact Or.inl ⟨rfl, h⟩
theorem am_bif0 {c : Bool} {a : am_O} {o : Option Value × am_M} (h : (bif c then a else none) = some o) : c = true ∧ a = some o := by
  cases c
  · cases h
  · exact ⟨rfl, h⟩
theorem am_cal_some {C : Nat → List Value → am_M → am_O} {rc : Bool} {t na ci : Nat} {st : List Value} {w : am_M} {K : List Value → am_M → am_O} {o : Option Value × am_M} (h : am_cal C rc t na ci st w K = some o) :
    na ≤ st.length ∧ am_cat (st.drop na) = true ∧ (rc = true → ∃ b z, ((st.take na).reverse).head? = some (.ref b) ∧ w.1[b]? = some (.inl z) ∧ z.1 = ci) ∧ ∃ o1, C t ((st.take na).reverse) w = some o1 ∧ K (o1.1.toList ++ st.drop na) o1.2 = some o := by
  unfold am_cal at h
  obtain ⟨h1, h⟩ := am_bif0 h
  obtain ⟨h2, h⟩ := am_bif0 h
  simp only [Bool.and_eq_true] at h1
  refine ⟨Nat.le_of_ble_eq_true h1.1, h1.2, fun hrc => ?_, ?_⟩
  · subst hrc
    simp only [cond_true] at h2
    split at h2
    · rename_i b hb
      split at h2
      · rename_i z hz
        exact ⟨b, z, hb, hz, Nat.eq_of_beq_eq_true h2⟩
      · cases h2
    · cases h2
  · split at h
    · rename_i o1 ho
      exact ⟨o1, ho, h⟩
    · cases h
theorem am_put_le {w : am_M} {a ci k : Nat} {v : Value} {K : am_M → am_O} {o : Option Value × am_M} (h : am_put w a ci k v K = some o) : ∃ w1, K w1 = some o ∧ am_le w w1 := by
  unfold am_put at h
  split at h
  · rename_i z hz
    obtain ⟨-, h⟩ := am_bif0 h
    split at h
    · obtain ⟨-, h⟩ := am_bif0 h
      exact ⟨_, h, am_le.rf _⟩
    · obtain ⟨-, h⟩ := am_bif0 h
      exact ⟨_, h, by simp, by rw [am_sl_set _ _ _ _ hz (by simp [am_sz])]; exact Nat.le_refl _⟩
    · cases h
  · cases h
theorem am_ast_le {w : am_M} {a : Nat} {i x : Int32} {K : am_M → am_O} {o : Option Value × am_M} (h : am_ast w a i x K = some o) : ∃ w1, K w1 = some o ∧ am_le w w1 := by
  unfold am_ast at h
  split at h
  · obtain ⟨-, h⟩ := am_bif0 h
    exact ⟨_, h, am_le.rf _⟩
  · cases h
theorem am_rst_le {w : am_M} {a b : Nat} {i : Int32} {K : am_M → am_O} {o : Option Value × am_M} (h : am_rst w a i b K = some o) : ∃ w1, K w1 = some o ∧ am_le w w1 := by
  unfold am_rst at h
  split at h
  · rename_i z _ hz _
    obtain ⟨-, h⟩ := am_bif0 h
    exact ⟨_, h, by simp, by rw [am_sl_set _ _ _ _ hz (by simp [am_sz])]; exact Nat.le_refl _⟩
  · cases h
theorem am_acp_le {w : am_M} {a b : Nat} {i j n : Int32} {K : am_M → am_O} {o : Option Value × am_M} (h : am_acp w a b i j n K = some o) : ∃ w1, K w1 = some o ∧ am_le w w1 := by
  unfold am_acp at h
  split at h
  · obtain ⟨-, h⟩ := am_bif0 h
    exact ⟨_, h, am_le.rf _⟩
  · cases h
theorem am_st_le {lv : am_V} {i : Nat} {v : Value} {K : am_V → am_O} {o : Option Value × am_M} (h : am_st lv i v K = some o) : ∃ lv1, K lv1 = some o := ⟨_, (am_st_some h).2.2⟩
theorem am_app_le (w : am_M) (L : List am_L) (G : am_G) : am_le w (w.1 ++ L, G) := ⟨by simp, by show am_sl w.1 ≤ am_sl (w.1 ++ L); rw [am_sl_app]; omega⟩
/-- a step goes on in a world no smaller, or is the end -/
theorem am_ex_le {X : am_X} {C : Nat → List Value → am_M → am_O} {rt : Option FieldType} {e : am_e} {k : Nat → am_V → List Value → am_M → am_O} {pc : Nat} {lv : am_V} {st : List Value} {w : am_M} {o : Option Value × am_M} (hC : ∀ t as w o, C t as w = some o → am_le w o.2) (h : am_ex X C rt e k pc lv st w = some o) : (∃ pc1 lv1 st1 w1, k pc1 lv1 st1 w1 = some o ∧ am_le w w1) ∨ w = o.2 := by
  obtain ⟨i, n, ax, v⟩ := e
  have one : ∀ {pc1 lv1 st1}, k pc1 lv1 st1 w = some o → (∃ pc1 lv1 st1 w1, k pc1 lv1 st1 w1 = some o ∧ am_le w w1) ∨ w = o.2 := fun h => Or.inl ⟨_, _, _, _, h, am_le.rf _⟩
  have cal : ∀ {rc t na ci st} {K : List Value → am_M → am_O}, am_cal C rc t na ci st w K = some o → (∀ st w1, K st w1 = some o → ∃ pc1 lv1 st1, k pc1 lv1 st1 w1 = some o) → (∃ pc1 lv1 st1 w1, k pc1 lv1 st1 w1 = some o ∧ am_le w w1) ∨ w = o.2 := fun h hK => by
    obtain ⟨-, -, -, o1, h1, h2⟩ := am_cal_some h
    obtain ⟨_, _, _, h3⟩ := hK _ _ h2
    exact Or.inl ⟨_, _, _, _, h3, hC _ _ _ _ h1⟩
  cases i with
  | iconst _ | bipush _ | sipush _ | ldc_w _ => exact one h
  | ldc _ =>
    simp only [am_ex] at h
    split at h <;> first | exact one h | cases h
  | ldc2_w _ | getstatic _ | goto _ =>
    simp only [am_ex] at h
    split at h <;> first | exact one h | cases h
  | iload_n _ | iload _ | lload_n _ | aload_n _ | aload _ =>
    simp only [am_ex] at h
    split at h <;> first | exact one h | cases h
  | istore_n _ | istore _ =>
    obtain ⟨x, t, -, h⟩ := am_i1_some h
    obtain ⟨_, h⟩ := am_st_le h
    exact one h
  | astore_n _ | astore _ =>
    obtain ⟨x, t, -, h⟩ := am_r1_some h
    obtain ⟨_, h⟩ := am_st_le h
    exact one h
  | iinc _ _ =>
    simp only [am_ex] at h
    split at h
    · obtain ⟨_, h⟩ := am_st_le h
      exact one h
    · cases h
  | iadd | isub | imul | iand | ior | ixor | ishl | ishr | iushr =>
    obtain ⟨x, y, t, -, h⟩ := am_i2_some h
    exact one h
  | idiv | irem =>
    obtain ⟨x, y, t, -, h⟩ := am_i2_some h
    rcases am_bif h with ⟨-, h⟩ | ⟨-, h⟩
    · cases h
    · exact one h
  | ineg | i2l | i2b | i2s | i2c =>
    obtain ⟨x, t, -, h⟩ := am_i1_some h
    exact one h
  | l2i =>
    obtain ⟨x, t, -, h⟩ := am_l1_some h
    exact one h
  | land | lor =>
    obtain ⟨x, y, t, -, h⟩ := am_l2_some h
    exact one h
  | lshl | lshr | lushr =>
    obtain ⟨x, y, t, -, h⟩ := am_li_some h
    exact one h
  | dup =>
    simp only [am_ex] at h
    split at h <;> first | exact one h | cases h
  | pop =>
    simp only [am_ex] at h
    split at h <;> first | exact one h | cases h
  | dup2 =>
    obtain ⟨a, j, t, -, h⟩ := am_ir_some h
    exact one h
  | ifCond cd _ =>
    obtain ⟨x, t, -, h⟩ := am_i1_some h
    try simp only at h
    split at h
    · cases cd <;> (rcases am_bif h with ⟨-, h⟩ | ⟨-, h⟩ <;> exact one h)
    · cases h
  | if_icmp cd _ =>
    obtain ⟨x, y, t, -, h⟩ := am_i2_some h
    try simp only at h
    split at h
    · cases cd <;> (rcases am_bif h with ⟨-, h⟩ | ⟨-, h⟩ <;> exact one h)
    · cases h
  | tableswitch _ _ _ _ =>
    obtain ⟨x, t, -, h⟩ := am_i1_some h
    rcases am_bif h with ⟨-, h⟩ | ⟨-, h⟩
    · exact one h
    · split at h <;> first | exact one h | cases h
  | lookupswitch _ _ =>
    obtain ⟨x, t, -, h⟩ := am_i1_some h
    exact one h
  | getfield _ =>
    obtain ⟨a, t, -, h⟩ := am_r1_some h
    try simp only at h
    split at h
    · split at h <;> first | exact one h | cases h
    · split at h <;> first | exact one h | cases h
    · cases h
  | putfield _ =>
    obtain ⟨a, u, t, -, h⟩ := am_vr_some h
    try simp only at h
    split at h
    · obtain ⟨w1, h, hl⟩ := am_put_le h
      exact Or.inl ⟨_, _, _, _, h, hl⟩
    · cases h
  | iaload | aaload | baload =>
    obtain ⟨a, j, t, -, h⟩ := am_ir_some h
    try simp only at h
    split at h <;> first | exact one h | cases h
  | iastore =>
    obtain ⟨a, j, x, t, -, h⟩ := am_iir_some h
    obtain ⟨w1, h, hl⟩ := am_ast_le h
    exact Or.inl ⟨_, _, _, _, h, hl⟩
  | aastore =>
    obtain ⟨a, j, b, t, -, h⟩ := am_rir_some h
    obtain ⟨w1, h, hl⟩ := am_rst_le h
    exact Or.inl ⟨_, _, _, _, h, hl⟩
  | arraylength =>
    obtain ⟨a, t, -, h⟩ := am_r1_some h
    try simp only at h
    split at h <;> first | exact one h | cases h
  | new _ =>
    simp only [am_ex] at h
    split at h
    · obtain ⟨-, h⟩ := am_bif0 h
      exact Or.inl ⟨_, _, _, _, h, am_app_le _ _ _⟩
    · cases h
  | newarray _ | anewarray _ =>
    obtain ⟨x, t, -, h⟩ := am_i1_some h
    obtain ⟨-, h⟩ := am_bif0 h
    exact Or.inl ⟨_, _, _, _, h, am_app_le _ _ _⟩
  | multianewarray _ _ =>
    obtain ⟨x, y, t, -, h⟩ := am_i2_some h
    obtain ⟨-, h⟩ := am_bif0 h
    exact Or.inl ⟨_, _, _, _, h, am_app_le _ _ _⟩
  | invokevirtual _ =>
    simp only [am_ex] at h
    split at h
    · exact cal h fun _ _ h => ⟨_, _, _, h⟩
    · obtain ⟨-, h⟩ := am_bif0 h
      exact cal h fun _ _ h => ⟨_, _, _, h⟩
    · cases h
  | invokestatic _ =>
    simp only [am_ex] at h
    split at h
    · exact cal h fun _ _ h => ⟨_, _, _, h⟩
    · split at h
      · obtain ⟨-, h⟩ := am_bif0 h
        obtain ⟨w1, h, hl⟩ := am_acp_le h
        exact Or.inl ⟨_, _, _, _, h, hl⟩
      · cases h
    · obtain ⟨x, y, t, -, h⟩ := am_i2_some h
      obtain ⟨-, h⟩ := am_bif0 h
      exact one h
    · obtain ⟨x, y, t, -, h⟩ := am_i2_some h
      obtain ⟨-, h⟩ := am_bif0 h
      exact one h
    · obtain ⟨x, t, -, h⟩ := am_i1_some h
      obtain ⟨-, h⟩ := am_bif0 h
      exact one h
    · cases h
  | invokespecial _ =>
    simp only [am_ex] at h
    split at h
    · obtain ⟨-, h⟩ := am_bif0 h
      exact cal h fun _ _ h => ⟨_, _, _, h⟩
    · obtain ⟨-, h⟩ := am_bif0 h
      exact cal h fun _ _ h => ⟨_, _, _, h⟩
    · obtain ⟨x, t, -, h⟩ := am_r1_some h
      obtain ⟨-, h⟩ := am_bif0 h
      exact one h
    · cases h
  | ireturn =>
    simp only [am_ex] at h
    split at h
    · obtain ⟨-, h⟩ := am_bif0 h
      cases h
      exact Or.inr rfl
    · cases h
  | areturn =>
    simp only [am_ex] at h
    split at h
    · obtain ⟨-, h⟩ := am_bif0 h
      cases h
      exact Or.inr rfl
    · cases h
  | return_ =>
    simp only [am_ex] at h
    split at h
    · cases h
      exact Or.inr rfl
    · cases h
  | _ => cases h
theorem am_run_le {X : am_X} {C : Nat → List Value → am_M → am_O} {rt : Option FieldType} {ins : Nat → Option am_e} (hC : ∀ t as w o, C t as w = some o → am_le w o.2) : ∀ (n pc : Nat) (lv : am_V) (st : List Value) (w : am_M) (o : Option Value × am_M), am_run X C rt ins n pc lv st w = some o → am_le w o.2
  | 0, _, _, _, _, _, h => by cases h
  | n + 1, pc, lv, st, w, o, h => by
    unfold am_run at h
    split at h
    · rcases am_ex_le hC h with ⟨pc1, lv1, st1, w1, h1, hl⟩ | h1
      · exact hl.tr (am_run_le hC n _ _ _ _ _ h1)
      · rw [h1]; exact am_le.rf _
    · cases h
theorem am_call_le {X : am_X} {F : Nat} : ∀ (dp t : Nat) (as : List Value) (w : am_M) (o : Option Value × am_M), am_call X F dp t as w = some o → am_le w o.2
  | 0, _, _, _, _, h => by cases h
  | dp + 1, t, as, w, o, h => by
    unfold am_call at h
    split at h
    · obtain ⟨-, h⟩ := am_bif0 h
      exact am_run_le (fun t as w o h => am_call_le dp t as w o h) _ _ _ _ _ _ h
    · cases h
