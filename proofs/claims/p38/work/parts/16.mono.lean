/-! a step goes to one place, whatever comes behind it; and it is the same where more is known of the calls and of what lies outside -/
theorem am_bt {α : Type} {c : Bool} {a b : α} (h : c = true) : (bif c then a else b) = a := by rw [h]; rfl
theorem am_bf {α : Type} {c : Bool} {a b : α} (h : c = false) : (bif c then a else b) = b := by rw [h]; rfl
theorem am_put_st {w : am_M} {a ci f : Nat} {v : Value} {K : am_M → am_O} {o : Option Value × am_M} (h : am_put w a ci f v K = some o) : ∃ w1, K w1 = some o ∧ ∀ K', am_put w a ci f v K' = K' w1 := by
  unfold am_put at h
  split at h
  · rename_i z hz
    obtain ⟨h1, h⟩ := am_bif0 h
    split at h
    · rename_i hf _
      obtain ⟨h2, h⟩ := am_bif0 h
      exact ⟨_, h, fun K' => by unfold am_put; rw [hz]; simp only [h1, h2, hf, cond_true]⟩
    · rename_i hf _
      obtain ⟨h2, h⟩ := am_bif0 h
      exact ⟨_, h, fun K' => by unfold am_put; rw [hz]; simp only [h1, h2, hf, cond_true]⟩
    · cases h
  · cases h
theorem am_ast_st {w : am_M} {a : Nat} {i x : Int32} {K : am_M → am_O} {o : Option Value × am_M} (h : am_ast w a i x K = some o) : ∃ w1, K w1 = some o ∧ ∀ K', am_ast w a i x K' = K' w1 := by
  unfold am_ast at h
  split at h
  · rename_i n hz
    obtain ⟨h1, h⟩ := am_bif0 h
    exact ⟨_, h, fun K' => by unfold am_ast; rw [hz]; simp only [h1, cond_true]⟩
  · cases h
theorem am_rst_st {w : am_M} {a b : Nat} {i : Int32} {K : am_M → am_O} {o : Option Value × am_M} (h : am_rst w a i b K = some o) : ∃ w1, K w1 = some o ∧ ∀ K', am_rst w a i b K' = K' w1 := by
  unfold am_rst at h
  split at h
  · rename_i z z2 hz hz2
    obtain ⟨h1, h⟩ := am_bif0 h
    exact ⟨_, h, fun K' => by unfold am_rst; rw [hz, hz2]; simp only [h1, cond_true]⟩
  · cases h
theorem am_acp_st {w : am_M} {a b : Nat} {i j n : Int32} {K : am_M → am_O} {o : Option Value × am_M} (h : am_acp w a b i j n K = some o) : ∃ w1, K w1 = some o ∧ ∀ K', am_acp w a b i j n K' = K' w1 := by
  unfold am_acp at h
  split at h
  · rename_i z z2 hz hz2
    obtain ⟨h1, h⟩ := am_bif0 h
    exact ⟨_, h, fun K' => by unfold am_acp; rw [hz, hz2]; simp only [h1, cond_true]⟩
  · cases h
theorem am_st_st {lv : am_V} {i : Nat} {v : Value} {K : am_V → am_O} {o : Option Value × am_M} (h : am_st lv i v K = some o) : ∃ lv1, K lv1 = some o ∧ ∀ K', am_st lv i v K' = K' lv1 := by
  unfold am_st at h
  obtain ⟨h1, h⟩ := am_bif0 h
  exact ⟨_, h, fun K' => am_bt h1⟩
theorem am_ald_X {X X' : am_X} (hX : ∀ i q, X i = some q → X' i = some q) {w : am_M} {a : Nat} {i v : Int32} (h : am_ald X w a i = some v) : am_ald X' w a i = some v := by
  unfold am_ald at h ⊢
  split at h
  · exact h
  · cases h
  · rename_i hz
    cases h1 : Nat.ble 1000 a with
    | false => rw [h1] at h; cases h
    | true =>
      rw [h1] at h
      simp only [cond_true] at h ⊢
      cases hq : X a with
      | none => rw [hq] at h; cases h
      | some q => rw [hX a q hq]; rw [hq] at h; exact h
theorem am_len_X {X X' : am_X} (hX : ∀ i q, X i = some q → X' i = some q) {w : am_M} {a n : Nat} (h : am_len X w a = some n) : am_len X' w a = some n := by
  unfold am_len at h ⊢
  split at h
  · exact h
  · exact h
  · cases h
  · rename_i hz
    cases hbx : am_bx a with
    | some l => rw [hbx] at h; exact h
    | none =>
    rw [hbx] at h
    simp only at h ⊢
    cases h1 : Nat.ble 1000 a with
    | false => rw [h1] at h; cases h
    | true =>
      rw [h1] at h
      simp only [cond_true] at h ⊢
      cases hq : X a with
      | none => rw [hq] at h; cases h
      | some q => rw [hX a q hq]; rw [hq] at h; exact h
theorem am_cal_st {C C' : Nat → List Value → am_M → am_O} (hC : ∀ t as w o, C t as w = some o → C' t as w = some o) {rc : Bool} {t na ci : Nat} {st : List Value} {w : am_M} {K : List Value → am_M → am_O} {o : Option Value × am_M} (h : am_cal C rc t na ci st w K = some o) : ∃ st1 w1, K st1 w1 = some o ∧ ∀ K', am_cal C' rc t na ci st w K' = K' st1 w1 := by
  unfold am_cal at h
  obtain ⟨h1, h⟩ := am_bif0 h
  obtain ⟨h2, h⟩ := am_bif0 h
  split at h
  · rename_i o1 ho
    exact ⟨_, _, h, fun K' => by
      unfold am_cal
      rw [am_bt h1, am_bt h2, hC _ _ _ _ ho]⟩
  · cases h
theorem am_ex_step {X X' : am_X} {C C' : Nat → List Value → am_M → am_O} {rt : Option FieldType} {e : am_e} {k : Nat → am_V → List Value → am_M → am_O} {pc : Nat} {lv : am_V} {st : List Value} {w : am_M} {o : Option Value × am_M} (hX : ∀ i q, X i = some q → X' i = some q) (hC : ∀ t as w o, C t as w = some o → C' t as w = some o) (h : am_ex X C rt e k pc lv st w = some o) :
    (∃ pc1 lv1 st1 w1, k pc1 lv1 st1 w1 = some o ∧ ∀ k', am_ex X' C' rt e k' pc lv st w = k' pc1 lv1 st1 w1) ∨ (∀ k', am_ex X' C' rt e k' pc lv st w = some o) := by
  obtain ⟨i, n, ax, v⟩ := e
  have one : ∀ {pc1 lv1 st1 w1}, k pc1 lv1 st1 w1 = some o → (∀ k', am_ex X' C' rt (i, n, ax, v) k' pc lv st w = k' pc1 lv1 st1 w1) → (∃ pc1 lv1 st1 w1, k pc1 lv1 st1 w1 = some o ∧ ∀ k', am_ex X' C' rt (i, n, ax, v) k' pc lv st w = k' pc1 lv1 st1 w1) ∨ (∀ k', am_ex X' C' rt (i, n, ax, v) k' pc lv st w = some o) := fun h h2 => Or.inl ⟨_, _, _, _, h, h2⟩
  cases i with
  | iconst _ | bipush _ | sipush _ | ldc_w _ => exact one h fun _ => rfl
  | ldc _ =>
    simp only [am_ex] at h
    split at h <;> first | exact one h fun _ => rfl | cases h
  | ldc2_w _ | getstatic _ | goto _ =>
    simp only [am_ex] at h
    split at h <;> first | exact one h fun _ => rfl | cases h
  | iload_n _ | iload _ | lload_n _ | aload_n _ | aload _ =>
    simp only [am_ex] at h
    split at h
    · rename_i z hz
      exact one h fun k' => by simp only [am_ex, hz]
    · cases h
  | istore_n _ | istore _ =>
    replace h := am_i1_some h
    obtain ⟨x, t, rfl, h⟩ := h
    obtain ⟨_, h, h2⟩ := am_st_st h
    exact one h fun k' => h2 (fun lv => k' _ lv t w)
  | astore_n _ | astore _ =>
    replace h := am_r1_some h
    obtain ⟨x, t, rfl, h⟩ := h
    obtain ⟨_, h, h2⟩ := am_st_st h
    exact one h fun k' => h2 (fun lv => k' _ lv t w)
  | iinc _ _ =>
    simp only [am_ex] at h
    split at h
    · rename_i z hz
      obtain ⟨_, h, h2⟩ := am_st_st h
      exact one h fun k' => by
        simp only [am_ex, hz]
        exact h2 (fun lv => k' _ lv st w)
    · cases h
  | iadd | isub | imul | iand | ior | ixor | ishl | ishr | iushr =>
    replace h := am_i2_some h
    obtain ⟨x, y, t, rfl, h⟩ := h
    exact one h fun _ => rfl
  | idiv | irem =>
    replace h := am_i2_some h
    obtain ⟨x, y, t, rfl, h⟩ := h
    rcases am_bif h with ⟨-, h⟩ | ⟨h1, h⟩
    · cases h
    · exact one h fun k' => by
        simp only [am_ex, am_i2]
        exact am_bf h1
  | ineg | i2l | i2b | i2s | i2c =>
    replace h := am_i1_some h
    obtain ⟨x, t, rfl, h⟩ := h
    exact one h fun _ => rfl
  | l2i =>
    replace h := am_l1_some h
    obtain ⟨x, t, rfl, h⟩ := h
    exact one h fun _ => rfl
  | land | lor =>
    replace h := am_l2_some h
    obtain ⟨x, y, t, rfl, h⟩ := h
    exact one h fun _ => rfl
  | lshl | lshr | lushr =>
    replace h := am_li_some h
    obtain ⟨x, y, t, rfl, h⟩ := h
    exact one h fun _ => rfl
  | dup =>
    simp only [am_ex] at h
    split at h <;> first | exact one h fun _ => rfl | cases h
  | pop =>
    simp only [am_ex] at h
    split at h <;> first | exact one h fun _ => rfl | cases h
  | baload =>
    replace h := am_ir_some h
    obtain ⟨a, j, t, rfl, h⟩ := h
    try simp only at h
    split at h
    · rename_i z hz
      exact one h fun k' => by simp only [am_ex, am_ir, hz]
    · cases h
  | dup2 =>
    replace h := am_ir_some h
    obtain ⟨a, j, t, rfl, h⟩ := h
    exact one h fun _ => rfl
  | ifCond cd _ =>
    replace h := am_i1_some h
    obtain ⟨x, t, rfl, h⟩ := h
    try simp only at h
    split at h
    · cases cd <;> (rcases am_bif h with ⟨h1, h⟩ | ⟨h1, h⟩) <;> exact one h fun k' => by
        simp only [am_ex, am_i1]
        first | exact am_bt h1 | exact am_bf h1
    · cases h
  | if_icmp cd _ =>
    replace h := am_i2_some h
    obtain ⟨x, y, t, rfl, h⟩ := h
    try simp only at h
    split at h
    · cases cd <;> (rcases am_bif h with ⟨h1, h⟩ | ⟨h1, h⟩) <;> exact one h fun k' => by
        simp only [am_ex, am_i2]
        first | exact am_bt h1 | exact am_bf h1
    · cases h
  | tableswitch _ _ _ _ =>
    replace h := am_i1_some h
    obtain ⟨x, t, rfl, h⟩ := h
    rcases am_bif h with ⟨h1, h⟩ | ⟨h1, h⟩
    · exact one h fun k' => by
        simp only [am_ex, am_i1]
        exact am_bt h1
    · split at h
      · rename_i off hoff
        exact one h fun k' => by
          simp only [am_ex, am_i1]
          rw [am_bf h1, hoff]
      · cases h
  | lookupswitch _ _ =>
    replace h := am_i1_some h
    obtain ⟨x, t, rfl, h⟩ := h
    exact one h fun _ => rfl
  | getfield _ =>
    replace h := am_r1_some h
    obtain ⟨a, t, rfl, h⟩ := h
    try simp only at h
    split at h
    · split at h
      · rename_i z hz
        exact one h fun k' => by simp only [am_ex, am_r1, hz]
      · cases h
    · split at h
      · rename_i z hz
        exact one h fun k' => by simp only [am_ex, am_r1, hz]
      · cases h
    · cases h
  | putfield _ =>
    replace h := am_vr_some h
    obtain ⟨a, u, t, rfl, h⟩ := h
    try simp only at h
    split at h
    · obtain ⟨w1, h, h2⟩ := am_put_st h
      exact one h fun k' => h2 (fun w => k' _ lv t w)
    · cases h
  | iaload =>
    replace h := am_ir_some h
    obtain ⟨a, j, t, rfl, h⟩ := h
    try simp only at h
    split at h
    · rename_i z hz
      exact one h fun k' => by simp only [am_ex, am_ir, am_ald_X hX hz]
    · cases h
  | aaload =>
    replace h := am_ir_some h
    obtain ⟨a, j, t, rfl, h⟩ := h
    try simp only at h
    split at h
    · rename_i z hz
      exact one h fun k' => by simp only [am_ex, am_ir, hz]
    · cases h
  | iastore =>
    replace h := am_iir_some h
    obtain ⟨a, j, x, t, rfl, h⟩ := h
    obtain ⟨w1, h, h2⟩ := am_ast_st h
    exact one h fun k' => h2 (fun w => k' _ lv t w)
  | aastore =>
    replace h := am_rir_some h
    obtain ⟨a, j, b, t, rfl, h⟩ := h
    obtain ⟨w1, h, h2⟩ := am_rst_st h
    exact one h fun k' => h2 (fun w => k' _ lv t w)
  | arraylength =>
    replace h := am_r1_some h
    obtain ⟨a, t, rfl, h⟩ := h
    try simp only at h
    split at h
    · rename_i z hz
      exact one h fun k' => by simp only [am_ex, am_r1, am_len_X hX hz]
    · cases h
  | new _ =>
    simp only [am_ex] at h
    split at h
    · obtain ⟨h1, h⟩ := am_bif0 h
      exact one h fun k' => am_bt h1
    · cases h
  | newarray _ | anewarray _ =>
    replace h := am_i1_some h
    obtain ⟨x, t, rfl, h⟩ := h
    obtain ⟨h1, h⟩ := am_bif0 h
    exact one h fun k' => am_bt h1
  | multianewarray _ _ =>
    replace h := am_i2_some h
    obtain ⟨x, y, t, rfl, h⟩ := h
    obtain ⟨h1, h⟩ := am_bif0 h
    exact one h fun k' => am_bt h1
  | invokevirtual _ =>
    simp only [am_ex] at h
    split at h
    · obtain ⟨_, _, h, h2⟩ := am_cal_st hC h
      exact one h fun k' => h2 (fun st w => k' _ lv st w)
    · obtain ⟨h1, h⟩ := am_bif0 h
      obtain ⟨_, _, h, h2⟩ := am_cal_st hC h
      exact one h fun k' => by
        simp only [am_ex]
        rw [am_bt h1]
        exact h2 (fun st w => k' _ lv st w)
    · cases h
  | invokestatic _ =>
    simp only [am_ex] at h
    split at h
    · obtain ⟨_, _, h, h2⟩ := am_cal_st hC h
      exact one h fun k' => h2 (fun st w => k' _ lv st w)
    · split at h
      · obtain ⟨h1, h⟩ := am_bif0 h
        obtain ⟨w1, h, h2⟩ := am_acp_st h
        exact one h fun k' => by
          simp only [am_ex]
          rw [am_bt h1]
          exact h2 (fun w => k' _ lv _ w)
      · cases h
    · replace h := am_i2_some h
      obtain ⟨x, y, t, rfl, h⟩ := h
      obtain ⟨h1, h⟩ := am_bif0 h
      exact one h fun k' => by
        simp only [am_ex, am_i2]
        exact am_bt h1
    · replace h := am_i2_some h
      obtain ⟨x, y, t, rfl, h⟩ := h
      obtain ⟨h1, h⟩ := am_bif0 h
      exact one h fun k' => by
        simp only [am_ex, am_i2]
        exact am_bt h1
    · replace h := am_i1_some h
      obtain ⟨x, t, rfl, h⟩ := h
      obtain ⟨h1, h⟩ := am_bif0 h
      exact one h fun k' => by
        simp only [am_ex, am_i1]
        exact am_bt h1
    · cases h
  | invokespecial _ =>
    simp only [am_ex] at h
    split at h
    · obtain ⟨h1, h⟩ := am_bif0 h
      obtain ⟨_, _, h, h2⟩ := am_cal_st hC h
      exact one h fun k' => by
        simp only [am_ex]
        rw [am_bt h1]
        exact h2 (fun st w => k' _ lv st w)
    · obtain ⟨h1, h⟩ := am_bif0 h
      obtain ⟨_, _, h, h2⟩ := am_cal_st hC h
      exact one h fun k' => by
        simp only [am_ex]
        rw [am_bt h1]
        exact h2 (fun st w => k' _ lv st w)
    · replace h := am_r1_some h
      obtain ⟨x, t, rfl, h⟩ := h
      obtain ⟨h1, h⟩ := am_bif0 h
      exact one h fun k' => by
        simp only [am_ex, am_r1]
        exact am_bt h1
    · cases h
  | ireturn =>
    simp only [am_ex] at h
    split at h
    · obtain ⟨h1, h⟩ := am_bif0 h
      exact Or.inr fun k' => by
        simp only [am_ex]
        rw [am_bt h1]
        exact h
    · cases h
  | areturn =>
    simp only [am_ex] at h
    split at h
    · obtain ⟨h1, h⟩ := am_bif0 h
      exact Or.inr fun k' => by
        simp only [am_ex]
        rw [am_bt h1]
        exact h
    · cases h
  | return_ =>
    simp only [am_ex] at h
    split at h
    · exact Or.inr fun k' => h
    · cases h
  | _ => cases h
theorem am_run_mono {X X' : am_X} {C C' : Nat → List Value → am_M → am_O} {rt : Option FieldType} {ins : Nat → Option am_e} (hX : ∀ i q, X i = some q → X' i = some q) (hC : ∀ t as w o, C t as w = some o → C' t as w = some o) : ∀ (n m pc : Nat) (lv : am_V) (st : List Value) (w : am_M) (o : Option Value × am_M), n ≤ m → am_run X C rt ins n pc lv st w = some o → am_run X' C' rt ins m pc lv st w = some o
  | 0, _, _, _, _, _, _, _, h => by cases h
  | n + 1, 0, _, _, _, _, _, hl, _ => absurd hl (by omega)
  | n + 1, m + 1, pc, lv, st, w, o, hl, h => by
    unfold am_run at h ⊢
    split at h
    · rename_i en hen
      rcases am_ex_step hX hC h with ⟨pc1, lv1, st1, w1, h1, h2⟩ | h2
      · rw [h2]
        exact am_run_mono hX hC n m _ _ _ _ _ (by omega) h1
      · exact h2 _
    · cases h
