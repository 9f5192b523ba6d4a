theorem am_lg_cons (a : Value) (l : List Value) : lg_sl (a :: l) = (if a.category = 2 then [Slot.val a, .second] else [.val a]) ++ lg_sl l := rfl
theorem am_lay_len (r : Nat → Nat) : ∀ as : List Value, (lg_sl (as.map (am_c r))).length = (am_lay as).length
  | [] => rfl
  | v :: t => by
    have ih := am_lay_len r t
    rw [List.map_cons, am_lg_cons, List.length_append, ih]
    cases v <;> simp [am_c, Value.category, am_lay] <;> omega
theorem am_lay_fx (r : Nat → Nat) : ∀ (as : List Value) (k : Nat), am_fx k (am_cv r (am_lay as)) = lv_args k (as.map (am_c r))
  | [], k => rfl
  | v :: t, k => by
    cases v <;> simp [am_lay, am_cv, am_fx, lv_args, am_c, Value.category] <;> exact am_lay_fx r t _
theorem am_fx_app : ∀ (a b : am_V) (k : Nat), am_fx k (a ++ b) = am_fx k a ++ am_fx (k + a.length) b
  | [], b, k => by simp [am_fx]
  | none :: t, b, k => by
    simp only [List.cons_append, am_fx, am_fx_app t b (k + 1), List.length_cons]
    rw [show k + 1 + t.length = k + (t.length + 1) by omega]
  | some v :: t, b, k => by
    simp only [List.cons_append, am_fx, am_fx_app t b (k + 1), List.length_cons]
    rw [show k + 1 + t.length = k + (t.length + 1) by omega]
theorem am_fx_none : ∀ (n k : Nat), am_fx k (List.replicate n none) = []
  | 0, _ => rfl
  | n + 1, k => by rw [List.replicate_succ, am_fx, am_fx_none n (k + 1)]
theorem am_ent_len {nL : Nat} {as : List Value} (h : (am_lay as).length ≤ nL) : (am_ent nL as).length = nL := by
  unfold am_ent
  rw [List.length_append, List.length_replicate]
  omega
theorem am_ent_fx (r : Nat → Nat) (nL : Nat) (as : List Value) : am_fx 0 (am_cv r (am_ent nL as)) = lv_args 0 (as.map (am_c r)) := by
  unfold am_ent am_cv
  rw [List.map_append, am_fx_app, List.map_replicate]
  show am_fx 0 (am_cv r (am_lay as)) ++ am_fx _ (List.replicate _ none) = _
  rw [am_fx_none, am_lay_fx, List.append_nil]
section AMW
variable {p : Program} {l : Launch} {e : Env} {R : Room} {s : State} {m : MethodId} {args : Array Value} {below : List Frame} {meth : Method} {c : Code} {Q : State → Prop}
variable {cc : ByteArray} {B : Nat} {x : Nat → Nat} {dC : Nat → ClassId} {dI : Nat → Nat → Nat} {d : am_D} {X : am_X}
set_option maxHeartbeats 1000000 in
/-- A RUN of the machine is a run of the code -/
theorem am_sound_run {C : Nat → List Value → am_M → am_O} {rt : Option FieldType} {y : MethodName} {ins : Nat → Option am_e} {o : Option Value × am_M} {n0 s0 nL : Nat}
    (hx : p.tables.exec = Jvm.exec) (hb : c.code = cc) (hml : c.maxLocals = nL) (hown : s.vm.findClass y.cls = some m.cls) (hnm : y.name = "<init>" → meth.name = "<init>") (hts : ∀ w ∈ am_TB, w.before args s = true)
    (hz : B ≤ s.heap.size) (hE : am_Ext B x X s) (hK : va_K (dC, dI) vwCl (am_ts d) s) (hRf : 1 ≤ R.frames) (hRl : 60 ≤ R.locals) (hRc : o.2.1.length ≤ R.cells + n0) (hRs : am_sl o.2.1 ≤ R.slots + s0)
    (hC : ∀ t as w1 o1, C t as w1 = some o1 → am_le w1 o1.2 ∧ ∃ dp M, am_mt[t]? = some M ∧ dp + 1 + 1 ≤ R.frames ∧ (dp + 1) * 60 + 30 ≤ R.locals ∧ ((!(Nat.beq M.2.2.2.2.2.2.1 0)) = true → am_Met l B x dC dI d X dp M as w1 o1))
    (hins : ∀ pc en, ins pc = some en → am_okE y cc pc en = true)
    (hrI : ∀ pc w H locs cells slots ls v ty, rt = some ty → am_nar ty v = true → o = (some (.int v), w) → decode cc pc = .ok (.ireturn, 1) → am_P B x dC dI d w H → va_S (fun q : Nat => B ≤ q) s.heap H locs → cells + n0 = w.1.length → slots + s0 = am_sl w.1 → W p l e R s m args below meth c H locs cells slots Q (F0 m pc ls [.int v]))
    (hrA : ∀ pc w H locs cells slots ls a ty, rt = some ty → am_isr ty = true → o = (some (.ref a), w) → decode cc pc = .ok (.areturn, 1) → am_P B x dC dI d w H → va_S (fun q : Nat => B ≤ q) s.heap H locs → cells + n0 = w.1.length → slots + s0 = am_sl w.1 → W p l e R s m args below meth c H locs cells slots Q (F0 m pc ls [.ref (am_r B x a)]))
    (hrV : ∀ pc w H locs cells slots ls, rt = none → o = (none, w) → decode cc pc = .ok (.return_, 1) → am_P B x dC dI d w H → va_S (fun q : Nat => B ≤ q) s.heap H locs → cells + n0 = w.1.length → slots + s0 = am_sl w.1 → W p l e R s m args below meth c H locs cells slots Q (F0 m pc ls [])) :
    ∀ (n pc : Nat) (lv : am_V) (st : List Value) (w : am_M) (H : Heap) (locs : List Loc) (cells slots : Nat) (ls : Array Slot), am_run X C rt ins n pc lv st w = some o → am_P B x dC dI d w H → va_S (fun q : Nat => B ≤ q) s.heap H locs → am_H (am_r B x) ls lv → lv.length = nL → cells + n0 = w.1.length → slots + s0 = am_sl w.1 → W p l e R s m args below meth c H locs cells slots Q (F0 m pc ls (st.map (am_c (am_r B x)))) := by
  intro n
  induction n with
  | zero => intro pc lv st w H locs cells slots ls h; cases h
  | succ n ih =>
    intro pc lv st w H locs cells slots ls h hP hS hH hl hc hs
    unfold am_run at h
    split at h
    · rename_i en hen
      exact am_sound_ex (k := am_run X C rt ins n) hx hb (hml.trans hl.symm) hown hnm hts hz hE hK hRf hRl hRc hRs hC
        (fun pc1 lv1 st1 w1 H1 locs1 cells1 slots1 ls1 h1 h2 h3 h4 h5 h6 h7 => ih pc1 lv1 st1 w1 H1 locs1 cells1 slots1 ls1 h1 h2 h3 h4 (h5.trans hl) h6 h7)
        (fun pc1 lv1 st1 w1 h1 => am_run_le (fun t as w o h => (hC t as w o h).1) _ _ _ _ _ _ h1)
        (fun v ty h1 h2 h3 h4 => hrI _ _ _ _ _ _ _ _ _ h1 h2 h3 h4 hP hS hc hs)
        (fun a ty h1 h2 h3 h4 => hrA _ _ _ _ _ _ _ _ _ h1 h2 h3 h4 hP hS hc hs)
        (fun h1 h3 h4 => hrV _ _ _ _ _ _ _ h1 h3 h4 hP hS hc hs)
        (hins _ _ hen) hP hS hH hc hs h
    · cases h
end AMW
/-- the calls at depth D, as a function: what a run of the method answers, if there is one -/
noncomputable def am_CD (X : am_X) : Nat → Nat → List Value → am_M → am_O
  | 0 => fun _ _ _ => none
  | D + 1 => fun t as w => @dite am_O (∃ (o : Option Value × am_M) (n : Nat) (M : am_m), am_mt[t]? = some M ∧ (am_lay as).length ≤ M.2.2.1 ∧ am_run X (am_CD X D) M.2.2.2.1 M.2.2.2.2.2.2.2.2 n 0 (am_ent M.2.2.1 as) [] w = some o) (Classical.propDecidable _) (fun h => some (Classical.choose h)) (fun _ => none)
theorem am_CD_elim {X : am_X} {D t : Nat} {as : List Value} {w : am_M} {o : Option Value × am_M} (h : am_CD X (D + 1) t as w = some o) : ∃ (n : Nat) (M : am_m), am_mt[t]? = some M ∧ (am_lay as).length ≤ M.2.2.1 ∧ am_run X (am_CD X D) M.2.2.2.1 M.2.2.2.2.2.2.2.2 n 0 (am_ent M.2.2.1 as) [] w = some o := by
  unfold am_CD at h
  by_cases hc : ∃ (o : Option Value × am_M) (n : Nat) (M : am_m), am_mt[t]? = some M ∧ (am_lay as).length ≤ M.2.2.1 ∧ am_run X (am_CD X D) M.2.2.2.1 M.2.2.2.2.2.2.2.2 n 0 (am_ent M.2.2.1 as) [] w = some o
  · rw [dif_pos hc] at h
    have := Classical.choose_spec hc
    rw [Option.some.inj h] at this
    exact this
  · rw [dif_neg hc] at h
    cases h
theorem am_CD_intro {X : am_X} {D t n : Nat} {as : List Value} {w : am_M} {o : Option Value × am_M} {M : am_m} (hM : am_mt[t]? = some M) (hl : (am_lay as).length ≤ M.2.2.1) (h : am_run X (am_CD X D) M.2.2.2.1 M.2.2.2.2.2.2.2.2 n 0 (am_ent M.2.2.1 as) [] w = some o) : am_CD X (D + 1) t as w = some o := by
  have hc : ∃ (o : Option Value × am_M) (n : Nat) (M : am_m), am_mt[t]? = some M ∧ (am_lay as).length ≤ M.2.2.1 ∧ am_run X (am_CD X D) M.2.2.2.1 M.2.2.2.2.2.2.2.2 n 0 (am_ent M.2.2.1 as) [] w = some o := ⟨o, n, M, hM, hl, h⟩
  unfold am_CD
  rw [dif_pos hc]
  obtain ⟨n2, M2, hM2, hl2, h2⟩ := Classical.choose_spec hc
  have e : M2 = M := Option.some.inj (hM2.symm.trans hM)
  subst e
  have h3 := am_run_mono (fun _ _ h => h) (fun _ _ _ _ h => h) n (max n n2) _ _ _ _ _ (Nat.le_max_left _ _) h
  have h4 := am_run_mono (fun _ _ h => h) (fun _ _ _ _ h => h) n2 (max n n2) _ _ _ _ _ (Nat.le_max_right _ _) h2
  exact h4.symm.trans h3
theorem am_CD_up {X X' : am_X} (hX : ∀ i q, X i = some q → X' i = some q) : ∀ (D D' t : Nat) (as : List Value) (w : am_M) (o : Option Value × am_M), D ≤ D' → am_CD X D t as w = some o → am_CD X' D' t as w = some o
  | 0, _, _, _, _, _, _, h => by cases h
  | D + 1, 0, _, _, _, _, hl, _ => absurd hl (by omega)
  | D + 1, D' + 1, t, as, w, o, hl, h => by
    obtain ⟨n, M, hM, h1, h2⟩ := am_CD_elim h
    exact am_CD_intro hM h1 (am_run_mono hX (fun t as w o h => am_CD_up hX D D' t as w o (by omega) h) n n _ _ _ _ _ (Nat.le_refl _) h2)
theorem am_CD_le {X : am_X} : ∀ (D t : Nat) (as : List Value) (w : am_M) (o : Option Value × am_M), am_CD X D t as w = some o → am_le w o.2
  | 0, _, _, _, _, h => by cases h
  | D + 1, t, as, w, o, h => by
    obtain ⟨n, M, hM, h1, h2⟩ := am_CD_elim h
    exact am_run_le (fun t as w o h => am_CD_le D t as w o h) _ _ _ _ _ _ h2
/-- what the computing calls answer -/
theorem am_call_CD {X X' : am_X} {F : Nat} (hX : ∀ i q, X i = some q → X' i = some q) : ∀ (D t : Nat) (as : List Value) (w : am_M) (o : Option Value × am_M), am_call X F D t as w = some o → am_CD X' D t as w = some o
  | 0, _, _, _, _, h => by cases h
  | D + 1, t, as, w, o, h => by
    unfold am_call at h
    split at h
    · rename_i M hM
      obtain ⟨hl, h⟩ := am_bif0 h
      exact am_CD_intro hM (Nat.le_of_ble_eq_true hl) (am_run_mono hX (fun t as w o h => am_call_CD hX D t as w o h) F F _ _ _ _ _ (Nat.le_refl _) h)
    · cases h
set_option maxHeartbeats 1000000 in
/-- A CALL of the machine is a contract of the method -/
theorem am_sound_call (l : Launch) (B : Nat) (x : Nat → Nat) (dC : Nat → ClassId) (dI : Nat → Nat → Nat) (d : am_D) (X : am_X) : ∀ (dp t : Nat) (as : List Value) (w : am_M) (o : Option Value × am_M), am_CD X (dp + 1) t as w = some o → ∃ M, am_mt[t]? = some M ∧ ((!(Nat.beq M.2.2.2.2.2.2.1 0)) = true → am_Met l B x dC dI d X dp M as w o) := by
  intro dp
  induction dp using Nat.strongRecOn with
  | ind dp ih =>
  intro t as w o h
  have hle := am_CD_le _ _ _ _ _ h
  obtain ⟨n, M, hM, hlay, h⟩ := am_CD_elim h
  · refine ⟨M, hM, fun hp0 => ?_⟩
    obtain ⟨hrow, hok⟩ := am_mtP hM
    simp only [am_okC, Bool.and_eq_true, decide_eq_true_eq] at hok
    have hmc : am_mc w o + w.1.length = o.2.1.length := by have := hle.1; show o.2.1.length - w.1.length + w.1.length = _; omega
    have hms : am_ms w o + am_sl w.1 = am_sl o.2.1 := by have := hle.2; show am_sl o.2.1 - am_sl w.1 + am_sl w.1 = _; omega
    refine Met.ofW (cc := M.2.1) (maxL := M.2.2.1) (ret := M.2.2.2.1) hok.1 rfl ?_
    intro p e s m args below meth c s₁ B9 hml hv
    obtain ⟨rfl, hP, hK, hE⟩ := hv
    have hx := B9.exec
    have hb := B9.bytes
    have hr := B9.returns
    have hts0 := atoms_spec (ws := am_wsm M) B9.pre
    have hts : ∀ w' ∈ am_TB, w'.before _ s = true := fun w' h => hts0 w' (List.mem_cons_of_mem _ h)
    have hown : s.vm.findClass M.1.cls = some m.cls := findClass_of_methodNamed B9.named
    have hlocks := B9.notSynchronized
    have hin : meth.name = M.1.name := (name_of_methodNamed B9.named B9.method).1
    have hl := lv_entry (as.map (am_c (am_r B x))) (n := M.2.2.1) (by rw [am_lay_len]; exact hlay)
    rw [lg_entry_eq]
    generalize (lg_sl (as.map (am_c (am_r B x))) ++ List.replicate (M.2.2.1 - (lg_sl (as.map (am_c (am_r B x)))).length) Slot.unset).toArray = ls at hl ⊢
    have hH : am_H (am_r B x) ls (am_ent M.2.2.1 as) := by
      unfold am_H
      rw [am_ent_len hlay, am_ent_fx]
      exact hl
    refine am_sound_run (C := am_CD X dp) (y := M.1) (o := o) (n0 := w.1.length) (s0 := am_sl w.1) (nL := M.2.2.1) (X := X) hx hb hml hown (fun h9 => hin.trans h9) hts (by have := hP.2.1; omega) hE hK (show 1 ≤ dp + 1 by omega) (show 60 ≤ (dp + 1) * 60 by omega) (Nat.le_of_eq hmc.symm) (Nat.le_of_eq hms.symm) ?_ hrow ?_ ?_ ?_ n 0 _ [] w s.heap [] 0 0 ls h hP va_S.rf hH (am_ent_len hlay) (Nat.zero_add _) (Nat.zero_add _)
    · intro t1 as1 w1 o1 h1
      refine ⟨am_CD_le _ _ _ _ _ h1, ?_⟩
      cases dp with
      | zero => cases h1
      | succ dp' =>
        obtain ⟨M1, hM1, hm1⟩ := ih dp' (Nat.lt_succ_self _) t1 as1 w1 o1 h1
        exact ⟨dp', M1, hM1, Nat.le_refl _, by show (dp' + 1) * 60 + 30 ≤ (dp' + 1 + 1) * 60; omega, hm1⟩
    · intro pc w1 H1 locs cells slots ls1 v ty h1 h2 h3 h4 hP1 hS1 hc1 hs1
      have e1 : cells = am_mc w o := by rw [h3] at hmc ⊢; simp only at hmc ⊢; omega
      have e2 : slots = am_ms w o := by rw [h3] at hms ⊢; simp only at hms ⊢; omega
      subst e1
      subst e2
      exact W.zret hx hb (hr.trans h1) (am_nar_ok h2).1 (fun t ht hW => ⟨⟨by rw [h3]; rfl, by rw [ht, h3]; exact hP1⟩, hS1.F ht⟩) hS1.2.2 h4
    · intro pc w1 H1 locs cells slots ls1 a ty h1 h2 h3 h4 hP1 hS1 hc1 hs1
      have e1 : cells = am_mc w o := by rw [h3] at hmc ⊢; simp only at hmc ⊢; omega
      have e2 : slots = am_ms w o := by rw [h3] at hms ⊢; simp only at hms ⊢; omega
      subst e1
      subst e2
      exact W.aret hx hb (hr.trans h1) (by cases ty <;> simp [am_isr] at h2 ⊢) (Or.inr ⟨_, rfl⟩) (fun t ht hW => ⟨⟨by rw [h3]; rfl, by rw [ht, h3]; exact hP1⟩, hS1.F ht⟩) hS1.2.2 h4
    · intro pc w1 H1 locs cells slots ls1 h1 h3 h4 hP1 hS1 hc1 hs1
      have e1 : cells = am_mc w o := by rw [h3] at hmc ⊢; simp only at hmc ⊢; omega
      have e2 : slots = am_ms w o := by rw [h3] at hms ⊢; simp only at hms ⊢; omega
      subst e1
      subst e2
      exact W.vret hx hb (hr.trans h1) (fun t ht hW => ⟨⟨by rw [h3]; rfl, by rw [ht, h3]; exact hP1⟩, hS1.F ht⟩) hS1.2.2 h4
