/-! THE LAW'S START: what lies outside, the classes; and the law's end -/
def am_above : Nat → Int32 := fun j => ([-1, 0, 0, 0, 1, 2, 3] : List Int32).getD j 0
def am_X0 (L : Nat) (xs : Nat → Int32) : am_X := fun i => if i = 1003 then some (L, xs) else if i = 1004 then some (7, am_above) else none
theorem am_inst : ∀ (ci : Nat) (q : vw_C), vwCl[ci]? = some q → Cond.instantiable q.1 q.2.2 ∈ am_TB
  | 0, _, h => by cases h; exact List.mem_filter.mpr (by decide +kernel)
  | 1, _, h => by cases h; exact List.mem_filter.mpr (by decide +kernel)
  | 2, _, h => by cases h; exact List.mem_filter.mpr (by decide +kernel)
  | 3, _, h => by cases h; exact List.mem_filter.mpr (by decide +kernel)
  | 4, _, h => by cases h; exact List.mem_filter.mpr (by decide +kernel)
  | 5, _, h => by cases h; exact List.mem_filter.mpr (by decide +kernel)
  | 6, _, h => by cases h; exact List.mem_filter.mpr (by decide +kernel)
  | 7, _, h => by cases h; exact List.mem_filter.mpr (by decide +kernel)
  | 8, _, h => by cases h; exact List.mem_filter.mpr (by decide +kernel)
  | 9, _, h => by cases h; exact List.mem_filter.mpr (by decide +kernel)
  | 10, _, h => by cases h; exact List.mem_filter.mpr (by decide +kernel)
  | 11, _, h => by cases h; exact List.mem_filter.mpr (by decide +kernel)
  | n + 12, c, h => by simp [vwCl] at h
theorem am_TB_tbl {w : Cond} (h : w ∈ am_TB) : w ∈ lw_tbl := (List.mem_filter.mp h).1
noncomputable def am_nestok (z : String × Nat × Nat) : Bool := match am_mt[z.2.2]? with
  | some M => decide (Cond.methodLinkNest z.1 z.2.1 M.1 "WellRefuses" ∈ lw_tbl)
  | none => true
theorem am_nest_ok : am_nest.all am_nestok = true := by decide +kernel
theorem am_str_ok : ∀ z ∈ am_str, Cond.stringRef z.1 z.2.1 z.2.2 ∈ lw_tbl := by decide +kernel
theorem am_over_ok : Cond.arrayOver (.object "WellRefuses$Sheet") ∈ lw_tbl ∧ Cond.arrayOver (.array .int) ∈ lw_tbl := ⟨by decide +kernel, by decide +kernel⟩
theorem am_abv_ok : Cond.laysStatic "WellRefuses$Kinds" "ABOVE" "[I" ∈ lw_tbl ∧ Cond.initialized "WellRefuses$Kinds" ∈ lw_tbl := ⟨by decide +kernel, by decide +kernel⟩
theorem am_eqI {args : Array Value} {s : State} {t : Term} {v : Int32} (h : (Cond.eq t (.int v)).before args s = true) : t.eval args s none [] s = some (.int v) := by
  have h1 : (Cond.eq t (.int v)).holds args s none s [] = true := h
  simp only [Cond.holds, Cond.value] at h1
  cases ht : t.eval args s none [] s with
  | none => rw [ht] at h1; simp at h1
  | some u =>
    rw [ht] at h1
    cases u <;> simp [Term.eval] at h1
    rw [h1]
def am_tm3 (i : Nat) : Term := match i with
  | 0 => .string "WellRefuses$Reader" 27
  | 1 => .string "WellRefuses$Law" 28
  | _ => .string "WellRefuses$Law" 30
theorem am_cmp_ok : Cond.laysStatic "java/lang/String" "COMPACT_STRINGS" "Z" ∈ lw_tbl ∧ Cond.initialized "java/lang/String" ∈ lw_tbl := ⟨by decide +kernel, by decide +kernel⟩
/-- what the Statement gives of the start -/
theorem am_setup {s : State} {b L : Nat} {xs : Nat → Int32} (hts : ∀ w ∈ lw_tbl, w.before #[Value.ref b] s = true) (hgv : (Jvm.Cond.and given_1 narrow_1).before #[Value.ref b] s = true) (hX : va_X b L xs s s.heap) (hbl : b < s.heap.size) :
    ∃ (dC : Nat → ClassId) (dI : Nat → Nat → Nat) (d : am_D) (x : Nat → Nat), va_K (dC, dI) vwCl (am_ts d) s ∧ am_Ext s.heap.size x (am_X0 L xs) s ∧ x 1003 = b := by
  have hfl := flat_of_before _ hgv
  have htb : ∀ w ∈ am_TB, w.before #[Value.ref b] s = true := fun w h => hts w (am_TB_tbl h)
  have hcl : ∀ k : Nat, ∃ z : ClassId × (Nat → Nat), ∀ q : vw_C, vwCl[k]? = some q → u_Kn s q.1 q.2.1 q.2.2 z.1 z.2 := by
    intro k
    cases hq : vwCl[k]? with
    | none => exact ⟨(0, fun _ => 0), fun q h => by cases h⟩
    | some q =>
      obtain ⟨cC, iS, h⟩ := u_known (C := q.1) (T := q.2.1) (N := q.2.2) (n := q.2.2) htb (am_cls _ _ hq).1 (htb _ (am_inst _ _ hq))
      exact ⟨(cC, iS), fun q2 h2 => by cases h2; exact h⟩
  -- the classes of rows
  obtain ⟨cI, kI, compI, i1, i2, i3⟩ := Cond.arrayClass_spec (htb _ am_w4.2.2)
  obtain ⟨compA, cA, kA, a1, a2, a3, a4⟩ := Cond.arrayOver_specA (hts _ am_over_ok.2)
  obtain ⟨compS, cS, kS, s1, -, s3, s4, s5⟩ := Cond.arrayOver_spec (hts _ am_over_ok.1)
  have hI : ArrOfT s cI .int := fun N z => ⟨(fun k h => by cases h), kI, i2, compI, i3⟩
  have hA : ArrOfT s cA (.array .int) := fun N z => ⟨(fun k h => by cases h), kA, a2, compA, a3⟩
  have hSh : ArrOfT s cS (.object "WellRefuses$Sheet") := fun N z => ⟨(fun k h => by cases h), kS, s3, compS, s4⟩
  -- ABOVE
  have habs : ∀ a : Nat, a < s.heap.size → ¬ (fun q : Nat => s.heap.size ≤ q) a := fun a h h2 => by
    have h3 : s.heap.size ≤ a := h2
    omega
  have el : ∀ j : Nat, j < 7 → (Term.elem (.static "WellRefuses$Kinds" "ABOVE" "[I") (.int (Int32.ofNat j))).eval #[Value.ref b] s none [] s = some (.int (am_above j)) := by
    intro j hj
    have e0 := am_eqI (hfl (Cond.eq (.elem (.static "WellRefuses$Kinds" "ABOVE" "[I") (.int 0)) (.int (-1))) (by decide +kernel))
    have e1 := am_eqI (hfl (Cond.eq (.elem (.static "WellRefuses$Kinds" "ABOVE" "[I") (.int 1)) (.int 0)) (by decide +kernel))
    have e2 := am_eqI (hfl (Cond.eq (.elem (.static "WellRefuses$Kinds" "ABOVE" "[I") (.int 2)) (.int 0)) (by decide +kernel))
    have e3 := am_eqI (hfl (Cond.eq (.elem (.static "WellRefuses$Kinds" "ABOVE" "[I") (.int 3)) (.int 0)) (by decide +kernel))
    have e4 := am_eqI (hfl (Cond.eq (.elem (.static "WellRefuses$Kinds" "ABOVE" "[I") (.int 4)) (.int 1)) (by decide +kernel))
    have e5 := am_eqI (hfl (Cond.eq (.elem (.static "WellRefuses$Kinds" "ABOVE" "[I") (.int 5)) (.int 2)) (by decide +kernel))
    have e6 := am_eqI (hfl (Cond.eq (.elem (.static "WellRefuses$Kinds" "ABOVE" "[I") (.int 6)) (.int 3)) (by decide +kernel))
    match j, hj with
    | 0, _ => exact e0
    | 1, _ => exact e1
    | 2, _ => exact e2
    | 3, _ => exact e3
    | 4, _ => exact e4
    | 5, _ => exact e5
    | 6, _ => exact e6
  obtain ⟨ta, ht1, cell, ht2, ht3, ht4, ht5, ht6, ht7, ht8⟩ := va_Tof (N := 7) (f := fun j => .int (am_above j)) (A := fun q : Nat => s.heap.size ≤ q) (by decide) (hfl (Cond.arrayOf (.static "WellRefuses$Kinds" "ABOVE" "[I") .int) (by decide +kernel)) (am_eqI (hfl (Cond.eq (.length (.static "WellRefuses$Kinds" "ABOVE" "[I")) (.int 7)) (by decide +kernel))) el habs
  have htl : ta < s.heap.size := (Array.getElem?_eq_some_iff.mp ht2).1
  have hZ := va_Zof (hts _ am_abv_ok.1) (hts _ am_abv_ok.2) ht1 habs
  -- the Strings
  obtain ⟨aK, aV, hS3, hE3⟩ := vk_Sof (N := 3) (tm := am_tm3) (len := am_sl3) (byt := am_sb3) (args := #[Value.ref b]) (s := s) (A := fun q : Nat => s.heap.size ≤ q)
    (fun i hi => match i, hi with
      | 0, _ => by decide
      | 1, _ => by decide
      | 2, _ => by decide)
    (fun i hi => match i, hi with
      | 0, _ => hfl (Cond.exactly (.string "WellRefuses$Reader" 27) "java/lang/String") (by decide +kernel)
      | 1, _ => hfl (Cond.exactly (.string "WellRefuses$Law" 28) "java/lang/String") (by decide +kernel)
      | 2, _ => hfl (Cond.exactly (.string "WellRefuses$Law" 30) "java/lang/String") (by decide +kernel))
    (fun i hi => match i, hi with
      | 0, _ => hfl (Cond.eq (.field (.string "WellRefuses$Reader" 27) "java/lang/String" "coder" "B") (.int 0)) (by decide +kernel)
      | 1, _ => hfl (Cond.eq (.field (.string "WellRefuses$Law" 28) "java/lang/String" "coder" "B") (.int 0)) (by decide +kernel)
      | 2, _ => hfl (Cond.eq (.field (.string "WellRefuses$Law" 30) "java/lang/String" "coder" "B") (.int 0)) (by decide +kernel))
    (fun i hi => match i, hi with
      | 0, _ => hfl (Cond.arrayOf (.field (.string "WellRefuses$Reader" 27) "java/lang/String" "value" "[B") .byte) (by decide +kernel)
      | 1, _ => hfl (Cond.arrayOf (.field (.string "WellRefuses$Law" 28) "java/lang/String" "value" "[B") .byte) (by decide +kernel)
      | 2, _ => hfl (Cond.arrayOf (.field (.string "WellRefuses$Law" 30) "java/lang/String" "value" "[B") .byte) (by decide +kernel))
    (fun i hi => match i, hi with
      | 0, _ => hfl (Cond.eq (.length (.field (.string "WellRefuses$Reader" 27) "java/lang/String" "value" "[B")) (.int 0)) (by decide +kernel)
      | 1, _ => hfl (Cond.eq (.length (.field (.string "WellRefuses$Law" 28) "java/lang/String" "value" "[B")) (.int 3)) (by decide +kernel)
      | 2, _ => hfl (Cond.eq (.length (.field (.string "WellRefuses$Law" 30) "java/lang/String" "value" "[B")) (.int 3)) (by decide +kernel))
    (fun i hi j hj => match i, hi, j, hj with
      | 1, _, 0, _ => hfl (Cond.eq (.elem (.field (.string "WellRefuses$Law" 28) "java/lang/String" "value" "[B") (.int 0)) (.int 116)) (by decide +kernel)
      | 1, _, 1, _ => hfl (Cond.eq (.elem (.field (.string "WellRefuses$Law" 28) "java/lang/String" "value" "[B") (.int 1)) (.int 100)) (by decide +kernel)
      | 1, _, 2, _ => hfl (Cond.eq (.elem (.field (.string "WellRefuses$Law" 28) "java/lang/String" "value" "[B") (.int 2)) (.int 119)) (by decide +kernel)
      | 2, _, 0, _ => hfl (Cond.eq (.elem (.field (.string "WellRefuses$Law" 30) "java/lang/String" "value" "[B") (.int 0)) (.int 119)) (by decide +kernel)
      | 2, _, 1, _ => hfl (Cond.eq (.elem (.field (.string "WellRefuses$Law" 30) "java/lang/String" "value" "[B") (.int 1)) (.int 111)) (by decide +kernel)
      | 2, _, 2, _ => hfl (Cond.eq (.elem (.field (.string "WellRefuses$Law" 30) "java/lang/String" "value" "[B") (.int 2)) (.int 109)) (by decide +kernel)
      | 0, _, j, hj => absurd (show j < 0 from hj) (Nat.not_lt_zero j)
      | 1, _, j + 3, hj => absurd (show j + 3 < 3 from hj) (by omega)
      | 2, _, j + 3, hj => absurd (show j + 3 < 3 from hj) (by omega))
    (fun i j hi hj hne => match i, j, hi, hj, hne with
      | 0, 1, _, _, _ => Or.inl (hfl (Cond.not (Cond.eq (.string "WellRefuses$Reader" 27) (.string "WellRefuses$Law" 28))) (by decide +kernel))
      | 0, 2, _, _, _ => Or.inl (hfl (Cond.not (Cond.eq (.string "WellRefuses$Reader" 27) (.string "WellRefuses$Law" 30))) (by decide +kernel))
      | 1, 2, _, _, _ => Or.inl (hfl (Cond.not (Cond.eq (.string "WellRefuses$Law" 28) (.string "WellRefuses$Law" 30))) (by decide +kernel))
      | 1, 0, _, _, _ => Or.inr (hfl (Cond.not (Cond.eq (.string "WellRefuses$Reader" 27) (.string "WellRefuses$Law" 28))) (by decide +kernel))
      | 2, 0, _, _, _ => Or.inr (hfl (Cond.not (Cond.eq (.string "WellRefuses$Reader" 27) (.string "WellRefuses$Law" 30))) (by decide +kernel))
      | 2, 1, _, _, _ => Or.inr (hfl (Cond.not (Cond.eq (.string "WellRefuses$Law" 28) (.string "WellRefuses$Law" 30))) (by decide +kernel))
      | 0, 0, _, _, h => absurd rfl h
      | 1, 1, _, _, h => absurd rfl h
      | 2, 2, _, _, h => absurd rfl h)
    habs
  have r0 := hE3 0 (by decide)
  have r1 := hE3 1 (by decide)
  have r2 := hE3 2 (by decide)
  have hcp := va_Zof (hts _ am_cmp_ok.1) (hts _ am_cmp_ok.2) (va_eqt (hfl (Cond.eq (.static "java/lang/String" "COMPACT_STRINGS" "Z") (.int 1)) (by decide +kernel))) habs
  refine ⟨fun k => (Classical.choose (hcl k)).1, fun k => (Classical.choose (hcl k)).2, (cI, cA, cS), fun i => if i = 1003 then b else if i = 1004 then ta else if 1010 ≤ i then aV (i - 1010) else aK (i - 1000), ⟨fun k q h => Classical.choose_spec (hcl k) q h, ?_⟩, ⟨?_, ?_, ?_, hZ, hts _ am_over_ok.1, hts _ am_over_ok.2, ?_, hcp⟩, rfl⟩
  · intro k q h
    match k, h with
    | 0, h => cases h; exact ⟨hI, i1⟩
    | 1, h => cases h; exact ⟨hA, a4⟩
    | 2, h => cases h; exact ⟨hSh, kS, compS, s3, s4, s1, s5⟩
    | k + 3, h => simp [am_ts] at h
  · intro i q h
    unfold am_X0 at h
    split at h
    · rename_i hi
      cases h
      subst hi
      exact ⟨am_XA.of hX, hbl⟩
    · split at h
      · rename_i hi
        cases h
        subst hi
        exact ⟨⟨cell, ht2, ht3, ht4, ht5, ht6, ht7⟩, htl⟩
      · cases h
  · intro z hz M hM
    have h1 := List.all_eq_true.mp am_nest_ok z hz
    unfold am_nestok at h1
    rw [hM] at h1
    exact va_Nw.of rfl (hts _ (of_decide_eq_true h1))
  · intro i z hz
    have hmem := am_str_ok z (List.mem_of_getElem? hz)
    match i, hz with
    | 0, hz => cases hz; exact vk_R.of (hts _ hmem) r0
    | 1, hz => cases hz; exact vk_R.of (hts _ hmem) r1
    | 2, hz => cases hz; exact vk_R.of (hts _ hmem) r2
    | i + 3, hz => simp [am_str] at hz
  · refine ⟨fun i hi => ?_, fun i j hi hj => ?_⟩
    · match i, hi with
      | 0, _ => exact hS3.1 0 (by decide)
      | 1, _ => exact hS3.1 1 (by decide)
      | 2, _ => exact hS3.1 2 (by decide)
    · intro hij
      match i, hi, j, hj with
      | 0, _, 0, _ => rfl
      | 1, _, 1, _ => rfl
      | 2, _, 2, _ => rfl
      | 0, _, 1, _ => exact hS3.2 0 1 (by decide) (by decide) hij
      | 0, _, 2, _ => exact hS3.2 0 2 (by decide) (by decide) hij
      | 1, _, 0, _ => exact hS3.2 1 0 (by decide) (by decide) hij
      | 1, _, 2, _ => exact hS3.2 1 2 (by decide) (by decide) hij
      | 2, _, 0, _ => exact hS3.2 2 0 (by decide) (by decide) hij
      | 2, _, 1, _ => exact hS3.2 2 1 (by decide) (by decide) hij
section AML
variable {p : Program} {e : Env} {s : State} {m : MethodId} {below : List Frame} {meth : Method} {c : Code}
/-- the law is true where the machine says so -/
theorem am_law (l : Launch) {b L : Nat} {xs : Nat → Int32} (C0 : lw_At p s m meth c b L xs) {D n : Nat} {wf : am_M} (h : am_run (am_X0 L xs) (am_CD (am_X0 L xs) D) (some .boolean) am_J0 n 0 (am_ent 4 [.ref 1003]) [] ([], fun _ _ => 0) = some (some (.int 1), wf)) (hD : D ≤ 1000) (h1 : wf.1.length ≤ 600000) (h2 : am_sl wf.1 ≤ 7302250) :
    W p l e room_1 s m #[Value.ref b] below meth c s.heap [] 0 0 (lw_Z below #[Value.ref b] s) (entryFrame m ([Value.ref b] : List Value).toArray 4) := by
  obtain ⟨hx, hb, hr, hml, hown, hts, hX, hbl, hlocks, hgv⟩ := id C0
  obtain ⟨dC, dI, d, x, hK, hE, hxb⟩ := am_setup hts hgv hX hbl
  have htb : ∀ w ∈ am_TB, w.before #[Value.ref b] s = true := fun w h => hts w (am_TB_tbl h)
  have hl := lv_entry ([.ref b]) (n := 4) (Nat.le_of_ble_eq_true rfl)
  rw [lg_entry_eq]
  generalize (lg_sl ([.ref b]) ++ List.replicate (4 - (lg_sl ([.ref b])).length) Slot.unset).toArray = ls at hl ⊢
  have hab : ([.ref 1003] : List Value).map (am_c (am_r s.heap.size x)) = [.ref b] := by
    show [Value.ref (am_r s.heap.size x 1003)] = _
    rw [am_r_ge (by decide), hxb]
  have hH : am_H (am_r s.heap.size x) ls (am_ent 4 [.ref 1003]) := by
    unfold am_H
    rw [am_ent_len (by decide), am_ent_fx, hab]
    exact hl
  have hP : am_P s.heap.size x dC dI d ([], fun _ _ => 0) s.heap := ⟨fun k q h => by simp [am_ws] at h, rfl, by decide⟩
  obtain ⟨hrow, -⟩ := am_ok am_N0 (List.mem_of_getElem? (i := 0) rfl)
  refine am_sound_run (C := am_CD (am_X0 L xs) D) (y := am_N0.1) (o := (some (.int 1), wf)) (n0 := 0) (s0 := 0) (nL := 4) (X := am_X0 L xs) hx hb hml hown ?_ htb (Nat.le_refl _) hE hK (by decide) (by decide) h1 h2 ?_ hrow ?_ ?_ ?_ n 0 _ [] _ s.heap [] 0 0 ls h hP va_S.rf hH (am_ent_len (by decide)) rfl rfl
  · intro h9
    exact absurd h9 (by decide +kernel)
  · intro t1 as1 w1 o1 h3
    refine ⟨am_CD_le _ _ _ _ _ h3, ?_⟩
    cases D with
    | zero => cases h3
    | succ dp' =>
      obtain ⟨M1, hM1, hm1⟩ := am_sound_call l s.heap.size x dC dI d (am_X0 L xs) dp' t1 as1 w1 o1 h3
      exact ⟨dp', M1, hM1, by show dp' + 1 + 1 ≤ 2048; omega, by show (dp' + 1) * 60 + 30 ≤ 84000; omega, hm1⟩
  · intro pc w1 H1 locs cells slots ls1 v ty h3 h4 h5 h6 hP1 hS1 hc1 hs1
    have hv : v = 1 := by
      have := congrArg Prod.fst h5
      simp at this
      exact this.symm
    have hw : w1 = wf := (congrArg Prod.snd h5).symm
    subst hv
    subst hw
    refine va_forget (fun q hq => hS1.2.2 q hq) ?_
    refine W.widen (k := 600000) (n := 7302250) (by omega) (by omega) ?_
    exact lw_ret hx hb hr hlocks h6
  · intro pc w1 H1 locs cells slots ls1 a ty h3 h4 h5
    cases h3
    cases h4
  · intro pc w1 H1 locs cells slots ls1 h3
    cases h3
end AML
