section AMX
variable {p : Program} {l : Launch} {e : Env} {R : Room} {s : State} {m : MethodId} {args : Array Value} {below : List Frame} {meth : Method} {c : Code} {H : Heap} {locs : List Loc} {cells slots : Nat} {Q : State → Prop}
variable {cc : ByteArray} {pc : Nat} {ls : Array Slot} {B : Nat} {x : Nat → Nat} {dC : Nat → ClassId} {dI : Nat → Nat → Nat} {d : am_D} {X : am_X} {w : am_M}
set_option maxHeartbeats 4000000 in
set_option maxRecDepth 100000 in
/-- ONE STEP of the machine is one of the kit's rows -/
theorem am_sound_ex {C : Nat → List Value → am_M → am_O} {rt : Option FieldType} {y : MethodName} {k : Nat → am_V → List Value → am_M → am_O} {o : Option Value × am_M} {n0 s0 : Nat} {en : am_e} {lv : am_V} {st : List Value}
    (hx : p.tables.exec = Jvm.exec) (hb : c.code = cc) (hml : c.maxLocals = lv.length) (hown : s.vm.findClass y.cls = some m.cls) (hnm : meth.name = y.name) (hts : ∀ w ∈ am_TB, w.before args s = true)
    (hz : B ≤ s.heap.size) (hE : am_Ext B x X s) (hK : va_K (dC, dI) vwCl (am_ts d) s) (hRf : 1 ≤ R.frames) (hRl : 60 ≤ R.locals) (hRc : R.cells + n0 = o.2.1.length) (hRs : R.slots + s0 = am_sl o.2.1)
    (hC : ∀ t as w1 o1, C t as w1 = some o1 → am_le w1 o1.2 ∧ ∃ dp M, am_mt[t]? = some M ∧ dp + 1 + 1 ≤ R.frames ∧ (dp + 1) * 60 + 30 ≤ R.locals ∧ ((!(Nat.beq M.2.2.2.2.2.2.1 0)) = true → am_Met l B x dC dI d X dp M as w1 o1))
    (hk : ∀ pc1 lv1 st1 w1 H1 locs1 cells1 slots1 ls1, k pc1 lv1 st1 w1 = some o → am_P B x dC dI d w1 H1 → va_S (fun q : Nat => B ≤ q) s.heap H1 locs1 → am_H (am_r B x) ls1 lv1 → lv1.length = lv.length → cells1 + n0 = w1.1.length → slots1 + s0 = am_sl w1.1 → W p l e R s m args below meth c H1 locs1 cells1 slots1 Q (F0 m pc1 ls1 (st1.map (am_c (am_r B x)))))
    (hkl : ∀ pc1 lv1 st1 w1, k pc1 lv1 st1 w1 = some o → am_le w1 o.2)
    (hrI : ∀ v ty, rt = some ty → am_nar ty v = true → o = (some (.int v), w) → decode cc pc = .ok (.ireturn, 1) → W p l e R s m args below meth c H locs cells slots Q (F0 m pc ls [.int v]))
    (hrA : ∀ a ty, rt = some ty → am_isr ty = true → o = (some (.ref a), w) → decode cc pc = .ok (.areturn, 1) → W p l e R s m args below meth c H locs cells slots Q (F0 m pc ls [.ref (am_r B x a)]))
    (hrV : rt = none → o = (none, w) → decode cc pc = .ok (.return_, 1) → W p l e R s m args below meth c H locs cells slots Q (F0 m pc ls []))
    (hrow : am_okE y cc pc en = true) (hP : am_P B x dC dI d w H) (hS : va_S (fun q : Nat => B ≤ q) s.heap H locs) (hH : am_H (am_r B x) ls lv) (hc : cells + n0 = w.1.length) (hs : slots + s0 = am_sl w.1)
    (h : am_ex X C rt en k pc lv st w = some o) : W p l e R s m args below meth c H locs cells slots Q (F0 m pc ls (st.map (am_c (am_r B x)))) := by
  obtain ⟨i, n, ax, v⟩ := en
  simp only [am_okE, Bool.and_eq_true, decide_eq_true_eq] at hrow
  obtain ⟨hd, hn, hA⟩ := hrow
  have hsz : ls.size = lv.length := hH.1
  have one : ∀ {pc1 st1}, k pc1 lv st1 w = some o → W p l e R s m args below meth c H locs cells slots Q (F0 m pc1 ls (st1.map (am_c (am_r B x)))) := fun h1 => hk _ _ _ _ _ _ _ _ _ h1 hP hS hH rfl hc hs
  have sto : ∀ {pc1 j u st1} {ls1 : Array Slot}, am_nw lv j = true → j < lv.length → k pc1 (lv.set j (some u)) st1 w = some o → lv_has ls1 lv.length ((j, am_c (am_r B x) u) :: (am_fx 0 (am_cv (am_r B x) lv)).filter (fun q => !(q.1 == j) && !(q.1 + 1 == j && q.2.category == 2))) → W p l e R s m args below meth c H locs cells slots Q (F0 m pc1 ls1 (st1.map (am_c (am_r B x)))) := fun h1 h2 h3 h4 => hk _ _ _ _ _ _ _ _ _ h3 hP hS (am_H_st h1 h2 h4) (by rw [List.length_set]) hc hs
  have mem : ∀ {pc1 lv1 st1 w1 H1 locs1} , lv1 = lv → k pc1 lv1 st1 w1 = some o → w1.1.length = w.1.length → am_sl w1.1 = am_sl w.1 → am_P B x dC dI d w1 H1 → va_S (fun q : Nat => B ≤ q) s.heap H1 locs1 → W p l e R s m args below meth c H1 locs1 cells slots Q (F0 m pc1 ls (st1.map (am_c (am_r B x)))) := fun h0 h1 h2 h3 h4 h5 => hk _ _ _ _ _ _ _ _ _ h1 h4 h5 (by rw [h0]; exact hH) (by rw [h0]) (by omega) (by omega)
  cases i with
  | iconst q =>
    have hn := am_n (k := 1) (by decide) hn
    subst hn
    exact lv_iconst hx hb hd (by simpa [am_okA] using hA) (one h)
  | bipush q =>
    have hn := am_n (k := 2) (by decide) hn
    subst hn
    exact lv_bipush hx hb hd (by simpa [am_okA] using hA) (one h)
  | sipush q =>
    have hn := am_n (k := 3) (by decide) hn
    subst hn
    exact lv_sipush hx hb hd (by simpa [am_okA] using hA) (one h)
  | ldc q =>
    have hn := am_n (k := 2) (by decide) hn
    subst hn
    simp only [am_okA] at hA
    simp only [am_ex] at h
    split at hA
    · exact lv_ldc hx hb hown (hts _ (am_at_in hA)) hd (one h)
    · rename_i z
      split at hA
      · rename_i u hu
        simp only [Bool.and_eq_true, decide_eq_true_eq] at hA
        obtain ⟨h1, h2, h3⟩ := hA
        have h3 := Nat.le_of_ble_eq_true h3
        have h4 := hE.2.2.1 _ _ hu
        rw [h1, h2, show 1000 + (z - 1000) = z by omega, ← am_r_ge (B := B) (x := x) h3] at h4
        exact va_ldcS hx hb hown h4 hd (one h)
      · cases hA
    · cases hA
  | ldc_w q =>
    have hn := am_n (k := 3) (by decide) hn
    subst hn
    simp only [am_okA] at hA
    split at hA
    · exact lv_ldcw hx hb hown (hts _ (am_at_in hA)) hd (one h)
    · cases hA
  | ldc2_w q =>
    have hn := am_n (k := 3) (by decide) hn
    subst hn
    simp only [am_okA] at hA
    split at hA
    · exact lv_ldc2 hx hb hown (hts _ (am_at_in hA)) hd (one h)
    · cases hA
  | iload_n j =>
    have hn := am_n (k := 1) (by decide) hn
    subst hn
    simp only [am_ex] at h
    split at h
    · rename_i u hu
      exact lv_iload_n hx hb hd rfl (am_H_at hH hu) (one h)
    · cases h
  | iload j =>
    have hn := am_n (k := 2) (by decide) hn
    subst hn
    simp only [am_ex] at h
    split at h
    · rename_i u hu
      exact lv_iload hx hb hd (am_H_at hH hu) (one h)
    · cases h
  | lload_n j =>
    have hn := am_n (k := 1) (by decide) hn
    subst hn
    simp only [am_ex] at h
    split at h
    · rename_i u hu
      exact lv_lload_n hx hb hd rfl (am_H_at hH hu) (one h)
    · cases h
  | aload_n j =>
    have hn := am_n (k := 1) (by decide) hn
    subst hn
    simp only [am_ex] at h
    split at h
    · rename_i u hu
      exact lv_aload_n hx hb hd rfl (am_H_at hH hu) (one h)
    · cases h
  | aload j =>
    have hn := am_n (k := 2) (by decide) hn
    subst hn
    simp only [am_ex] at h
    split at h
    · rename_i u hu
      exact lv_aload hx hb hd (am_H_at hH hu) (one h)
    · cases h
  | istore_n j =>
    have hn := am_n (k := 1) (by decide) hn
    subst hn
    obtain ⟨u, t, rfl, h⟩ := am_i1_some h
    obtain ⟨h1, h2, h3⟩ := am_st_some h
    exact lv_istore_n hx hb hd rfl hH h2 rfl (fun ls1 h4 => sto h1 h2 h3 h4)
  | istore j =>
    have hn := am_n (k := 2) (by decide) hn
    subst hn
    obtain ⟨u, t, rfl, h⟩ := am_i1_some h
    obtain ⟨h1, h2, h3⟩ := am_st_some h
    exact lv_istore hx hb hd hH h2 rfl (fun ls1 h4 => sto h1 h2 h3 h4)
  | astore_n j =>
    have hn := am_n (k := 1) (by decide) hn
    subst hn
    obtain ⟨u, t, rfl, h⟩ := am_r1_some h
    obtain ⟨h1, h2, h3⟩ := am_st_some h
    exact lv_astore_n hx hb hd rfl hH h2 rfl (fun ls1 h4 => sto h1 h2 h3 h4)
  | astore j =>
    have hn := am_n (k := 2) (by decide) hn
    subst hn
    obtain ⟨u, t, rfl, h⟩ := am_r1_some h
    obtain ⟨h1, h2, h3⟩ := am_st_some h
    exact lv_astore hx hb hd hH h2 rfl (fun ls1 h4 => sto h1 h2 h3 h4)
  | iinc j q =>
    have hn := am_n (k := 3) (by decide) hn
    subst hn
    simp only [am_ex] at h
    split at h
    · rename_i u hu
      obtain ⟨h1, h2, h3⟩ := am_st_some h
      obtain ⟨kk, hkk⟩ := am_H_mem (r := am_r B x) hu
      simp only [am_okA, decide_eq_true_eq] at hA
      exact lv_iinc hx hb hd hH hkk (by rw [hA]) h2 rfl (fun ls1 h4 => sto h1 h2 h3 h4)
    · cases h
  | iadd =>
    have hn := am_n (k := 1) (by decide) hn
    subst hn
    obtain ⟨u, z, t, rfl, h⟩ := am_i2_some h
    exact lv_iadd hx hb hd (one h)
  | isub =>
    have hn := am_n (k := 1) (by decide) hn
    subst hn
    obtain ⟨u, z, t, rfl, h⟩ := am_i2_some h
    exact lv_isub hx hb hd (one h)
  | imul =>
    have hn := am_n (k := 1) (by decide) hn
    subst hn
    obtain ⟨u, z, t, rfl, h⟩ := am_i2_some h
    exact lv_imul hx hb hd (one h)
  | idiv =>
    have hn := am_n (k := 1) (by decide) hn
    subst hn
    obtain ⟨u, z, t, rfl, h⟩ := am_i2_some h
    rcases am_bif h with ⟨h1, h⟩ | ⟨h1, h⟩
    · cases h
    · exact lv_idiv hx hb hd (of_decide_eq_false h1) (one h)
  | irem =>
    have hn := am_n (k := 1) (by decide) hn
    subst hn
    obtain ⟨u, z, t, rfl, h⟩ := am_i2_some h
    rcases am_bif h with ⟨h1, h⟩ | ⟨h1, h⟩
    · cases h
    · exact lv_irem hx hb hd (of_decide_eq_false h1) (one h)
  | iand =>
    have hn := am_n (k := 1) (by decide) hn
    subst hn
    obtain ⟨u, z, t, rfl, h⟩ := am_i2_some h
    exact lv_iand hx hb hd (one h)
  | ior =>
    have hn := am_n (k := 1) (by decide) hn
    subst hn
    obtain ⟨u, z, t, rfl, h⟩ := am_i2_some h
    exact lv_ior hx hb hd (one h)
  | ixor =>
    have hn := am_n (k := 1) (by decide) hn
    subst hn
    obtain ⟨u, z, t, rfl, h⟩ := am_i2_some h
    exact lv_ixor hx hb hd (one h)
  | ineg =>
    have hn := am_n (k := 1) (by decide) hn
    subst hn
    obtain ⟨u, t, rfl, h⟩ := am_i1_some h
    exact lv_ineg hx hb hd (one h)
  | ishl =>
    have hn := am_n (k := 1) (by decide) hn
    subst hn
    obtain ⟨u, z, t, rfl, h⟩ := am_i2_some h
    exact lv_ishl hx hb hd (one h)
  | ishr =>
    have hn := am_n (k := 1) (by decide) hn
    subst hn
    obtain ⟨u, z, t, rfl, h⟩ := am_i2_some h
    exact lv_ishr hx hb hd (one h)
  | iushr =>
    have hn := am_n (k := 1) (by decide) hn
    subst hn
    obtain ⟨u, z, t, rfl, h⟩ := am_i2_some h
    exact lv_iushr hx hb hd rfl (one h)
  | i2l =>
    have hn := am_n (k := 1) (by decide) hn
    subst hn
    obtain ⟨u, t, rfl, h⟩ := am_i1_some h
    exact lv_i2l hx hb hd rfl (one h)
  | l2i =>
    have hn := am_n (k := 1) (by decide) hn
    subst hn
    obtain ⟨u, t, rfl, h⟩ := am_l1_some h
    exact lv_l2i hx hb hd rfl (one h)
  | i2b =>
    have hn := am_n (k := 1) (by decide) hn
    subst hn
    obtain ⟨u, t, rfl, h⟩ := am_i1_some h
    exact lv_i2b hx hb hd rfl (one h)
  | i2s =>
    have hn := am_n (k := 1) (by decide) hn
    subst hn
    obtain ⟨u, t, rfl, h⟩ := am_i1_some h
    exact lv_i2s hx hb hd rfl (one h)
  | i2c =>
    have hn := am_n (k := 1) (by decide) hn
    subst hn
    obtain ⟨u, t, rfl, h⟩ := am_i1_some h
    exact lv_i2c hx hb hd rfl (one h)
  | land =>
    have hn := am_n (k := 1) (by decide) hn
    subst hn
    obtain ⟨u, z, t, rfl, h⟩ := am_l2_some h
    exact lv_land hx hb hd (one h)
  | lor =>
    have hn := am_n (k := 1) (by decide) hn
    subst hn
    obtain ⟨u, z, t, rfl, h⟩ := am_l2_some h
    exact lv_lor hx hb hd (one h)
  | lshl =>
    have hn := am_n (k := 1) (by decide) hn
    subst hn
    obtain ⟨u, z, t, rfl, h⟩ := am_li_some h
    exact lv_lshl hx hb hd rfl (one h)
  | lshr =>
    have hn := am_n (k := 1) (by decide) hn
    subst hn
    obtain ⟨u, z, t, rfl, h⟩ := am_li_some h
    exact lv_lshr hx hb hd rfl (one h)
  | lushr =>
    have hn := am_n (k := 1) (by decide) hn
    subst hn
    obtain ⟨u, z, t, rfl, h⟩ := am_li_some h
    exact lv_lushr hx hb hd rfl (one h)
  | dup =>
    have hn := am_n (k := 1) (by decide) hn
    subst hn
    simp only [am_ex] at h
    split at h
    · exact lv_dup hx hb hd rfl (one h)
    · exact lv_dup hx hb hd rfl (one h)
    · cases h
  | dup2 =>
    have hn := am_n (k := 1) (by decide) hn
    subst hn
    obtain ⟨a, j, t, rfl, h⟩ := am_ir_some h
    exact lv_dup2_11 hx hb hd rfl rfl (one h)
  | ifCond cd off =>
    have hn := am_n (k := 3) (by decide) hn
    subst hn
    obtain ⟨u, t, rfl, h⟩ := am_i1_some h
    simp only [am_okA] at hA
    split at hA
    · have ht := of_decide_eq_true hA
      cases cd <;> (rcases am_bif h with ⟨h1, h⟩ | ⟨h1, h⟩) <;> first | replace h1 := of_decide_eq_true h1 | replace h1 := of_decide_eq_false h1
      all_goals first
        | exact lv_if_eq hx hb hd ht (fun _ => one h) (fun h9 => absurd h1 h9)
        | exact lv_if_eq hx hb hd ht (fun h9 => absurd h9 h1) (fun _ => one h)
        | exact lv_if_ne hx hb hd ht (fun h9 => absurd h1 h9) (fun _ => one h)
        | exact lv_if_ne hx hb hd ht (fun _ => one h) (fun h9 => absurd h9 h1)
        | exact lv_if_lt hx hb hd ht (fun _ => one h) (fun h9 => absurd h1 h9)
        | exact lv_if_lt hx hb hd ht (fun h9 => absurd h9 h1) (fun _ => one h)
        | exact lv_if_ge hx hb hd ht (fun h9 => absurd h1 (Int32.not_lt.mpr h9)) (fun _ => one h)
        | exact lv_if_ge hx hb hd ht (fun _ => one h) (fun h9 => absurd (Int32.not_lt.mp h1) h9)
        | exact lv_if_gt hx hb hd ht (fun h9 => absurd h1 (Int32.not_le.mpr h9)) (fun _ => one h)
        | exact lv_if_gt hx hb hd ht (fun _ => one h) (fun h9 => absurd (Int32.not_le.mp h1) h9)
        | exact lv_if_le hx hb hd ht (fun _ => one h) (fun h9 => absurd h1 h9)
        | exact lv_if_le hx hb hd ht (fun h9 => absurd h9 h1) (fun _ => one h)
    · cases hA
  | if_icmp cd off =>
    have hn := am_n (k := 3) (by decide) hn
    subst hn
    obtain ⟨u, z, t, rfl, h⟩ := am_i2_some h
    simp only [am_okA] at hA
    split at hA
    · have ht := of_decide_eq_true hA
      cases cd <;> (rcases am_bif h with ⟨h1, h⟩ | ⟨h1, h⟩) <;> first | replace h1 := of_decide_eq_true h1 | replace h1 := of_decide_eq_false h1
      all_goals first
        | exact lv_icmp_eq hx hb hd ht (fun _ => one h) (fun h9 => absurd h1 h9)
        | exact lv_icmp_eq hx hb hd ht (fun h9 => absurd h9 h1) (fun _ => one h)
        | exact lv_icmp_ne hx hb hd ht (fun h9 => absurd h1 h9) (fun _ => one h)
        | exact lv_icmp_ne hx hb hd ht (fun _ => one h) (fun h9 => absurd h9 h1)
        | exact lv_icmp_lt hx hb hd ht (fun _ => one h) (fun h9 => absurd h1 h9)
        | exact lv_icmp_lt hx hb hd ht (fun h9 => absurd h9 h1) (fun _ => one h)
        | exact lv_icmp_ge hx hb hd ht (fun h9 => absurd h1 (Int32.not_lt.mpr h9)) (fun _ => one h)
        | exact lv_icmp_ge hx hb hd ht (fun _ => one h) (fun h9 => absurd (Int32.not_lt.mp h1) h9)
        | exact lv_icmp_gt hx hb hd ht (fun h9 => absurd h1 (Int32.not_le.mpr h9)) (fun _ => one h)
        | exact lv_icmp_gt hx hb hd ht (fun _ => one h) (fun h9 => absurd (Int32.not_le.mp h1) h9)
        | exact lv_icmp_le hx hb hd ht (fun _ => one h) (fun h9 => absurd h1 h9)
        | exact lv_icmp_le hx hb hd ht (fun h9 => absurd h9 h1) (fun _ => one h)
    · cases hA
  | goto off =>
    have hn := am_n (k := 3) (by decide) hn
    subst hn
    simp only [am_okA] at hA
    split at hA
    · exact lv_goto hx hb hd (of_decide_eq_true hA) (one h)
    · cases hA
  | tableswitch df lo hi offs =>
    obtain ⟨u, t, rfl, h⟩ := am_i1_some h
    simp only [am_okA, Bool.and_eq_true, decide_eq_true_eq] at hA
    rcases am_bif h with ⟨h1, h⟩ | ⟨h1, h⟩
    · simp only [Bool.or_eq_true, decide_eq_true_eq] at h1
      exact lv_tableOut hx hb hd h1 (am_jmp_ok hA.1) (one h)
    · simp only [Bool.or_eq_false_iff, decide_eq_false_iff_not] at h1
      split at h
      · rename_i off hoff
        have h2 := List.all_eq_true.mp hA.2 off (by rw [← Array.getElem?_toList] at hoff; exact List.mem_of_getElem? hoff)
        exact lv_tableIn hx hb hd h1.1 h1.2 hoff (am_jmp_ok (of_decide_eq_true h2)) (one h)
      · cases h
  | lookupswitch df ps =>
    obtain ⟨u, t, rfl, h⟩ := am_i1_some h
    simp only [am_okA, Bool.and_eq_true] at hA
    exact lv_lookup hx hb hd hA.1 rfl (am_jmp_ok (am_off pc _ _ _ (of_decide_eq_true hA.2.1) hA.2.2)) (one h)
  | getfield q =>
    have hn := am_n (k := 3) (by decide) hn
    subst hn
    obtain ⟨a, t, rfl, h⟩ := am_r1_some h
    simp only [am_okA] at hA
    split at hA
    · split at hA
      · rename_i u hu
        simp only [Bool.and_eq_true] at hA
        split at h
        · rename_i v1 hv1
          exact am_get hx hb hts hown hK hP hv1 hu (by have := Nat.le_of_ble_eq_true hA.1; omega) (am_at_in hA.2) hd (one h)
        · cases h
      · cases hA
    · cases hA
  | putfield q =>
    have hn := am_n (k := 3) (by decide) hn
    subst hn
    obtain ⟨a, v1, t, rfl, h⟩ := am_vr_some h
    simp only [am_okA] at hA
    split at hA
    · split at hA
      · rename_i u hu
        simp only [Bool.and_eq_true, Bool.or_eq_true, Bool.not_eq_true', decide_eq_true_eq] at hA
        exact am_put_r hx hb hts hown hS hK hP h hu (by have := Nat.le_of_ble_eq_true hA.1; omega) (am_at_in hA.2.1) (by rw [hnm]; exact hA.2.2) hd (fun w1 H1 locs1 h1 h2 h3 h4 h5 => mem rfl h1 h2 h3 h4 h5)
      · cases hA
    · cases hA
  | getstatic q =>
    have hn := am_n (k := 3) (by decide) hn
    subst hn
    simp only [am_okA] at hA
    split at hA
    · simp only [Bool.and_eq_true] at hA
      have h1 := Nat.eq_of_beq_eq_true hA.1
      subst h1
      have hZ := hE.2.2.2.1
      rw [← am_r_ge (B := B) (x := x) (i := 1004) (by decide)] at hZ
      exact va_gets hx hb hZ hS hown (hts _ (am_at_in hA.2)) (fun _ h9 => h9) hd (one h)
    · cases hA
  | iaload =>
    have hn := am_n (k := 1) (by decide) hn
    subst hn
    obtain ⟨a, j, t, rfl, h⟩ := am_ir_some h
    split at h
    · rename_i u hu
      exact am_ald_r hx hb hE.1 hz hS hK hP hu hd (one h)
    · cases h
  | iastore =>
    have hn := am_n (k := 1) (by decide) hn
    subst hn
    obtain ⟨a, j, u, t, rfl, h⟩ := am_iir_some h
    exact am_ast_r hx hb hS hK hP h hd (fun w1 H1 locs1 h1 h2 h3 h4 => mem rfl h1 (by rw [h2]) (by rw [h2]) h3 h4)
  | aaload =>
    have hn := am_n (k := 1) (by decide) hn
    subst hn
    obtain ⟨a, j, t, rfl, h⟩ := am_ir_some h
    split at h
    · rename_i u hu
      exact am_rld_r hx hb hK hP hu hd (one h)
    · cases h
  | aastore =>
    have hn := am_n (k := 1) (by decide) hn
    subst hn
    obtain ⟨a, j, b, t, rfl, h⟩ := am_rir_some h
    exact am_rst_r hx hb hS hK hP h hd (fun w1 H1 locs1 h1 h2 h3 h4 h5 => mem rfl h1 h2 h3 h4 h5)
  | arraylength =>
    have hn := am_n (k := 1) (by decide) hn
    subst hn
    obtain ⟨a, t, rfl, h⟩ := am_r1_some h
    split at h
    · rename_i u hu
      exact am_len_r hx hb hE.1 hz hS hK hP hu hd (one h)
    · cases h
  | new q =>
    have hn := am_n (k := 3) (by decide) hn
    subst hn
    simp only [am_okA] at hA
    split at hA
    · split at hA
      · rename_i ci _ _ _ u hu
        simp only [Bool.and_eq_true] at hA
        obtain ⟨h1, h⟩ := am_bif0 h
        have hl := hkl _ _ _ _ h
        have hlen : (am_blank ci).length = u.2.2 := by rw [am_blank_len, (am_cls _ _ hu).2.2.2]; rfl
        have hl1 := hl.1
        have hl2 := hl.2
        simp only [List.length_append, List.length_cons, List.length_nil] at hl1
        rw [am_sl_app] at hl2
        simp only [am_sl, am_sz, hlen] at hl2
        exact am_new_r hx hb hts hown hS hK hP hu (am_at_in hA.1) (am_at_in hA.2.1) (am_at_in hA.2.2) (by have := Nat.le_of_ble_eq_true h1; omega) (by omega) (by omega) hd (fun H1 h3 h4 => hk _ _ _ _ _ _ _ _ _ h h3 h4 hH rfl (by simp; omega) (by rw [am_sl_app]; simp only [am_sl, am_sz, hlen]; omega))
      · cases hA
    · cases hA
  | newarray q =>
    have hn := am_n (k := 2) (by decide) hn
    subst hn
    obtain ⟨u, t, rfl, h⟩ := am_i1_some h
    simp only [am_okA, decide_eq_true_eq] at hA
    subst hA
    obtain ⟨h1, h⟩ := am_bif0 h
    simp only [Bool.and_eq_true] at h1
    have hl := hkl _ _ _ _ h
    have hl1 := hl.1
    have hl2 := hl.2
    simp only [List.length_append, List.length_cons, List.length_nil] at hl1
    rw [am_sl_app] at hl2
    simp only [am_sl, am_sz] at hl2
    exact am_newa_r hx hb hts hS hK hP h1.2 (by have := Nat.le_of_ble_eq_true h1.1; omega) am_w4.2.2 (by omega) (by omega) hd (fun H1 h3 h4 => hk _ _ _ _ _ _ _ _ _ h h3 h4 hH rfl (by simp; omega) (by rw [am_sl_app]; simp only [am_sl, am_sz]; omega))
  | anewarray q =>
    have hn := am_n (k := 3) (by decide) hn
    subst hn
    obtain ⟨u, t, rfl, h⟩ := am_i1_some h
    simp only [am_okA] at hA
    split at hA
    · obtain ⟨h1, h⟩ := am_bif0 h
      simp only [Bool.and_eq_true] at h1
      have hl := hkl _ _ _ _ h
      have hl1 := hl.1
      have hl2 := hl.2
      simp only [List.length_append, List.length_cons, List.length_nil] at hl1
      rw [am_sl_app] at hl2
      simp only [am_sl, am_sz, List.length_replicate] at hl2
      exact am_newq_r hx hb hts hown hS hK hP hE.2.2.2.2.1 h1.2 (by have := Nat.le_of_ble_eq_true h1.1; omega) (am_at_in hA) (by omega) (by omega) hd (fun H1 h3 h4 => hk _ _ _ _ _ _ _ _ _ h h3 h4 hH rfl (by simp; omega) (by rw [am_sl_app]; simp only [am_sl, am_sz, List.length_replicate]; omega))
    · cases hA
  | multianewarray q dm =>
    have hn := am_n (k := 4) (by decide) hn
    subst hn
    obtain ⟨u, z, t, rfl, h⟩ := am_i2_some h
    simp only [am_okA, Bool.and_eq_true] at hA
    have hdm := Nat.eq_of_beq_eq_true hA.1
    subst hdm
    have hA := hA.2
    split at hA
    · obtain ⟨h1, h⟩ := am_bif0 h
      simp only [Bool.and_eq_true] at h1
      have hl := hkl _ _ _ _ h
      have hl1 := hl.1
      have hl2 := hl.2
      have hrep : am_sl (List.replicate u.toNatClampNeg (.inr (.inl z.toNatClampNeg))) = u.toNatClampNeg * z.toNatClampNeg := by
        generalize u.toNatClampNeg = uu
        induction uu with
        | zero => simp [am_sl]
        | succ j ih => simp only [List.replicate_succ, am_sl, am_sz, ih, Nat.succ_mul]; omega
      simp only [List.length_append, List.length_cons, List.length_replicate] at hl1
      rw [am_sl_app] at hl2
      simp only [am_sl, am_sz, hrep, List.length_map, List.length_range] at hl2
      exact am_newm_r hx hb hts hown hS hK hP hE.2.2.2.2.2 h1.2.1 h1.2.2 (by have := Nat.le_of_ble_eq_true h1.1; omega) am_w4.2.2 (am_at_in hA) (by omega) (by omega) hd (fun H1 h3 h4 => hk _ _ _ _ _ _ _ _ _ h h3 h4 hH rfl (by simp; omega) (by rw [am_sl_app]; simp only [am_sl, am_sz, hrep, List.length_map, List.length_range]; omega))
    · cases hA
  | invokevirtual q =>
    have hn := am_n (k := 3) (by decide) hn
    subst hn
    simp only [am_okA] at hA
    simp only [am_ex] at h
    sorry
  | invokestatic q =>
    have hn := am_n (k := 3) (by decide) hn
    subst hn
    simp only [am_okA] at hA
    simp only [am_ex] at h
    sorry
  | invokespecial q =>
    have hn := am_n (k := 3) (by decide) hn
    subst hn
    simp only [am_okA] at hA
    simp only [am_ex] at h
    sorry
  | ireturn =>
    have hn := am_n (k := 1) (by decide) hn
    subst hn
    simp only [am_ex] at h
    split at h
    · obtain ⟨h1, h⟩ := am_bif0 h
      cases h
      exact hrI _ _ rfl h1 rfl hd
    · cases h
  | areturn =>
    have hn := am_n (k := 1) (by decide) hn
    subst hn
    simp only [am_ex] at h
    split at h
    · obtain ⟨h1, h⟩ := am_bif0 h
      cases h
      exact hrA _ _ rfl h1 rfl hd
    · cases h
  | return_ =>
    have hn := am_n (k := 1) (by decide) hn
    subst hn
    simp only [am_ex] at h
    split at h
    · cases h
      exact hrV rfl rfl hd
    · cases h
  | _ => cases h
end AMX
