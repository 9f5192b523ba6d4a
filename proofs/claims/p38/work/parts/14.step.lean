theorem am_isp_some {st : List Value} (h : am_isp st = true) : ∃ b as, st = .ref b :: as := by
  unfold am_isp at h
  split at h
  · exact ⟨_, _, rfl⟩
  · cases h
section AMX
variable {p : Program} {l : Launch} {e : Env} {R : Room} {s : State} {m : MethodId} {args : Array Value} {below : List Frame} {meth : Method} {c : Code} {H : Heap} {locs : List Loc} {cells slots : Nat} {Q : State → Prop}
variable {cc : ByteArray} {pc : Nat} {ls : Array Slot} {B : Nat} {x : Nat → Nat} {dC : Nat → ClassId} {dI : Nat → Nat → Nat} {d : am_D} {X : am_X} {w : am_M}
set_option maxHeartbeats 4000000 in
set_option maxRecDepth 100000 in
/-- ONE STEP of the machine is one of the kit's rows -/
theorem am_sound_ex {C : Nat → List Value → am_M → am_O} {rt : Option FieldType} {y : MethodName} {k : Nat → am_V → List Value → am_M → am_O} {o : Option Value × am_M} {n0 s0 : Nat} {en : am_e} {lv : am_V} {st : List Value}
    (hx : p.tables.exec = Jvm.exec) (hb : c.code = cc) (hml : c.maxLocals = lv.length) (hown : s.vm.findClass y.cls = some m.cls) (hnm : y.name = "<init>" → meth.name = "<init>") (hts : ∀ w ∈ am_TB, w.before args s = true)
    (hz : B ≤ s.heap.size) (hE : am_Ext B x X s) (hK : va_K (dC, dI) vwCl (am_ts d) s) (hRf : 1 ≤ R.frames) (hRl : 60 ≤ R.locals) (hRc : o.2.1.length ≤ R.cells + n0) (hRs : am_sl o.2.1 ≤ R.slots + s0)
    (hC : ∀ t as w1 o1, C t as w1 = some o1 → am_le w1 o1.2 ∧ ∃ dp M, am_mt[t]? = some M ∧ dp + 1 + 1 ≤ R.frames ∧ (dp + 1) * 60 + 30 ≤ R.locals ∧ ((!(Nat.beq M.2.2.2.2.2.2.1 0)) = true → am_Met l B x dC dI d X dp M as w1 o1))
    (hk : ∀ pc1 lv1 st1 w1 H1 locs1 cells1 slots1 ls1, k pc1 lv1 st1 w1 = some o → am_P B x dC dI d w1 H1 → va_S (fun q : Nat => B ≤ q) s.heap H1 locs1 → am_H (am_r B x) ls1 lv1 → lv1.length = lv.length → cells1 + n0 = w1.1.length → slots1 + s0 = am_sl w1.1 → W p l e R s m args below meth c H1 locs1 cells1 slots1 Q (F0 m pc1 ls1 (st1.map (am_c (am_r B x)))))
    (hkl : ∀ pc1 lv1 st1 w1, k pc1 lv1 st1 w1 = some o → am_le w1 o.2)
    (hrI : ∀ v ty, rt = some ty → am_nar ty v = true → o = (some (.int v), w) → decode cc pc = .ok (.ireturn, 1) → W p l e R s m args below meth c H locs cells slots Q (F0 m pc ls [.int v]))
    (hrA : ∀ a ty, rt = some ty → am_isr ty = true → o = (some (.ref a), w) → decode cc pc = .ok (.areturn, 1) → W p l e R s m args below meth c H locs cells slots Q (F0 m pc ls [.ref (am_r B x a)]))
    (hrV : rt = none → o = (none, w) → decode cc pc = .ok (.return_, 1) → W p l e R s m args below meth c H locs cells slots Q (F0 m pc ls []))
    (hrow : am_okE y cc pc en = true) (hP : am_P B x dC dI d w H) (hS : va_S (fun q : Nat => B ≤ q) s.heap H locs) (hH : am_H (am_r B x) ls lv) (hc : cells + n0 = w.1.length) (hs : slots + s0 = am_sl w.1)
    (h : am_ex X C rt en k pc lv st w = some o) : W p l e R s m args below meth c H locs cells slots Q (F0 m pc ls (st.map (am_c (am_r B x)))) := by
  obtain ⟨i, n, ax, v⟩ := en
  simp only [am_okE, Bool.and_eq_true, decide_eq_true_eq] at hrow
  obtain ⟨hd, hn, hA⟩ := hrow
  have hsz : ls.size = lv.length := hH.1
  have one : ∀ {pc1 st1}, k pc1 lv st1 w = some o → W p l e R s m args below meth c H locs cells slots Q (F0 m pc1 ls (st1.map (am_c (am_r B x)))) := fun h1 => hk _ _ _ _ _ _ _ _ _ h1 hP hS hH rfl hc hs
  have sto : ∀ {pc1 j u st1} {ls1 : Array Slot}, am_nw lv j = true → j < lv.length → k pc1 (lv.set j (some u)) st1 w = some o → lv_has ls1 lv.length ((j, am_c (am_r B x) u) :: (am_fx 0 (am_cv (am_r B x) lv)).filter (fun q => !(q.1 == j) && !(q.1 + 1 == j && q.2.category == 2))) → W p l e R s m args below meth c H locs cells slots Q (F0 m pc1 ls1 (st1.map (am_c (am_r B x)))) := fun h1 h2 h3 h4 => hk _ _ _ _ _ _ _ _ _ h3 hP hS (am_H_st h1 h2 h4) (by rw [List.length_set]) hc hs
  have mem : ∀ {pc1 lv1 st1 w1 H1 locs1} , lv1 = lv → k pc1 lv1 st1 w1 = some o → w1.1.length = w.1.length → am_sl w1.1 = am_sl w.1 → am_P B x dC dI d w1 H1 → va_S (fun q : Nat => B ≤ q) s.heap H1 locs1 → W p l e R s m args below meth c H1 locs1 cells slots Q (F0 m pc1 ls (st1.map (am_c (am_r B x)))) := fun h0 h1 h2 h3 h4 h5 => hk _ _ _ _ _ _ _ _ _ h1 h4 h5 (by rw [h0]; exact hH) (by rw [h0]) (by omega) (by omega)
  cases i with
  | iconst q =>
    have hn := am_n (k := 1) (by decide) hn
    subst hn
    exact lv_iconst hx hb hd (by simpa [am_okA] using hA) (one h)
  | bipush q =>
    have hn := am_n (k := 2) (by decide) hn
    subst hn
    exact lv_bipush hx hb hd (by simpa [am_okA] using hA) (one h)
  | sipush q =>
    have hn := am_n (k := 3) (by decide) hn
    subst hn
    exact lv_sipush hx hb hd (by simpa [am_okA] using hA) (one h)
  | ldc q =>
    have hn := am_n (k := 2) (by decide) hn
    subst hn
    simp only [am_okA] at hA
    simp only [am_ex] at h
    split at hA
    · exact lv_ldc hx hb hown (hts _ (am_at_in hA)) hd (one h)
    · rename_i z
      split at hA
      · rename_i u hu
        simp only [Bool.and_eq_true, decide_eq_true_eq] at hA
        obtain ⟨h1, h2, h3⟩ := hA
        have h3 := Nat.le_of_ble_eq_true h3
        have h4 := hE.2.2.1 _ _ hu
        rw [h1, h2, show 1000 + (z - 1000) = z by omega, ← am_r_ge (B := B) (x := x) h3] at h4
        exact va_ldcS hx hb hown h4 hd (one h)
      · cases hA
    · cases hA
  | ldc_w q =>
    have hn := am_n (k := 3) (by decide) hn
    subst hn
    simp only [am_okA] at hA
    split at hA
    · exact lv_ldcw hx hb hown (hts _ (am_at_in hA)) hd (one h)
    · cases hA
  | ldc2_w q =>
    have hn := am_n (k := 3) (by decide) hn
    subst hn
    simp only [am_okA] at hA
    split at hA
    · exact lv_ldc2 hx hb hown (hts _ (am_at_in hA)) hd (one h)
    · cases hA
  | iload_n j =>
    have hn := am_n (k := 1) (by decide) hn
    subst hn
    simp only [am_ex] at h
    split at h
    · rename_i u hu
      exact lv_iload_n hx hb hd rfl (am_H_at hH hu) (one h)
    · cases h
  | iload j =>
    have hn := am_n (k := 2) (by decide) hn
    subst hn
    simp only [am_ex] at h
    split at h
    · rename_i u hu
      exact lv_iload hx hb hd (am_H_at hH hu) (one h)
    · cases h
  | lload_n j =>
    have hn := am_n (k := 1) (by decide) hn
    subst hn
    simp only [am_ex] at h
    split at h
    · rename_i u hu
      exact lv_lload_n hx hb hd rfl (am_H_at hH hu) (one h)
    · cases h
  | aload_n j =>
    have hn := am_n (k := 1) (by decide) hn
    subst hn
    simp only [am_ex] at h
    split at h
    · rename_i u hu
      exact lv_aload_n hx hb hd rfl (am_H_at hH hu) (one h)
    · cases h
  | aload j =>
    have hn := am_n (k := 2) (by decide) hn
    subst hn
    simp only [am_ex] at h
    split at h
    · rename_i u hu
      exact lv_aload hx hb hd (am_H_at hH hu) (one h)
    · cases h
  | istore_n j =>
    have hn := am_n (k := 1) (by decide) hn
    subst hn
    replace h := am_i1_some h
    obtain ⟨u, t, rfl, h⟩ := h
    obtain ⟨h1, h2, h3⟩ := am_st_some h
    exact lv_istore_n hx hb hd rfl hH h2 rfl (fun ls1 h4 => sto h1 h2 h3 h4)
  | istore j =>
    have hn := am_n (k := 2) (by decide) hn
    subst hn
    replace h := am_i1_some h
    obtain ⟨u, t, rfl, h⟩ := h
    obtain ⟨h1, h2, h3⟩ := am_st_some h
    exact lv_istore hx hb hd hH h2 rfl (fun ls1 h4 => sto h1 h2 h3 h4)
  | astore_n j =>
    have hn := am_n (k := 1) (by decide) hn
    subst hn
    replace h := am_r1_some h
    obtain ⟨u, t, rfl, h⟩ := h
    obtain ⟨h1, h2, h3⟩ := am_st_some h
    exact lv_astore_n hx hb hd rfl hH h2 rfl (fun ls1 h4 => sto h1 h2 h3 h4)
  | astore j =>
    have hn := am_n (k := 2) (by decide) hn
    subst hn
    replace h := am_r1_some h
    obtain ⟨u, t, rfl, h⟩ := h
    obtain ⟨h1, h2, h3⟩ := am_st_some h
    exact lv_astore hx hb hd hH h2 rfl (fun ls1 h4 => sto h1 h2 h3 h4)
  | iinc j q =>
    have hn := am_n (k := 3) (by decide) hn
    subst hn
    simp only [am_ex] at h
    split at h
    · rename_i u hu
      obtain ⟨h1, h2, h3⟩ := am_st_some h
      obtain ⟨kk, hkk⟩ := am_H_mem (r := am_r B x) (ls := ls) hu
      simp only [am_okA, decide_eq_true_eq] at hA
      exact lv_iinc hx hb hd hH hkk (by rw [hA]) h2 rfl (fun ls1 h4 => sto h1 h2 h3 h4)
    · cases h
  | iadd =>
    have hn := am_n (k := 1) (by decide) hn
    subst hn
    replace h := am_i2_some h
    obtain ⟨u, z, t, rfl, h⟩ := h
    exact lv_iadd hx hb hd (one h)
  | isub =>
    have hn := am_n (k := 1) (by decide) hn
    subst hn
    replace h := am_i2_some h
    obtain ⟨u, z, t, rfl, h⟩ := h
    exact lv_isub hx hb hd (one h)
  | imul =>
    have hn := am_n (k := 1) (by decide) hn
    subst hn
    replace h := am_i2_some h
    obtain ⟨u, z, t, rfl, h⟩ := h
    exact lv_imul hx hb hd (one h)
  | idiv =>
    have hn := am_n (k := 1) (by decide) hn
    subst hn
    replace h := am_i2_some h
    obtain ⟨u, z, t, rfl, h⟩ := h
    rcases am_bif h with ⟨h1, h⟩ | ⟨h1, h⟩
    · cases h
    · exact lv_idiv hx hb hd (of_decide_eq_false h1) (one h)
  | irem =>
    have hn := am_n (k := 1) (by decide) hn
    subst hn
    replace h := am_i2_some h
    obtain ⟨u, z, t, rfl, h⟩ := h
    rcases am_bif h with ⟨h1, h⟩ | ⟨h1, h⟩
    · cases h
    · exact lv_irem hx hb hd (of_decide_eq_false h1) (one h)
  | iand =>
    have hn := am_n (k := 1) (by decide) hn
    subst hn
    replace h := am_i2_some h
    obtain ⟨u, z, t, rfl, h⟩ := h
    exact lv_iand hx hb hd (one h)
  | ior =>
    have hn := am_n (k := 1) (by decide) hn
    subst hn
    replace h := am_i2_some h
    obtain ⟨u, z, t, rfl, h⟩ := h
    exact lv_ior hx hb hd (one h)
  | ixor =>
    have hn := am_n (k := 1) (by decide) hn
    subst hn
    replace h := am_i2_some h
    obtain ⟨u, z, t, rfl, h⟩ := h
    exact lv_ixor hx hb hd (one h)
  | ineg =>
    have hn := am_n (k := 1) (by decide) hn
    subst hn
    replace h := am_i1_some h
    obtain ⟨u, t, rfl, h⟩ := h
    exact lv_ineg hx hb hd (one h)
  | ishl =>
    have hn := am_n (k := 1) (by decide) hn
    subst hn
    replace h := am_i2_some h
    obtain ⟨u, z, t, rfl, h⟩ := h
    exact lv_ishl hx hb hd (one h)
  | ishr =>
    have hn := am_n (k := 1) (by decide) hn
    subst hn
    replace h := am_i2_some h
    obtain ⟨u, z, t, rfl, h⟩ := h
    exact lv_ishr hx hb hd (one h)
  | iushr =>
    have hn := am_n (k := 1) (by decide) hn
    subst hn
    replace h := am_i2_some h
    obtain ⟨u, z, t, rfl, h⟩ := h
    exact lv_iushr hx hb hd rfl (one h)
  | i2l =>
    have hn := am_n (k := 1) (by decide) hn
    subst hn
    replace h := am_i1_some h
    obtain ⟨u, t, rfl, h⟩ := h
    exact lv_i2l hx hb hd rfl (one h)
  | l2i =>
    have hn := am_n (k := 1) (by decide) hn
    subst hn
    replace h := am_l1_some h
    obtain ⟨u, t, rfl, h⟩ := h
    exact lv_l2i hx hb hd rfl (one h)
  | i2b =>
    have hn := am_n (k := 1) (by decide) hn
    subst hn
    replace h := am_i1_some h
    obtain ⟨u, t, rfl, h⟩ := h
    exact lv_i2b hx hb hd rfl (one h)
  | i2s =>
    have hn := am_n (k := 1) (by decide) hn
    subst hn
    replace h := am_i1_some h
    obtain ⟨u, t, rfl, h⟩ := h
    exact lv_i2s hx hb hd rfl (one h)
  | i2c =>
    have hn := am_n (k := 1) (by decide) hn
    subst hn
    replace h := am_i1_some h
    obtain ⟨u, t, rfl, h⟩ := h
    exact lv_i2c hx hb hd rfl (one h)
  | land =>
    have hn := am_n (k := 1) (by decide) hn
    subst hn
    replace h := am_l2_some h
    obtain ⟨u, z, t, rfl, h⟩ := h
    exact lv_land hx hb hd (one h)
  | lor =>
    have hn := am_n (k := 1) (by decide) hn
    subst hn
    replace h := am_l2_some h
    obtain ⟨u, z, t, rfl, h⟩ := h
    exact lv_lor hx hb hd (one h)
  | lshl =>
    have hn := am_n (k := 1) (by decide) hn
    subst hn
    replace h := am_li_some h
    obtain ⟨u, z, t, rfl, h⟩ := h
    exact lv_lshl hx hb hd rfl (one h)
  | lshr =>
    have hn := am_n (k := 1) (by decide) hn
    subst hn
    replace h := am_li_some h
    obtain ⟨u, z, t, rfl, h⟩ := h
    exact lv_lshr hx hb hd rfl (one h)
  | lushr =>
    have hn := am_n (k := 1) (by decide) hn
    subst hn
    replace h := am_li_some h
    obtain ⟨u, z, t, rfl, h⟩ := h
    exact lv_lushr hx hb hd rfl (one h)
  | dup =>
    have hn := am_n (k := 1) (by decide) hn
    subst hn
    simp only [am_ex] at h
    split at h
    · exact lv_dup hx hb hd rfl (one h)
    · exact lv_dup hx hb hd rfl (one h)
    · cases h
  | pop =>
    have hn := am_n (k := 1) (by decide) hn
    subst hn
    simp only [am_ex] at h
    split at h
    · exact lv_pop hx hb hd rfl (one h)
    · exact lv_pop hx hb hd rfl (one h)
    · cases h
  | baload =>
    have hn := am_n (k := 1) (by decide) hn
    subst hn
    replace h := am_ir_some h
    obtain ⟨a, j, t, rfl, h⟩ := h
    split at h
    · rename_i u hu
      exact am_bld_r hx hb hE.2.2.2.2.2.2.1 hS hu hd (one h)
    · cases h
  | dup2 =>
    have hn := am_n (k := 1) (by decide) hn
    subst hn
    replace h := am_ir_some h
    obtain ⟨a, j, t, rfl, h⟩ := h
    exact lv_dup2_11 hx hb hd rfl rfl (one h)
  | ifCond cd off =>
    have hn := am_n (k := 3) (by decide) hn
    subst hn
    replace h := am_i1_some h
    obtain ⟨u, t, rfl, h⟩ := h
    simp only [am_okA] at hA
    split at hA
    · have ht := of_decide_eq_true hA
      cases cd <;> (rcases am_bif h with ⟨h1, h⟩ | ⟨h1, h⟩) <;> first | replace h1 := of_decide_eq_true h1 | replace h1 := of_decide_eq_false h1
      all_goals first
        | exact lv_if_eq hx hb hd ht (fun _ => one h) (fun h9 => absurd h1 h9)
        | exact lv_if_eq hx hb hd ht (fun h9 => absurd h9 h1) (fun _ => one h)
        | exact lv_if_ne hx hb hd ht (fun h9 => absurd h1 h9) (fun _ => one h)
        | exact lv_if_ne hx hb hd ht (fun _ => one h) (fun h9 => absurd h9 h1)
        | exact lv_if_lt hx hb hd ht (fun _ => one h) (fun h9 => absurd h1 h9)
        | exact lv_if_lt hx hb hd ht (fun h9 => absurd h9 h1) (fun _ => one h)
        | exact lv_if_ge hx hb hd ht (fun h9 => absurd h1 (Int32.not_lt.mpr h9)) (fun _ => one h)
        | exact lv_if_ge hx hb hd ht (fun _ => one h) (fun h9 => absurd (Int32.not_lt.mp h1) h9)
        | exact lv_if_gt hx hb hd ht (fun h9 => absurd h1 (Int32.not_le.mpr h9)) (fun _ => one h)
        | exact lv_if_gt hx hb hd ht (fun _ => one h) (fun h9 => absurd (Int32.not_le.mp h1) h9)
        | exact lv_if_le hx hb hd ht (fun _ => one h) (fun h9 => absurd h1 h9)
        | exact lv_if_le hx hb hd ht (fun h9 => absurd h9 h1) (fun _ => one h)
    · cases hA
  | if_icmp cd off =>
    have hn := am_n (k := 3) (by decide) hn
    subst hn
    replace h := am_i2_some h
    obtain ⟨u, z, t, rfl, h⟩ := h
    simp only [am_okA] at hA
    split at hA
    · have ht := of_decide_eq_true hA
      cases cd <;> (rcases am_bif h with ⟨h1, h⟩ | ⟨h1, h⟩) <;> first | replace h1 := of_decide_eq_true h1 | replace h1 := of_decide_eq_false h1
      all_goals first
        | exact lv_icmp_eq hx hb hd ht (fun _ => one h) (fun h9 => absurd h1 h9)
        | exact lv_icmp_eq hx hb hd ht (fun h9 => absurd h9 h1) (fun _ => one h)
        | exact lv_icmp_ne hx hb hd ht (fun h9 => absurd h1 h9) (fun _ => one h)
        | exact lv_icmp_ne hx hb hd ht (fun _ => one h) (fun h9 => absurd h9 h1)
        | exact lv_icmp_lt hx hb hd ht (fun _ => one h) (fun h9 => absurd h1 h9)
        | exact lv_icmp_lt hx hb hd ht (fun h9 => absurd h9 h1) (fun _ => one h)
        | exact lv_icmp_ge hx hb hd ht (fun h9 => absurd h1 (Int32.not_lt.mpr h9)) (fun _ => one h)
        | exact lv_icmp_ge hx hb hd ht (fun _ => one h) (fun h9 => absurd (Int32.not_lt.mp h1) h9)
        | exact lv_icmp_gt hx hb hd ht (fun h9 => absurd h1 (Int32.not_le.mpr h9)) (fun _ => one h)
        | exact lv_icmp_gt hx hb hd ht (fun _ => one h) (fun h9 => absurd (Int32.not_le.mp h1) h9)
        | exact lv_icmp_le hx hb hd ht (fun _ => one h) (fun h9 => absurd h1 h9)
        | exact lv_icmp_le hx hb hd ht (fun h9 => absurd h9 h1) (fun _ => one h)
    · cases hA
  | goto off =>
    have hn := am_n (k := 3) (by decide) hn
    subst hn
    simp only [am_okA] at hA
    split at hA
    · exact lv_goto hx hb hd (of_decide_eq_true hA) (one h)
    · cases hA
  | tableswitch df lo hi offs =>
    replace h := am_i1_some h
    obtain ⟨u, t, rfl, h⟩ := h
    simp only [am_okA, Bool.and_eq_true, decide_eq_true_eq] at hA
    rcases am_bif h with ⟨h1, h⟩ | ⟨h1, h⟩
    · simp only [Bool.or_eq_true, decide_eq_true_eq] at h1
      exact lv_tableOut hx hb hd h1 (am_jmp_ok hA.1) (one h)
    · simp only [Bool.or_eq_false_iff, decide_eq_false_iff_not] at h1
      split at h
      · rename_i off hoff
        have h2 := List.all_eq_true.mp hA.2 off (by rw [← Array.getElem?_toList] at hoff; exact List.mem_of_getElem? hoff)
        exact lv_tableIn hx hb hd h1.1 h1.2 hoff (am_jmp_ok (of_decide_eq_true h2)) (one h)
      · cases h
  | lookupswitch df ps =>
    replace h := am_i1_some h
    obtain ⟨u, t, rfl, h⟩ := h
    simp only [am_okA, Bool.and_eq_true] at hA
    exact lv_lookup hx hb hd hA.1 rfl (am_jmp_ok (am_off pc _ _ _ (of_decide_eq_true hA.2.1) hA.2.2)) (one h)
  | getfield q =>
    have hn := am_n (k := 3) (by decide) hn
    subst hn
    replace h := am_r1_some h
    obtain ⟨a, t, rfl, h⟩ := h
    simp only [am_okA] at hA
    split at hA
    · split at hA
      · rename_i u hu
        simp only [Bool.and_eq_true] at hA
        dsimp only at h
        split at h
        · rename_i v1 hv1
          exact am_get hx hb hts hown hK hP hv1 hu (by have := Nat.le_of_ble_eq_true hA.1; omega) (am_at_in hA.2) hd (one h)
        · cases h
      · cases hA
    · dsimp only at h
      split at h
      · rename_i v1 hv1
        exact am_sfl_r hx hb hE.2.2.2.2.2.2.1 hS hown hv1 (hts _ (am_at_in hA)) hd (one h)
      · cases h
    · cases hA
  | putfield q =>
    have hn := am_n (k := 3) (by decide) hn
    subst hn
    replace h := am_vr_some h
    obtain ⟨a, v1, t, rfl, h⟩ := h
    simp only [am_okA] at hA
    split at hA
    · split at hA
      · rename_i u hu
        simp only [Bool.and_eq_true, Bool.or_eq_true, Bool.not_eq_true', decide_eq_true_eq] at hA
        exact am_put_r hx hb hts hown hS hK hP h hu (by have := Nat.le_of_ble_eq_true hA.1; omega) (am_at_in hA.2.1) (hA.2.2.imp id (fun z9 => ⟨hnm z9.1, z9.2⟩)) hd (fun w1 H1 locs1 h1 h2 h3 h4 h5 => mem rfl h1 h2 h3 h4 h5)
      · cases hA
    · cases hA
  | getstatic q =>
    have hn := am_n (k := 3) (by decide) hn
    subst hn
    simp only [am_okA] at hA
    split at hA
    · simp only [Bool.and_eq_true] at hA
      have h1 := Nat.eq_of_beq_eq_true hA.1
      subst h1
      have hZ := hE.2.2.2.1
      rw [← am_r_ge (B := B) (x := x) (i := 1004) (by decide)] at hZ
      exact va_gets hx hb hZ hS hown (hts _ (am_at_in hA.2)) (fun _ h9 => h9) hd (one h)
    · exact va_gets hx hb hE.2.2.2.2.2.2.2 hS hown (hts _ (am_at_in hA)) (fun _ h9 => h9) hd (one h)
    · cases hA
  | iaload =>
    have hn := am_n (k := 1) (by decide) hn
    subst hn
    replace h := am_ir_some h
    obtain ⟨a, j, t, rfl, h⟩ := h
    split at h
    · rename_i u hu
      exact am_ald_r hx hb hE.1 hz hS hK hP hu hd (one h)
    · cases h
  | iastore =>
    have hn := am_n (k := 1) (by decide) hn
    subst hn
    replace h := am_iir_some h
    obtain ⟨a, j, u, t, rfl, h⟩ := h
    exact am_ast_r hx hb hS hK hP h hd (fun w1 H1 locs1 h1 h2 h3 h4 => mem rfl h1 (by rw [h2]) (by rw [h2]) h3 h4)
  | aaload =>
    have hn := am_n (k := 1) (by decide) hn
    subst hn
    replace h := am_ir_some h
    obtain ⟨a, j, t, rfl, h⟩ := h
    split at h
    · rename_i u hu
      exact am_rld_r hx hb hK hP hu hd (one h)
    · cases h
  | aastore =>
    have hn := am_n (k := 1) (by decide) hn
    subst hn
    replace h := am_rir_some h
    obtain ⟨a, j, b, t, rfl, h⟩ := h
    exact am_rst_r hx hb hS hK hP h hd (fun w1 H1 locs1 h1 h2 h3 h4 h5 => mem rfl h1 h2 h3 h4 h5)
  | arraylength =>
    have hn := am_n (k := 1) (by decide) hn
    subst hn
    replace h := am_r1_some h
    obtain ⟨a, t, rfl, h⟩ := h
    split at h
    · rename_i u hu
      exact am_len_r hx hb hE.1 hz hE.2.2.2.2.2.2.1 hS hK hP hu hd (one h)
    · cases h
  | new q =>
    have hn := am_n (k := 3) (by decide) hn
    subst hn
    simp only [am_okA] at hA
    split at hA
    · split at hA
      · rename_i ci _ _ _ _ u hu
        simp only [Bool.and_eq_true] at hA
        obtain ⟨h1, h⟩ := am_bif0 h
        have hl := hkl _ _ _ _ h
        have hlen : (am_blank ci).length = u.2.2 := by rw [am_blank_len, (am_cls _ _ hu).2.2.2]; rfl
        have hl1 := hl.1
        have hl2 := hl.2
        simp only [List.length_append, List.length_cons, List.length_nil] at hl1
        rw [am_sl_app] at hl2
        simp only [am_sl, am_sz, hlen] at hl2
        exact am_new_r hx hb hts hown hS hK hP hu (am_at_in hA.1) (am_at_in hA.2.1) (am_at_in hA.2.2) (by have := Nat.le_of_ble_eq_true h1; omega) (by omega) (by omega) hd (fun H1 h3 h4 => hk _ _ _ _ _ _ _ _ _ h h3 h4 hH rfl (by simp; omega) (by rw [am_sl_app]; simp only [am_sl, am_sz, hlen]; omega))
      · cases hA
    · cases hA
  | newarray q =>
    have hn := am_n (k := 2) (by decide) hn
    subst hn
    replace h := am_i1_some h
    obtain ⟨u, t, rfl, h⟩ := h
    simp only [am_okA, decide_eq_true_eq] at hA
    subst hA
    obtain ⟨h1, h⟩ := am_bif0 h
    simp only [Bool.and_eq_true] at h1
    have hl := hkl _ _ _ _ h
    have hl1 := hl.1
    have hl2 := hl.2
    simp only [List.length_append, List.length_cons, List.length_nil] at hl1
    rw [am_sl_app] at hl2
    simp only [am_sl, am_sz] at hl2
    exact am_newa_r hx hb hts hS hK hP h1.2 (by have := Nat.le_of_ble_eq_true h1.1; omega) am_w4.2.2 (by omega) (by omega) hd (fun H1 h3 h4 => hk _ _ _ _ _ _ _ _ _ h h3 h4 hH rfl (by simp; omega) (by rw [am_sl_app]; simp only [am_sl, am_sz]; omega))
  | anewarray q =>
    have hn := am_n (k := 3) (by decide) hn
    subst hn
    replace h := am_i1_some h
    obtain ⟨u, t, rfl, h⟩ := h
    simp only [am_okA] at hA
    split at hA
    · obtain ⟨h1, h⟩ := am_bif0 h
      simp only [Bool.and_eq_true] at h1
      have hl := hkl _ _ _ _ h
      have hl1 := hl.1
      have hl2 := hl.2
      simp only [List.length_append, List.length_cons, List.length_nil] at hl1
      rw [am_sl_app] at hl2
      simp only [am_sl, am_sz, List.length_replicate] at hl2
      exact am_newq_r hx hb hts hown hS hK hP hE.2.2.2.2.1 h1.2 (by have := Nat.le_of_ble_eq_true h1.1; omega) (am_at_in hA) (by omega) (by omega) hd (fun H1 h3 h4 => hk _ _ _ _ _ _ _ _ _ h h3 h4 hH rfl (by simp; omega) (by rw [am_sl_app]; simp only [am_sl, am_sz, List.length_replicate]; omega))
    · cases hA
  | multianewarray q dm =>
    have hn := am_n (k := 4) (by decide) hn
    subst hn
    replace h := am_i2_some h
    obtain ⟨u, z, t, rfl, h⟩ := h
    simp only [am_okA, Bool.and_eq_true] at hA
    have hdm := Nat.eq_of_beq_eq_true hA.1
    subst hdm
    have hA := hA.2
    split at hA
    · obtain ⟨h1, h⟩ := am_bif0 h
      simp only [Bool.and_eq_true] at h1
      have hl := hkl _ _ _ _ h
      have hl1 := hl.1
      have hl2 := hl.2
      have hrep : am_sl (List.replicate u.toNatClampNeg (.inr (.inl z.toNatClampNeg))) = u.toNatClampNeg * z.toNatClampNeg := by
        generalize u.toNatClampNeg = uu
        induction uu with
        | zero => simp [am_sl]
        | succ j ih => simp only [List.replicate_succ, am_sl, am_sz, ih, Nat.succ_mul]; omega
      simp only [List.length_append, List.length_cons, List.length_replicate] at hl1
      rw [am_sl_app] at hl2
      simp only [am_sl, am_sz, hrep, List.length_map, List.length_range] at hl2
      exact am_newm_r hx hb hts hown hS hK hP hE.2.2.2.2.2.1 h1.2.1 h1.2.2 (by have := Nat.le_of_ble_eq_true h1.1; omega) am_w4.2.2 (am_at_in hA) (by omega) (by omega) hd (fun H1 h3 h4 => hk _ _ _ _ _ _ _ _ _ h h3 h4 hH rfl (by simp; omega) (by rw [am_sl_app]; simp only [am_sl, am_sz, hrep, List.length_map, List.length_range]; omega))
    · cases hA
  | invokevirtual q =>
    have hn := am_n (k := 3) (by decide) hn
    subst hn
    simp only [am_okA] at hA
    split at hA
    · rename_i t na ci p1 p2 p3
      simp only [am_ex] at h
      obtain ⟨hna, hcat, hrc, o1, ho1, h⟩ := am_cal_some h
      obtain ⟨hle, dp, M, hM, hf1, hf2, hmet⟩ := hC _ _ _ _ ho1
      rw [hM] at hA
      simp only [Bool.and_eq_true] at hA
      obtain ⟨w1, w2, w3, w4, w5, w6⟩ := hA
      obtain ⟨b, z, hb1, hb2, hb3⟩ := hrc rfl
      obtain ⟨as, has⟩ := am_head hb1
      rw [has] at ho1 hmet
      have hnp : am_np M + 1 = na := Nat.eq_of_beq_eq_true w4
      have hlas : as.length = am_np M := by
        have := congrArg List.length has
        simp only [List.length_reverse, List.length_take, List.length_cons] at this
        omega
      have hcb := am_cb (s := s) (args := args) (mc := am_mc w o1) (ms := am_ms w o1) (i := q) (own := y.cls) hts hM w5 hf1 hf2 rfl
      have hmc : am_mc w o1 + w.1.length = o1.2.1.length := by have := hle.1; show o1.2.1.length - w.1.length + w.1.length = _; omega
      have hms : am_ms w o1 + am_sl w.1 = am_sl o1.2.1 := by have := hle.2; show am_sl o1.2.1 - am_sl w.1 + am_sl w.1 = _; omega
      have hkk := hkl _ _ _ _ h
      have hk1 := hkk.1
      have hk2 := hkk.2
      have hend : ∀ (H1 : Heap) (locs1 : List Loc), am_P B x dC dI d o1.2 H1 → va_S (fun q : Nat => B ≤ q) s.heap H1 locs1 → W p l e R s m args below meth c H1 locs1 (cells + am_mc w o1) (slots + am_ms w o1) Q (F0 m (pc + 3) ls ((o1.1.map (am_c (am_r B x))).toList ++ (st.drop na).map (am_c (am_r B x)))) := by
        intro H1 locs1 hP1 hS1
        have hfin := hk _ _ _ _ _ _ (cells + am_mc w o1) (slots + am_ms w o1) _ h hP1 hS1 hH rfl (by omega) (by omega)
        rw [List.map_append] at hfin
        cases ho : o1.1 with
        | none => rw [ho] at hfin; exact hfin
        | some v1 => rw [ho] at hfin; exact hfin
      split at w6
      · rename_i cc1 hcc1
        have hcls := of_decide_eq_true w6
        have hst : st.map (am_c (am_r B x)) = (as.map (am_c (am_r B x))).reverse ++ .ref (am_r B x b) :: (st.drop na).map (am_c (am_r B x)) := by
          rw [am_take (am_r B x) hna, has]
          simp [am_c]
        rw [hst]
        refine am_go (mc := am_mc w o1) (ms := am_ms w o1) (rest := (st.drop na).map (am_c (am_r B x))) (o1 := o1) (va_runV (nL := lv.length) (Ts := am_TB) (As := as.map (am_c (am_r B x))) (b := am_r B x b) (C := M.1.cls) (n := am_np M) ⟨hx, hb, hml, hown, hts⟩ (hmet w5) ⟨⟨hcb.1, hcb.2.1, hcb.2.2.1, hcb.2.2.2.1, hcb.2.2.2.2.1, hcb.2.2.2.2.2.1, hcb.2.2.2.2.2.2.1, hcb.2.2.2.2.2.2.2.1, hcb.2.2.2.2.2.2.2.2.1, hcb.2.2.2.2.2.2.2.2.2, hts _ (am_at_in w1)⟩, hts _ (am_at_in w2), hts _ (am_at_in w3)⟩ ⟨am_blind, ?_, fun U hU hW => ⟨rfl, am_pre hz hE hK hS hP hU hW⟩⟩ rfl (by simpa using hlas) hsz rfl (lv_room (am_cat_ok (am_r B x) hcat)) hd ⟨by omega, by omega⟩) hS hend
        obtain ⟨z1, z2⟩ := z
        dsimp only at hb3
        subst hb3
        have hrv := va_recv (a := am_r B x b) (fs := am_fs (am_r B x) (w.2 b) 0 z2) (q := cc1) hK hP.1 (ci := z1) (q0 := b) hcc1 (hP.get hb2)
        rw [hcls] at hrv
        exact hrv
      · cases w6
    · rename_i t na p1 p2 p3
      simp only [am_ex] at h
      obtain ⟨hsr, h⟩ := am_bif0 h
      obtain ⟨hna, hcat, -, o1, ho1, h⟩ := am_cal_some h
      obtain ⟨hle, dp, M, hM, hf1, hf2, hmet⟩ := hC _ _ _ _ ho1
      rw [hM] at hA
      simp only [Bool.and_eq_true] at hA
      obtain ⟨w1, w2, w3, w4, w5, w6⟩ := hA
      obtain ⟨b, as, has, hbi⟩ := am_srv_at hsr
      rw [has] at ho1 hmet
      have hnp : am_np M + 1 = na := Nat.eq_of_beq_eq_true w4
      have hlas : as.length = am_np M := by
        have := congrArg List.length has
        simp only [List.length_reverse, List.length_take, List.length_cons] at this
        omega
      have hcb := am_cb (s := s) (args := args) (mc := am_mc w o1) (ms := am_ms w o1) (i := q) (own := y.cls) hts hM w5 hf1 hf2 rfl
      have hmc : am_mc w o1 + w.1.length = o1.2.1.length := by have := hle.1; show o1.2.1.length - w.1.length + w.1.length = _; omega
      have hms : am_ms w o1 + am_sl w.1 = am_sl o1.2.1 := by have := hle.2; show am_sl o1.2.1 - am_sl w.1 + am_sl w.1 = _; omega
      have hkk := hkl _ _ _ _ h
      have hk1 := hkk.1
      have hk2 := hkk.2
      have hend : ∀ (H1 : Heap) (locs1 : List Loc), am_P B x dC dI d o1.2 H1 → va_S (fun q : Nat => B ≤ q) s.heap H1 locs1 → W p l e R s m args below meth c H1 locs1 (cells + am_mc w o1) (slots + am_ms w o1) Q (F0 m (pc + 3) ls ((o1.1.map (am_c (am_r B x))).toList ++ (st.drop na).map (am_c (am_r B x)))) := by
        intro H1 locs1 hP1 hS1
        have hfin := hk _ _ _ _ _ _ (cells + am_mc w o1) (slots + am_ms w o1) _ h hP1 hS1 hH rfl (by omega) (by omega)
        rw [List.map_append] at hfin
        cases ho : o1.1 with
        | none => rw [ho] at hfin; exact hfin
        | some v1 => rw [ho] at hfin; exact hfin
      have hst : st.map (am_c (am_r B x)) = (as.map (am_c (am_r B x))).reverse ++ .ref (am_r B x b) :: (st.drop na).map (am_c (am_r B x)) := by
        rw [am_take (am_r B x) hna, has]
        simp [am_c]
      rw [hst]
      refine am_go (mc := am_mc w o1) (ms := am_ms w o1) (rest := (st.drop na).map (am_c (am_r B x))) (o1 := o1) (va_runV (nL := lv.length) (Ts := am_TB) (As := as.map (am_c (am_r B x))) (b := am_r B x b) (C := "java/lang/String") (n := am_np M) ⟨hx, hb, hml, hown, hts⟩ (hmet w5) ⟨⟨hcb.1, hcb.2.1, hcb.2.2.1, hcb.2.2.2.1, hcb.2.2.2.2.1, hcb.2.2.2.2.2.1, hcb.2.2.2.2.2.2.1, hcb.2.2.2.2.2.2.2.1, hcb.2.2.2.2.2.2.2.2.1, hcb.2.2.2.2.2.2.2.2.2, hts _ (am_at_in w1)⟩, hts _ (am_at_in w2), by have := hts _ (am_at_in w3); rw [← of_decide_eq_true w6]; exact this⟩ ⟨am_blind, ?_, fun U hU hW => ⟨rfl, am_pre hz hE hK hS hP hU hW⟩⟩ rfl (by simpa using hlas) hsz rfl (lv_room (am_cat_ok (am_r B x) hcat)) hd ⟨by omega, by omega⟩) hS hend
      obtain ⟨j, hj, rfl⟩ := am_iss_at hbi
      rw [am_r_ge (by omega)]
      exact vk_recv (N := 3) (len := am_sl3) (byt := am_sb3) (adK := fun i => x (1000 + i)) (adV := fun i => x (1010 + i)) (i := j) hE.2.2.2.2.2.2.1 hj hS
    · cases hA
  | invokestatic q =>
    have hn := am_n (k := 3) (by decide) hn
    subst hn
    simp only [am_okA] at hA
    split at hA
    · rename_i t na _ p1 p2
      simp only [am_ex] at h
      obtain ⟨hna, hcat, hrc, o1, ho1, h⟩ := am_cal_some h
      obtain ⟨hle, dp, M, hM, hf1, hf2, hmet⟩ := hC _ _ _ _ ho1
      rw [hM] at hA
      simp only [Bool.and_eq_true] at hA
      obtain ⟨w1, w2, w4, w5⟩ := hA
      have hnp : am_np M = na := Nat.eq_of_beq_eq_true w4
      generalize has : (st.take na).reverse = as at ho1 hmet
      have hlas : as.length = am_np M := by
        have := congrArg List.length has
        simp only [List.length_reverse, List.length_take] at this
        omega
      have hcb := am_cb (s := s) (args := args) (mc := am_mc w o1) (ms := am_ms w o1) (i := q) (own := y.cls) hts hM w5 hf1 hf2 rfl
      have hmc : am_mc w o1 + w.1.length = o1.2.1.length := by have := hle.1; show o1.2.1.length - w.1.length + w.1.length = _; omega
      have hms : am_ms w o1 + am_sl w.1 = am_sl o1.2.1 := by have := hle.2; show am_sl o1.2.1 - am_sl w.1 + am_sl w.1 = _; omega
      have hkk := hkl _ _ _ _ h
      have hk1 := hkk.1
      have hk2 := hkk.2
      have hend : ∀ (H1 : Heap) (locs1 : List Loc), am_P B x dC dI d o1.2 H1 → va_S (fun q : Nat => B ≤ q) s.heap H1 locs1 → W p l e R s m args below meth c H1 locs1 (cells + am_mc w o1) (slots + am_ms w o1) Q (F0 m (pc + 3) ls ((o1.1.map (am_c (am_r B x))).toList ++ (st.drop na).map (am_c (am_r B x)))) := by
        intro H1 locs1 hP1 hS1
        have hfin := hk _ _ _ _ _ _ (cells + am_mc w o1) (slots + am_ms w o1) _ h hP1 hS1 hH rfl (by omega) (by omega)
        rw [List.map_append] at hfin
        cases ho : o1.1 with
        | none => rw [ho] at hfin; exact hfin
        | some v1 => rw [ho] at hfin; exact hfin
      have hst : st.map (am_c (am_r B x)) = (as.map (am_c (am_r B x))).reverse ++ (st.drop na).map (am_c (am_r B x)) := by
        rw [am_take (am_r B x) hna, has]
      rw [hst]
      exact am_go (mc := am_mc w o1) (ms := am_ms w o1) (rest := (st.drop na).map (am_c (am_r B x))) (o1 := o1) (va_runS (nL := lv.length) (Ts := am_TB) (As := as.map (am_c (am_r B x))) (n := am_np M) ⟨hx, hb, hml, hown, hts⟩ (hmet w5) ⟨⟨hcb.1, hcb.2.1, hcb.2.2.1, hcb.2.2.2.1, hcb.2.2.2.2.1, hcb.2.2.2.2.2.1, hcb.2.2.2.2.2.2.1, hcb.2.2.2.2.2.2.2.1, hcb.2.2.2.2.2.2.2.2.1, hcb.2.2.2.2.2.2.2.2.2, hts _ (am_at_in w1)⟩, hts _ (am_at_in w2)⟩ ⟨am_blind, fun U hU hW => ⟨rfl, am_pre hz hE hK hS hP hU hW⟩⟩ rfl (by simpa using hlas) hsz rfl (lv_room (am_cat_ok (am_r B x) hcat)) hd ⟨by omega, by omega⟩) hS hend
    · simp only [am_ex] at h
      split at h
      · rename_i n1 dp1 b1 sp1 a1 t1
        obtain ⟨hcat, h⟩ := am_bif0 h
        obtain ⟨na, nb, ha, hb2, ⟨h1, h2, h3⟩, h4, h5, h⟩ := am_acp_some h
        exact am_acp_r hx hb (by rw [hml, hsz]) hts hown (am_at_in hA) hS hK hP ha hb2 h1 h2 h3 h4 h5 hRf (by
          have := am_cat_ok (am_r B x) hcat
          have e : nativeFrameWords "java/lang/System" "arraycopy" 5 + 11 ≤ 40 := by decide +kernel
          omega) hd (fun H1 locs1 hP1 hS1 => mem rfl h rfl rfl hP1 hS1)
      · cases h
    · simp only [am_ex] at h
      replace h := am_i2_some h
      obtain ⟨u, z, t, rfl, h⟩ := h
      obtain ⟨hcat, h⟩ := am_bif0 h
      exact va_mmax hx hb (by rw [hml, hsz]) hown (hts _ (am_at_in hA)) (hts _ am_w2.1) (hts _ am_w2.2.2.2) (hts _ am_w3.1) hRf (by have := am_cat_ok (am_r B x) hcat; omega) (by have := (hkl _ _ _ _ h).1; omega) (by have := (hkl _ _ _ _ h).2; omega) hd (one h)
    · simp only [am_ex] at h
      replace h := am_i2_some h
      obtain ⟨u, z, t, rfl, h⟩ := h
      obtain ⟨hcat, h⟩ := am_bif0 h
      exact va_mmin hx hb (by rw [hml, hsz]) hown (hts _ (am_at_in hA)) (hts _ am_w2.2.1) (hts _ am_w2.2.2.2) (hts _ am_w3.2.1) hRf (by have := am_cat_ok (am_r B x) hcat; omega) (by have := (hkl _ _ _ _ h).1; omega) (by have := (hkl _ _ _ _ h).2; omega) hd (one h)
    · simp only [am_ex] at h
      replace h := am_i1_some h
      obtain ⟨u, t, rfl, h⟩ := h
      obtain ⟨hcat, h⟩ := am_bif0 h
      exact va_mabs hx hb (by rw [hml, hsz]) hown (hts _ (am_at_in hA)) (hts _ am_w2.2.2.1) (hts _ am_w2.2.2.2) (hts _ am_w3.2.2) hRf (by have := am_cat_ok (am_r B x) hcat; omega) (by have := (hkl _ _ _ _ h).1; omega) (by have := (hkl _ _ _ _ h).2; omega) hd (one h)
    · simp only [am_ex] at h
      cases h
    · cases hA
  | invokespecial q =>
    have hn := am_n (k := 3) (by decide) hn
    subst hn
    simp only [am_okA] at hA
    split at hA
    · rename_i t na _ p1 p2
      simp only [am_ex] at h
      obtain ⟨hisp, h⟩ := am_bif0 h
      obtain ⟨hna, hcat, hrc, o1, ho1, h⟩ := am_cal_some h
      obtain ⟨hle, dp, M, hM, hf1, hf2, hmet⟩ := hC _ _ _ _ ho1
      rw [hM] at hA
      simp only [Bool.and_eq_true, decide_eq_true_eq] at hA
      obtain ⟨w1, w2, w4, w5, w6, w7⟩ := hA
      have hnp : am_np M + 1 = na := Nat.eq_of_beq_eq_true w4
      have hne : ∃ b as, (st.take na).reverse = .ref b :: as := am_isp_some hisp
      obtain ⟨b, as, has⟩ := hne
      rw [has] at ho1 hmet
      have hlas : as.length = am_np M := by
        have := congrArg List.length has
        simp only [List.length_reverse, List.length_take, List.length_cons] at this
        omega
      have hcb := am_cb (s := s) (args := args) (mc := am_mc w o1) (ms := am_ms w o1) (i := q) (own := y.cls) hts hM w5 hf1 hf2 rfl
      have hmc : am_mc w o1 + w.1.length = o1.2.1.length := by have := hle.1; show o1.2.1.length - w.1.length + w.1.length = _; omega
      have hms : am_ms w o1 + am_sl w.1 = am_sl o1.2.1 := by have := hle.2; show am_sl o1.2.1 - am_sl w.1 + am_sl w.1 = _; omega
      have hkk := hkl _ _ _ _ h
      have hk1 := hkk.1
      have hk2 := hkk.2
      have hend : ∀ (H1 : Heap) (locs1 : List Loc), am_P B x dC dI d o1.2 H1 → va_S (fun q : Nat => B ≤ q) s.heap H1 locs1 → W p l e R s m args below meth c H1 locs1 (cells + am_mc w o1) (slots + am_ms w o1) Q (F0 m (pc + 3) ls ((o1.1.map (am_c (am_r B x))).toList ++ (st.drop na).map (am_c (am_r B x)))) := by
        intro H1 locs1 hP1 hS1
        have hfin := hk _ _ _ _ _ _ (cells + am_mc w o1) (slots + am_ms w o1) _ h hP1 hS1 hH rfl (by omega) (by omega)
        rw [List.map_append] at hfin
        cases ho : o1.1 with
        | none => rw [ho] at hfin; exact hfin
        | some v1 => rw [ho] at hfin; exact hfin
      have hst : st.map (am_c (am_r B x)) = (as.map (am_c (am_r B x))).reverse ++ .ref (am_r B x b) :: (st.drop na).map (am_c (am_r B x)) := by
        rw [am_take (am_r B x) hna, has]
        simp [am_c]
      rw [hst]
      rw [w7] at hcb
      exact am_go (mc := am_mc w o1) (ms := am_ms w o1) (rest := (st.drop na).map (am_c (am_r B x))) (o1 := o1) (va_runI (nL := lv.length) (Ts := am_TB) (As := as.map (am_c (am_r B x))) (b := am_r B x b) (n := am_np M) ⟨hx, hb, hml, hown, hts⟩ (hmet w5) ⟨⟨hcb.1, hcb.2.1, hcb.2.2.1, hcb.2.2.2.1, hcb.2.2.2.2.1, hcb.2.2.2.2.2.1, hcb.2.2.2.2.2.2.1, hcb.2.2.2.2.2.2.2.1, hcb.2.2.2.2.2.2.2.2.1, hcb.2.2.2.2.2.2.2.2.2, hts _ (am_at_in w1)⟩, w6, hts _ (am_at_in w2)⟩ ⟨am_blind, fun U hU hW => ⟨rfl, am_pre hz hE hK hS hP hU hW⟩⟩ rfl (by simpa using hlas) hsz rfl (lv_room (am_cat_ok (am_r B x) hcat)) hd ⟨by omega, by omega⟩) hS hend
    · rename_i t na _ _ p2
      simp only [am_ex] at h
      obtain ⟨hisp, h⟩ := am_bif0 h
      obtain ⟨hna, hcat, hrc, o1, ho1, h⟩ := am_cal_some h
      obtain ⟨hle, dp, M, hM, hf1, hf2, hmet⟩ := hC _ _ _ _ ho1
      rw [hM] at hA
      simp only [Bool.and_eq_true, decide_eq_true_eq] at hA
      obtain ⟨w1, w2, w4, w5, w6, w7⟩ := hA
      have hnp : am_np M + 1 = na := Nat.eq_of_beq_eq_true w4
      have hne : ∃ b as, (st.take na).reverse = .ref b :: as := am_isp_some hisp
      obtain ⟨b, as, has⟩ := hne
      rw [has] at ho1 hmet
      have hlas : as.length = am_np M := by
        have := congrArg List.length has
        simp only [List.length_reverse, List.length_take, List.length_cons] at this
        omega
      have hcb := am_cb (s := s) (args := args) (mc := am_mc w o1) (ms := am_ms w o1) (i := q) (own := y.cls) hts hM w5 hf1 hf2 rfl
      have hmc : am_mc w o1 + w.1.length = o1.2.1.length := by have := hle.1; show o1.2.1.length - w.1.length + w.1.length = _; omega
      have hms : am_ms w o1 + am_sl w.1 = am_sl o1.2.1 := by have := hle.2; show am_sl o1.2.1 - am_sl w.1 + am_sl w.1 = _; omega
      have hkk := hkl _ _ _ _ h
      have hk1 := hkk.1
      have hk2 := hkk.2
      have hend : ∀ (H1 : Heap) (locs1 : List Loc), am_P B x dC dI d o1.2 H1 → va_S (fun q : Nat => B ≤ q) s.heap H1 locs1 → W p l e R s m args below meth c H1 locs1 (cells + am_mc w o1) (slots + am_ms w o1) Q (F0 m (pc + 3) ls ((o1.1.map (am_c (am_r B x))).toList ++ (st.drop na).map (am_c (am_r B x)))) := by
        intro H1 locs1 hP1 hS1
        have hfin := hk _ _ _ _ _ _ (cells + am_mc w o1) (slots + am_ms w o1) _ h hP1 hS1 hH rfl (by omega) (by omega)
        rw [List.map_append] at hfin
        cases ho : o1.1 with
        | none => rw [ho] at hfin; exact hfin
        | some v1 => rw [ho] at hfin; exact hfin
      have hst : st.map (am_c (am_r B x)) = (as.map (am_c (am_r B x))).reverse ++ .ref (am_r B x b) :: (st.drop na).map (am_c (am_r B x)) := by
        rw [am_take (am_r B x) hna, has]
        simp [am_c]
      rw [hst]
      rw [w7] at hcb
      exact am_go (mc := am_mc w o1) (ms := am_ms w o1) (rest := (st.drop na).map (am_c (am_r B x))) (o1 := o1) (va_runIN (nL := lv.length) (Ts := am_TB) (As := as.map (am_c (am_r B x))) (b := am_r B x b) (n := am_np M) (host := "WellRefuses") ⟨hx, hb, hml, hown, hts⟩ (hmet w5) ⟨⟨⟨hcb.1, hcb.2.1, hcb.2.2.1, hcb.2.2.2.1, hcb.2.2.2.2.1, hcb.2.2.2.2.2.1⟩, hcb.2.2.2.2.2.2.1, hcb.2.2.2.2.2.2.2.1, hcb.2.2.2.2.2.2.2.2.1, hcb.2.2.2.2.2.2.2.2.2, va_Nw.use rfl (hE.2.1 _ w1 M hM)⟩, w6, hts _ (am_at_in w2)⟩ ⟨am_blind, fun U hU hW => ⟨rfl, am_pre hz hE hK hS hP hU hW⟩⟩ rfl (by simpa using hlas) hsz rfl (lv_room (am_cat_ok (am_r B x) hcat)) hd ⟨by omega, by omega⟩) hS hend
    · simp only [am_ex] at h
      replace h := am_r1_some h
      obtain ⟨a, t, rfl, h⟩ := h
      obtain ⟨hcat, h⟩ := am_bif0 h
      refine W.objInit hx hb hown (hts _ (am_at_in hA)) (hts _ am_w4.1) (hts _ am_w4.2.1) rfl (by rw [hml]; exact hsz) rfl hd hRf ?_ (one h)
      have := am_cat_ok (am_r B x) hcat
      show 2 * 0 + _ + 12 ≤ _
      omega
    · cases hA
  | ireturn =>
    have hn := am_n (k := 1) (by decide) hn
    subst hn
    simp only [am_ex] at h
    split at h
    · obtain ⟨h1, h⟩ := am_bif0 h
      cases h
      exact hrI _ _ rfl h1 rfl hd
    · cases h
  | areturn =>
    have hn := am_n (k := 1) (by decide) hn
    subst hn
    simp only [am_ex] at h
    split at h
    · obtain ⟨h1, h⟩ := am_bif0 h
      cases h
      exact hrA _ _ rfl h1 rfl hd
    · cases h
  | return_ =>
    have hn := am_n (k := 1) (by decide) hn
    subst hn
    simp only [am_ex] at h
    split at h
    · cases h
      exact hrV rfl rfl hd
    · cases h
  | _ => cases h
end AMX
