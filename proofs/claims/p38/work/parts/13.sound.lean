theorem am_off (pc : Nat) : ∀ (ps : List (Int × Int)) (d k : Int), 0 ≤ (pc : Int) + d → (ps.all fun q => decide (0 ≤ (pc : Int) + q.2)) = true → 0 ≤ (pc : Int) + Op.lookupswitch.offset ps d k
  | [], d, k, h, _ => by rw [Op.lookupswitch.offset_nil]; exact h
  | (a, o) :: t, d, k, h, h2 => by
    simp only [List.all_cons, Bool.and_eq_true, decide_eq_true_eq] at h2
    rw [Op.lookupswitch.offset_cons]
    split
    · exact h2.1
    · exact am_off pc t d k h h2.2
theorem am_jmp_ok {pc : Nat} {off : Int} (h : 0 ≤ (pc : Int) + off) : (pc : Int) + off = (am_jmp pc off : Int) := by
  unfold am_jmp
  omega
theorem am_head {st : List Value} {na : Nat} {b : Nat} (h : ((st.take na).reverse).head? = some (.ref b)) : ∃ as, (st.take na).reverse = .ref b :: as := by
  cases hs : (st.take na).reverse with
  | nil => rw [hs] at h; cases h
  | cons v t => rw [hs] at h; cases h; exact ⟨t, rfl⟩
theorem am_acp_some {w : am_M} {a b : Nat} {sp dp n : Int32} {K : am_M → am_O} {o : Option Value × am_M} (h : am_acp w a b sp dp n K = some o) : ∃ na nb, w.1[a]? = some (.inr (.inl na)) ∧ w.1[b]? = some (.inr (.inl nb)) ∧ (¬ sp < 0 ∧ ¬ dp < 0 ∧ ¬ n < 0) ∧ sp.toNatClampNeg + n.toNatClampNeg ≤ na ∧ dp.toNatClampNeg + n.toNatClampNeg ≤ nb ∧ K (w.1, am_cpy w.2 a b sp.toNatClampNeg dp.toNatClampNeg n.toNatClampNeg) = some o := by
  unfold am_acp at h
  split at h
  · rename_i na nb h1 h2
    obtain ⟨hc, h⟩ := am_bif0 h
    simp only [Bool.and_eq_true, Bool.not_eq_true', decide_eq_false_iff_not] at hc
    exact ⟨na, nb, h1, h2, hc.1, Nat.le_of_ble_eq_true hc.2.1, Nat.le_of_ble_eq_true hc.2.2, h⟩
  · cases h
theorem am_w1 : Cond.native arraycopyName ∈ am_TB ∧ Cond.static arraycopyName ∈ am_TB ∧ Cond.initialized "java/lang/System" ∈ am_TB := ⟨List.mem_filter.mpr (by decide +kernel), List.mem_filter.mpr (by decide +kernel), List.mem_filter.mpr (by decide +kernel)⟩
theorem am_w2 : Cond.static Lib.Math.max.name ∈ am_TB ∧ Cond.static Lib.Math.min.name ∈ am_TB ∧ Cond.static Lib.Math.abs.name ∈ am_TB ∧ Cond.initialized "java/lang/Math" ∈ am_TB := ⟨List.mem_filter.mpr (by decide +kernel), List.mem_filter.mpr (by decide +kernel), List.mem_filter.mpr (by decide +kernel), List.mem_filter.mpr (by decide +kernel)⟩
theorem am_w3 : Cond.code Lib.Math.max.name Lib.Math.max.code 2 (some .int) ∈ am_TB ∧ Cond.code Lib.Math.min.name Lib.Math.min.code 2 (some .int) ∈ am_TB ∧ Cond.code Lib.Math.abs.name Lib.Math.abs.code 1 (some .int) ∈ am_TB := ⟨List.mem_filter.mpr (by decide +kernel), List.mem_filter.mpr (by decide +kernel), List.mem_filter.mpr (by decide +kernel)⟩
theorem am_w4 : Cond.instanceMethod Lib.objectInit ∈ am_TB ∧ Cond.code Lib.objectInit ⟨#[0xb1]⟩ 1 none ∈ am_TB ∧ Cond.arrayClass .int ∈ am_TB := ⟨List.mem_filter.mpr (by decide +kernel), List.mem_filter.mpr (by decide +kernel), List.mem_filter.mpr (by decide +kernel)⟩
section AMS
variable {p : Program} {l : Launch} {e : Env} {R : Room} {s : State} {m : MethodId} {args : Array Value} {below : List Frame} {meth : Method} {c : Code} {H : Heap} {locs : List Loc} {cells slots : Nat} {Q : State → Prop}
variable {cc : ByteArray} {pc : Nat} {ls : Array Slot} {rest : List Value} {B : Nat} {x : Nat → Nat} {dC : Nat → ClassId} {dI : Nat → Nat → Nat} {d : am_D} {X : am_X} {w : am_M}
/-- System.arraycopy: as the kit's, and the heap is no larger -/
theorem am_acp_r (hx : p.tables.exec = Jvm.exec) (hb : c.code = cc) (hml : c.maxLocals = ls.size) {own : String} {index : Nat} (hts : ∀ w ∈ am_TB, w.before args s = true) (hown : s.vm.findClass own = some m.cls) (hl : Cond.methodLink own index arraycopyName ∈ am_TB) (hS : va_S (fun q : Nat => B ≤ q) s.heap H locs) (hK : va_K (dC, dI) vwCl (am_ts d) s) (hP : am_P B x dC dI d w H)
    {a b na nb : Nat} {sp dp n : Int32} (ha : w.1[a]? = some (.inr (.inl na))) (hb2 : w.1[b]? = some (.inr (.inl nb))) (h1 : ¬ sp < 0) (h2 : ¬ dp < 0) (h3 : ¬ n < 0) (h4 : sp.toNatClampNeg + n.toNatClampNeg ≤ na) (h5 : dp.toNatClampNeg + n.toNatClampNeg ≤ nb)
    (hframes : 1 ≤ R.frames) (hlocals : (rest.map fun v => v.category).sum + (nativeFrameWords "java/lang/System" "arraycopy" 5 + 11) ≤ R.locals) (hdg : decode cc pc = .ok (.invokestatic index, 3))
    (kk : ∀ (H1 : Heap) (locs1 : List Loc), am_P B x dC dI d (w.1, am_cpy w.2 a b sp.toNatClampNeg dp.toNatClampNeg n.toNatClampNeg) H1 → va_S (fun q : Nat => B ≤ q) s.heap H1 locs1 → W p l e R s m args below meth c H1 locs1 cells slots Q (F0 m (pc + 3) ls rest)) : W p l e R s m args below meth c H locs cells slots Q (F0 m pc ls (.int n :: .int dp :: .ref (am_r B x b) :: .int sp :: .ref (am_r B x a) :: rest)) := by
  have nn : ∀ z : Int32, ¬ z < 0 → z.toInt = (z.toNatClampNeg : Int) := by
    intro z hz
    have hz0 : (0 : Int) ≤ z.toInt := by
      have := Int32.not_lt.mp hz
      simpa using Int32.le_iff_toInt_le.mp this
    show z.toInt = ((z.toInt.toNat : Nat) : Int)
    omega
  intro T hT X9
  have hA := (hK.2 0 _ rfl).1
  have hc0 : H[am_r B x a]? = some (vp_cell d.1 (na, .inl (w.2 a))) := hP.1 a _ (hP.get ha)
  have hc1 : H[am_r B x b]? = some (vp_cell d.1 (nb, .inl (w.2 b))) := hP.1 b _ (hP.get hb2)
  obtain ⟨-, k0, hk0, cm0, hkk0⟩ := hA na (fun j => .int (w.2 a j))
  obtain ⟨-, k1, hk1, cm1, hkk1⟩ := hA nb (fun j => .int (w.2 b j))
  obtain ⟨vm', X', step⟩ := X9.arraycopy hx hown (hts _ hl) (hts _ am_w1.1) (hts _ am_w1.2.1) (hts _ am_w1.2.2) (src := am_r B x a) (dst := am_r B x b) (cs := vp_cell d.1 (na, .inl (w.2 a))) (cd := vp_cell d.1 (nb, .inl (w.2 b))) (srcPos := sp) (destPos := dp) (n := n) (by rw [hT]; exact hc0) (by rw [hT]; exact hc1)
    (fun _ h => by cases h) (fun _ h => by cases h) (fun h => by cases h) (fun h => by cases h) hk0 hk1 hkk0 hkk1 (by simp) h1 h2 h3
    (by rw [nn sp h1, nn n h3]; show ¬ _ > ((arrV d.1 na (fun j => .int (w.2 a j))).slots.size : Int); rw [arrV_size]; omega)
    (by rw [nn dp h2, nn n h3]; show ¬ _ > ((arrV d.1 nb (fun j => .int (w.2 b j))).slots.size : Int); rw [arrV_size]; omega)
    (fun vm₁ _ i hi => by
      have e : (vp_cell d.1 (na, .inl (w.2 a))).slots.getD (sp.toNatClampNeg + i) .null = .int (w.2 a (sp.toNatClampNeg + i)) := by
        show (arrV d.1 na (fun j => .int (w.2 a j))).slots.getD _ _ = _
        rw [Array.getD_eq_getD_getElem?, arrV_read _ _ (by omega)]
        rfl
      refine ⟨?_, ?_⟩
      · rw [e]
        rfl
      · rw [e]
        exact trivial)
    (g := F0 m pc ls (.int n :: .int dp :: .ref (am_r B x b) :: .int sp :: .ref (am_r B x a) :: rest)) rfl (by rw [hml]) (rest := rest) rfl (by rw [hb]; exact hdg) hframes (by show 2 * 0 + _ + _ ≤ _; omega)
  have e1 : copied (vp_cell d.1 (na, .inl (w.2 a))) (vp_cell d.1 (nb, .inl (w.2 b))) sp dp n = vp_cell d.1 (nb, .inl (va_cpy (w.2 a) (w.2 b) sp.toNatClampNeg dp.toNatClampNeg n.toNatClampNeg)) := va_copied (fun z => .int z) d.1 d.1 (w.2 a) (w.2 b) h4
  rw [e1] at X' step
  have hlt : am_r B x b < H.size := (Array.getElem?_eq_some_iff.mp hc1).1
  generalize hcell : vp_cell d.1 (nb, .inl (va_cpy (w.2 a) (w.2 b) sp.toNatClampNeg dp.toNatClampNeg n.toNatClampNeg)) = cell at X' step
  have hheap : ((T.setVm vm').setCell (am_r B x b) cell).heap = H.setIfInBounds (am_r B x b) cell := by rw [← hT]; rfl
  have oq : ∀ q : Nat, q ≠ am_r B x b → (H.setIfInBounds (am_r B x b) cell)[q]? = H[q]? := fun q hq => by simp [Array.getElem?_setIfInBounds, Ne.symm hq]
  have hz : (H.setIfInBounds (am_r B x b) cell).size = H.size := by simp
  have hP1 := hP.set (H1 := H.setIfInBounds (am_r B x b) cell) (c' := .inr (.inl nb)) (G' := am_cpy w.2 a b sp.toNatClampNeg dp.toNatClampNeg n.toNatClampNeg) hb2 (fun i hi => by funext j; simp [am_cpy, hi]) (by
    show (H.setIfInBounds (am_r B x b) cell)[am_r B x b]? = some (vp_cell _ _)
    rw [show am_cpy w.2 a b sp.toNatClampNeg dp.toNatClampNeg n.toNatClampNeg b = va_cpy (w.2 a) (w.2 b) sp.toNatClampNeg dp.toNatClampNeg n.toNatClampNeg by funext j; simp [am_cpy, va_cpy]]
    rw [hcell]
    simp [Array.getElem?_setIfInBounds, hlt]) oq hz
  rw [am_set_self hb2] at hP1
  obtain ⟨t, a1, b1⟩ := kk _ _ hP1 ⟨by rw [hz]; exact hS.1, fun q g1 g2 => by
      rw [oq q (fun e => g2 (by rw [e, am_r_lt (hP.lt hb2)]; show B ≤ B + b; omega))]
      exact hS.2.1 q g1 g2, fun q hq => by
      rcases List.mem_append.mp hq with h | h
      · exact hS.2.2 q h
      · obtain ⟨z, -, hz⟩ := List.mem_map.mp h
        rw [← hz, am_r_lt (hP.lt hb2)]
        show B ≤ B + b
        omega⟩ _ hheap X'
  exact ⟨t, step t a1, b1⟩
end AMS
