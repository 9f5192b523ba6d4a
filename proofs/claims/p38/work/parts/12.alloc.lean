theorem am_z_lt (G : am_G) {n a : Nat} (h : a < n) : am_z G n a = G a := by funext b; simp [am_z, h]
theorem am_z_ge (G : am_G) {n a : Nat} (h : n ≤ a) : am_z G n a = fun _ => 0 := by funext b; simp [am_z, Nat.not_lt.mpr h]
/-- new cells behind the world -/
theorem am_P.app {B : Nat} {x : Nat → Nat} {dC : Nat → ClassId} {dI : Nat → Nat → Nat} {d : am_D} {w : am_M} {H H1 : Heap} (h : am_P B x dC dI d w H) (L2 : List am_L) (hl : w.1.length + L2.length ≤ 1000) (hz : H1.size = H.size + L2.length) (ho : ∀ q : Nat, q < H.size → H1[q]? = H[q]?)
    (hn : ∀ i c, L2[i]? = some c → va_at (dC, dI) vwCl (H.size + i, am_E (am_r B x) d c (fun _ => 0)) H1) : am_P B x dC dI d (w.1 ++ L2, am_z w.2 w.1.length) H1 := by
  refine ⟨?_, by rw [hz, h.2.1, List.length_append]; omega, by rw [List.length_append]; exact hl⟩
  show va_P (dC, dI) vwCl (am_ws (am_r B x) d (am_z w.2 w.1.length) 0 (w.1 ++ L2)) H1
  rw [am_ws_app]
  refine va_P.app ?_ ?_
  · rw [am_ws_cong (am_r B x) d w.2 (am_z w.2 w.1.length) w.1 0 (fun b _ h2 => am_z_lt _ (by omega))]
    exact h.1.kept fun k q hk => ho q.1 ((h.1 k q hk).lt)
  · intro k q hk
    have hk1 : k < L2.length := by
      have := (List.getElem?_eq_some_iff.mp hk).1
      rwa [am_ws_len] at this
    have hc : L2[k]? = some L2[k] := List.getElem?_eq_getElem hk1
    have h2 := am_ws_get (am_r B x) d (am_z w.2 w.1.length) L2 (0 + w.1.length) k _ hc
    rw [h2] at hk
    cases hk
    have h3 := hn k _ hc
    rw [am_z_ge _ (by omega), am_r_lt (by omega), show B + (0 + w.1.length + k) = H.size + k by rw [h.2.1]; omega]
    exact h3
theorem am_tyok : ∀ (ci : Nat), ci < 12 → ∀ j, j < (am_ns[ci]?).getD 0 → (am_isr (am_ty ci j) = true ∧ defaultValue (am_ty ci j) = .null) ∨ (am_isr (am_ty ci j) = false ∧ defaultValue (am_ty ci j) = .int 0) := by decide +kernel
theorem am_blank_len (ci : Nat) : (am_blank ci).length = (am_ns[ci]?).getD 0 := by simp [am_blank]
theorem am_blank_fs (r : Nat → Nat) {ci : Nat} (hc : ci < 12) {j : Nat} (hj : j < (am_ns[ci]?).getD 0) : defaultValue (am_ty ci j) = vp_V (am_fs r (fun _ => 0) 0 (am_blank ci)) j := by
  have hb : (am_blank ci)[j]? = some (if am_isr (am_ty ci j) then some .null else none) := by
    unfold am_blank
    rw [List.getElem?_map, List.getElem?_range hj]
    rfl
  unfold vp_V
  rw [List.getD_eq_getElem?_getD]
  rcases am_tyok ci hc j hj with ⟨h1, h2⟩ | ⟨h1, h2⟩
  · rw [h1] at hb
    rw [am_fs_some _ _ _ 0 j .null hb, h2]
    rfl
  · rw [h1] at hb
    rw [am_fs_none _ _ _ 0 j hb, h2]
    rfl
theorem am_outer (c : ClassId) (N h0 : Nat) : ∀ i : Nat, Jvm.Free.Multi.outerC c N h0 i = arrV c N (fun j => va_rf (if j < i then some (h0 + 1 + j) else none))
  | 0 => by
    show ({ cls := c, slots := Array.replicate N .null, vm := .none } : Cell) = _
    rw [arrV_new]
    refine congrArg (arrV c N) (funext fun j => ?_)
    simp [va_rf]
  | i + 1 => by
    show (Jvm.Free.Multi.outerC c N h0 i).setSlot i (.ref (h0 + 1 + i)) = _
    rw [am_outer c N h0 i, arrV_store]
    refine congrArg (arrV c N) (funext fun j => ?_)
    by_cases e : j = i
    · subst e
      simp [updV, va_rf]
    · by_cases h : j < i
      · simp [updV, e, h, Nat.lt_succ_of_lt h]
      · simp [updV, e, h, show ¬ j < i + 1 by omega]
section AMN
variable {p : Program} {l : Launch} {e : Env} {R : Room} {s : State} {m : MethodId} {args : Array Value} {below : List Frame} {meth : Method} {c : Code} {H : Heap} {locs : List Loc} {cells slots : Nat} {Q : State → Prop}
variable {cc : ByteArray} {pc : Nat} {ls : Array Slot} {rest : List Value} {B : Nat} {x : Nat → Nat} {dC : Nat → ClassId} {dI : Nat → Nat → Nat} {d : am_D} {w : am_M} {own : String}
theorem am_S_new {H1 : Heap} {n : Nat} (hS : va_S (fun q : Nat => B ≤ q) s.heap H locs) (hz : H1.size = H.size + n) (ho : ∀ q : Nat, q < H.size → H1[q]? = H[q]?) : va_S (fun q : Nat => B ≤ q) s.heap H1 locs :=
  ⟨Nat.le_trans hS.1 (by omega), fun q h1 h2 => (ho q (Nat.lt_of_lt_of_le h1 hS.1)).trans (hS.2.1 q h1 h2), hS.2.2⟩
theorem am_new_r (hx : p.tables.exec = Jvm.exec) (hb : c.code = cc) (hts : ∀ w ∈ am_TB, w.before args s = true) (hown : s.vm.findClass own = some m.cls) (hS : va_S (fun q : Nat => B ≤ q) s.heap H locs) (hK : va_K (dC, dI) vwCl (am_ts d) s) (hP : am_P B x dC dI d w H) {ci i : Nat} {q : vw_C} (hq : vwCl[ci]? = some q) (h1 : Cond.classLink own i q.1 ∈ am_TB) (h2 : Cond.instantiable q.1 q.2.2 ∈ am_TB) (h3 : Cond.initialized q.1 ∈ am_TB) (hl : w.1.length < 900) (hcells : cells + 1 ≤ R.cells) (hslots : slots + q.2.2 ≤ R.slots) (hdg : decode cc pc = .ok (.new i, 3))
    (kk : ∀ H1 : Heap, am_P B x dC dI d (w.1 ++ [.inl (ci, am_blank ci)], am_z w.2 w.1.length) H1 → va_S (fun q : Nat => B ≤ q) s.heap H1 locs → W p l e R s m args below meth c H1 locs (cells + 1) (slots + q.2.2) Q (F0 m (pc + 3) ls (.ref (am_r B x w.1.length) :: rest))) : W p l e R s m args below meth c H locs cells slots Q (F0 m pc ls rest) := by
  have hKn := hK.1 ci _ hq
  obtain ⟨hin, hty, -, hns⟩ := am_cls _ _ hq
  have hc12 : ci < 12 := (List.getElem?_eq_some_iff.mp hq).1
  refine W.newcK hx hb hown (hts _ h1) (hts _ h2) (hts _ h3) rfl hdg hcells hslots hKn.2.1 rfl fun H1 kC hkC e1 z1 o1 => ?_
  have ha : am_r B x w.1.length = H.size := by rw [am_r_lt (by omega), hP.2.1]
  rw [← ha]
  refine kk H1 (hP.app _ (by simp; omega) z1 o1 fun i c hi => ?_) (am_S_new hS z1 o1)
  have hi0 : i = 0 := by have := (List.getElem?_eq_some_iff.mp hi).1; simpa using this
  subst hi0
  cases hi
  exact ⟨_, hq, (u_born (am_ty ci) hts hin hKn hkC e1 hty).to (fun j hj => am_blank_fs (am_r B x) hc12 (by rw [hns]; exact hj))⟩
theorem am_newa_r (hx : p.tables.exec = Jvm.exec) (hb : c.code = cc) (hts : ∀ w ∈ am_TB, w.before args s = true) (hS : va_S (fun q : Nat => B ≤ q) s.heap H locs) (hK : va_K (dC, dI) vwCl (am_ts d) s) (hP : am_P B x dC dI d w H) {n : Int32} (hn : am_in n 1000 = true) (hl : w.1.length < 900) (harr : Cond.arrayClass .int ∈ am_TB) (hcells : cells + 1 ≤ R.cells) (hslots : slots + n.toNatClampNeg ≤ R.slots) (hdg : decode cc pc = .ok (.newarray .int, 2))
    (kk : ∀ H1 : Heap, am_P B x dC dI d (w.1 ++ [.inr (.inl n.toNatClampNeg)], am_z w.2 w.1.length) H1 → va_S (fun q : Nat => B ≤ q) s.heap H1 locs → W p l e R s m args below meth c H1 locs (cells + 1) (slots + n.toNatClampNeg) Q (F0 m (pc + 2) ls (.ref (am_r B x w.1.length) :: rest))) : W p l e R s m args below meth c H locs cells slots Q (F0 m pc ls (.int n :: rest)) := by
  obtain ⟨n0, n1⟩ := am_in_lt hn
  have h4 : componentBytes (newarray.typeOf .int) ≤ 8 := by decide +kernel
  refine va_newaK (atype := .int) hx hb (hts _ harr) rfl hdg rfl n0 rfl (by have := Nat.mul_le_mul (Nat.le_of_lt n1) h4; omega) hcells hslots rfl fun H1 cA e1 z1 o1 hAr hNm => ?_
  have ha : am_r B x w.1.length = H.size := by rw [am_r_lt (by omega), hP.2.1]
  have hcA : cA = d.1 := Option.some.inj (hNm.symm.trans (hK.2 0 _ rfl).2)
  subst hcA
  rw [← ha]
  refine kk H1 (hP.app _ (by simp; omega) z1 o1 fun i c hi => ?_) (am_S_new hS z1 o1)
  have hi0 : i = 0 := by have := (List.getElem?_eq_some_iff.mp hi).1; simpa using this
  subst hi0
  cases hi
  exact e1
theorem am_newq_r (hx : p.tables.exec = Jvm.exec) (hb : c.code = cc) (hts : ∀ w ∈ am_TB, w.before args s = true) (hown : s.vm.findClass own = some m.cls) (hS : va_S (fun q : Nat => B ≤ q) s.heap H locs) (hK : va_K (dC, dI) vwCl (am_ts d) s) (hP : am_P B x dC dI d w H) (hov : (Cond.arrayOver (.object "WellRefuses$Sheet")).before #[] s = true) {n : Int32} {i : Nat} (hn : am_in n 1000 = true) (hl : w.1.length < 900) (hcl : Cond.classLink own i "WellRefuses$Sheet" ∈ am_TB) (hcells : cells + 1 ≤ R.cells) (hslots : slots + n.toNatClampNeg ≤ R.slots) (hdg : decode cc pc = .ok (.anewarray i, 3))
    (kk : ∀ H1 : Heap, am_P B x dC dI d (w.1 ++ [.inr (.inr (1, List.replicate n.toNatClampNeg none))], am_z w.2 w.1.length) H1 → va_S (fun q : Nat => B ≤ q) s.heap H1 locs → W p l e R s m args below meth c H1 locs (cells + 1) (slots + n.toNatClampNeg) Q (F0 m (pc + 3) ls (.ref (am_r B x w.1.length) :: rest))) : W p l e R s m args below meth c H locs cells slots Q (F0 m pc ls (.int n :: rest)) := by
  obtain ⟨n0, n1⟩ := am_in_lt hn
  refine W.anew hx hb hown (hts _ hcl) hov rfl hdg rfl n0 (by omega) hcells hslots fun cA kA comp f1 f2 f3 f4 => ?_
  generalize hH1 : H.push ({ cls := cA, slots := Array.replicate n.toNatClampNeg .null, vm := .none } : Cell) = H1
  have z1 : H1.size = H.size + 1 := by rw [← hH1, Array.size_push]
  have e1 : H1[H.size]? = some (arrV cA n.toNatClampNeg (fun _ => .null)) := by rw [← hH1, Array.getElem?_push_size, ← arrV_new]
  have o1 : ∀ q : Nat, q < H.size → H1[q]? = H[q]? := fun q hq => by rw [← hH1, Array.getElem?_push, if_neg (Nat.ne_of_lt hq)]
  have ha : am_r B x w.1.length = H.size := by rw [am_r_lt (by omega), hP.2.1]
  obtain ⟨_, _, -, -, -, k4⟩ := (hK.2 2 _ rfl).2
  have hcA : cA = d.2.2 := Option.some.inj (f1.symm.trans k4)
  subst hcA
  rw [← ha]
  refine kk H1 (hP.app _ (by simp; omega) z1 o1 fun i c hi => ?_) (am_S_new hS z1 o1)
  have hi0 : i = 0 := by have := (List.getElem?_eq_some_iff.mp hi).1; simpa using this
  subst hi0
  cases hi
  show H1[H.size + 0]? = some (vp_cell _ _)
  rw [Nat.add_zero, e1]
  dsimp only
  rw [vp_cell_q, List.length_replicate]
  refine congrArg some (congrArg (arrV d.2.2 n.toNatClampNeg) (funext fun j => ?_))
  unfold am_row
  rw [List.getD_eq_getElem?_getD, List.getElem?_replicate]
  split <;> rfl
theorem am_newm_r (hx : p.tables.exec = Jvm.exec) (hb : c.code = cc) (hts : ∀ w ∈ am_TB, w.before args s = true) (hown : s.vm.findClass own = some m.cls) (hS : va_S (fun q : Nat => B ≤ q) s.heap H locs) (hK : va_K (dC, dI) vwCl (am_ts d) s) (hP : am_P B x dC dI d w H) (hov : (Cond.arrayOver (.array .int)).before args s = true) {n k : Int32} {i : Nat} (hn : am_in n 20 = true) (hk : am_in k 1000 = true) (hl : w.1.length < 900) (harr : Cond.arrayClass .int ∈ am_TB) (hcl : Cond.classLink own i "[[I" ∈ am_TB) (hcells : cells + (1 + n.toNatClampNeg) ≤ R.cells) (hslots : slots + (n.toNatClampNeg + n.toNatClampNeg * k.toNatClampNeg) ≤ R.slots) (hdg : decode cc pc = .ok (.multianewarray i 2, 4))
    (kk : ∀ H1 : Heap, am_P B x dC dI d (w.1 ++ (.inr (.inr (0, (List.range n.toNatClampNeg).map fun i => some (w.1.length + 1 + i))) :: List.replicate n.toNatClampNeg (.inr (.inl k.toNatClampNeg))), am_z w.2 w.1.length) H1 → va_S (fun q : Nat => B ≤ q) s.heap H1 locs → W p l e R s m args below meth c H1 locs (cells + (1 + n.toNatClampNeg)) (slots + (n.toNatClampNeg + n.toNatClampNeg * k.toNatClampNeg)) Q (F0 m (pc + 4) ls (.ref (am_r B x w.1.length) :: rest))) : W p l e R s m args below meth c H locs cells slots Q (F0 m pc ls (.int k :: .int n :: rest)) := by
  obtain ⟨n0, n1⟩ := am_in_lt hn
  obtain ⟨k0, k1⟩ := am_in_lt hk
  have h4 : componentBytes .int ≤ 8 := by decide +kernel
  intro T hT Xs
  obtain ⟨vm₁, cA, comp, -, fA, fC, hO, -, X', step⟩ := Xs.multianewarray2F (ty := .int) hx hown (hts _ hcl) hov (hts _ harr) (g := F0 m pc ls (.int k :: .int n :: rest)) rfl (by rw [hb]; exact hdg) rfl n0 k0 (by omega) (by have := Nat.mul_le_mul (Nat.le_of_lt k1) h4; omega) (by omega) rfl rfl hcells hslots
  have hcomp : comp = d.1 := Option.some.inj (fC.symm.trans (hK.2 0 _ rfl).2)
  have hcA : cA = d.2.1 := Option.some.inj (fA.symm.trans (hK.2 1 _ rfl).2)
  subst hcomp
  subst hcA
  generalize hF : Jvm.Free.Multi.fill (T.setVm vm₁) d.2.1 d.1 n.toNatClampNeg k.toNatClampNeg (defaultValue .int) n.toNatClampNeg = F at X' step
  have hTh : (T.setVm vm₁).heap = H := hT
  obtain ⟨f1, f2, -, -⟩ := Jvm.Free.Multi.fill_facts (T.setVm vm₁) d.2.1 d.1 n.toNatClampNeg k.toNatClampNeg (defaultValue .int) n.toNatClampNeg
  rw [hF, hTh] at f1 f2
  have hold : ∀ q : Nat, q < H.size → F.heap[q]? = H[q]? := fun q hq => by
    have := Jvm.Free.Multi.fill_old (T.setVm vm₁) d.2.1 d.1 n.toNatClampNeg k.toNatClampNeg (defaultValue .int) (a := q) (by rw [hTh]; exact hq) n.toNatClampNeg
    rw [hF, hTh] at this
    exact this
  have hrow : ∀ j : Nat, j < n.toNatClampNeg → F.heap[H.size + 1 + j]? = some (Jvm.Free.Multi.innerC d.1 k.toNatClampNeg (defaultValue .int)) := fun j hj => by
    have := Jvm.Free.Multi.fill_inner (T.setVm vm₁) d.2.1 d.1 n.toNatClampNeg k.toNatClampNeg (defaultValue .int) n.toNatClampNeg j hj
    rw [hF, hTh] at this
    exact this
  have hz : F.heap.size = H.size + ((.inr (.inr (0, (List.range n.toNatClampNeg).map fun i => some (w.1.length + 1 + i))) : am_L) :: List.replicate n.toNatClampNeg (.inr (.inl k.toNatClampNeg))).length := by
    rw [f1]; simp; omega
  have ha : am_r B x w.1.length = H.size := by rw [am_r_lt (by omega), hP.2.1]
  obtain ⟨t, a1, b1⟩ := kk F.heap (hP.app _ (by simp; omega) hz hold fun i c hi => by
    cases i with
    | zero =>
      simp only [List.getElem?_cons_zero, Option.some.injEq] at hi
      subst hi
      show F.heap[H.size + 0]? = some (vp_cell _ _)
      rw [Nat.add_zero, f2, am_outer]
      dsimp only
      rw [vp_cell_q, List.length_map, List.length_range]
      refine congrArg some (congrArg (arrV d.2.1 n.toNatClampNeg) (funext fun j => ?_))
      unfold am_row
      rw [List.getD_eq_getElem?_getD, List.getElem?_map]
      by_cases hj : j < n.toNatClampNeg
      · rw [List.getElem?_range hj]
        simp only [Option.map_some, Option.getD_some, if_pos hj]
        rw [am_r_lt (by omega), hP.2.1]
        show va_rf (some _) = va_rf (some _)
        congr 2
        omega
      · rw [if_neg hj, List.getElem?_eq_none (by simpa using hj)]
        rfl
    | succ i =>
      simp only [List.getElem?_cons_succ, List.getElem?_replicate] at hi
      split at hi
      · rename_i hlt
        cases hi
        show F.heap[H.size + (i + 1)]? = some (vp_cell _ _)
        rw [show H.size + (i + 1) = H.size + 1 + i by omega, hrow i hlt]
        dsimp only
        rw [vp_cell_i, ← arrV_new d.1 k.toNatClampNeg (.int 0)]
        rfl
      · cases hi) (am_S_new hS hz hold) F rfl (by
    have e1 : cells + 1 + n.toNatClampNeg = cells + (1 + n.toNatClampNeg) := by omega
    have e2 : slots + n.toNatClampNeg + n.toNatClampNeg * k.toNatClampNeg = slots + (n.toNatClampNeg + n.toNatClampNeg * k.toNatClampNeg) := by omega
    rw [e1, e2] at X'
    exact X')
  refine ⟨t, step t ?_, b1⟩
  rw [ha] at a1
  have e : T.heap.size = H.size := by rw [hT]
  rw [e]
  exact a1
end AMN
