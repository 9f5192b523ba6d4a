def am_sl3 : List Nat := [0, 3, 3]
def am_sb3 : List (List Int32) := [[], [116, 100, 119], [119, 111, 109]]
theorem am_bx_at {a : Nat} {l : List Int32} (h : am_bx a = some l) : ∃ j, j < 3 ∧ a = 1010 + j ∧ am_sl3.getD j 0 = l.length ∧ am_sb3.getD j [] = l := by
  unfold am_bx at h
  split at h
  · rename_i e
    cases h
    exact ⟨0, by decide, by omega, rfl, rfl⟩
  · split at h
    · rename_i e
      cases h
      exact ⟨1, by decide, by omega, rfl, rfl⟩
    · split at h
      · rename_i e
        cases h
        exact ⟨2, by decide, by omega, rfl, rfl⟩
      · cases h
theorem am_iss_at {a : Nat} (h : am_iss a = true) : ∃ j, j < 3 ∧ a = 1000 + j := by
  simp only [am_iss, Bool.and_eq_true] at h
  have h1 := Nat.le_of_ble_eq_true h.1
  have h2 := Nat.le_of_ble_eq_true h.2
  exact ⟨a - 1000, by omega, by omega⟩
theorem am_nar_ok {ty : FieldType} {x : Int32} (h : am_nar ty x = true) : narrow ty (.int x) = .int x ∧ fits ty (.int x) = true := by
  cases ty <;> simp only [am_nar] at h <;> first | exact ⟨rfl, rfl⟩ | (rcases of_decide_eq_true h with rfl; exact ⟨by decide +kernel, by decide +kernel⟩) | cases h | skip
  simp only [Bool.or_eq_true, decide_eq_true_eq] at h
  rcases h with rfl | rfl <;> exact ⟨by decide +kernel, by decide +kernel⟩
theorem am_isr_ok {ty : FieldType} (h : am_isr ty = true) (a : Nat) : narrow ty (.ref a) = .ref a ∧ fits ty (.ref a) = true := by
  cases ty <;> simp only [am_isr] at h <;> first | exact ⟨rfl, rfl⟩ | cases h
theorem am_uw (C : String) (T : u_T) (N : Nat) (h : (u_ws C T N).all (fun w => decide (w ∈ lw_tbl) && goodWord w) = true) : ∀ w ∈ u_ws C T N, w ∈ am_TB := by
  intro w hw
  have := List.all_eq_true.mp h w hw
  simp only [Bool.and_eq_true, decide_eq_true_eq] at this
  exact List.mem_filter.mpr this
theorem am_u0 : ∀ w ∈ u_ws RX0 TX0 1, w ∈ am_TB := am_uw _ _ _ (by decide +kernel)
theorem am_u1 : ∀ w ∈ u_ws RX2 TX2 5, w ∈ am_TB := am_uw _ _ _ (by decide +kernel)
theorem am_u2 : ∀ w ∈ u_ws RX3 TX3 10, w ∈ am_TB := am_uw _ _ _ (by decide +kernel)
theorem am_u3 : ∀ w ∈ u_ws RX4 TX4 5, w ∈ am_TB := am_uw _ _ _ (by decide +kernel)
theorem am_u4 : ∀ w ∈ u_ws RX5 TX5 2, w ∈ am_TB := am_uw _ _ _ (by decide +kernel)
theorem am_u5 : ∀ w ∈ u_ws RX6 TX6 2, w ∈ am_TB := am_uw _ _ _ (by decide +kernel)
theorem am_u6 : ∀ w ∈ u_ws RX7 TX7 3, w ∈ am_TB := am_uw _ _ _ (by decide +kernel)
theorem am_u7 : ∀ w ∈ u_ws RX8 TX8 3, w ∈ am_TB := am_uw _ _ _ (by decide +kernel)
theorem am_u8 : ∀ w ∈ u_ws RX9 TX9 4, w ∈ am_TB := am_uw _ _ _ (by decide +kernel)
theorem am_u9 : ∀ w ∈ u_ws RX10 TX10 6, w ∈ am_TB := am_uw _ _ _ (by decide +kernel)
theorem am_u10 : ∀ w ∈ u_ws RX11 TX11 9, w ∈ am_TB := am_uw _ _ _ (by decide +kernel)
theorem am_u11 : ∀ w ∈ u_ws RX12 TX12 29, w ∈ am_TB := am_uw _ _ _ (by decide +kernel)
/-- what is known of a class -/
def am_Cl (ci : Nat) (c : vw_C) : Prop := (∀ w ∈ u_ws c.1 c.2.1 c.2.2, w ∈ am_TB) ∧ (∀ k, k < c.2.2 → parseFieldDescriptor (c.2.1 k).2.2.1 = some (am_ty ci k)) ∧ (∀ a, a < c.2.2 → ∀ b, b < c.2.2 → a ≠ b → (c.2.1 a).2.1 ≠ (c.2.1 b).2.1) ∧ am_ns[ci]? = some c.2.2
theorem am_cls : ∀ (ci : Nat) (c : vw_C), vwCl[ci]? = some c → am_Cl ci c
  | 0, _, h => by cases h; exact ⟨am_u0, tyX0_ok, nmX0, rfl⟩
  | 1, _, h => by cases h; exact ⟨am_u1, tyX2_ok, nmX2, rfl⟩
  | 2, _, h => by cases h; exact ⟨am_u2, tyX3_ok, nmX3, rfl⟩
  | 3, _, h => by cases h; exact ⟨am_u3, tyX4_ok, nmX4, rfl⟩
  | 4, _, h => by cases h; exact ⟨am_u4, tyX5_ok, nmX5, rfl⟩
  | 5, _, h => by cases h; exact ⟨am_u5, tyX6_ok, nmX6, rfl⟩
  | 6, _, h => by cases h; exact ⟨am_u6, tyX7_ok, nmX7, rfl⟩
  | 7, _, h => by cases h; exact ⟨am_u7, tyX8_ok, nmX8, rfl⟩
  | 8, _, h => by cases h; exact ⟨am_u8, tyX9_ok, nmX9, rfl⟩
  | 9, _, h => by cases h; exact ⟨am_u9, tyX10_ok, nmX10, rfl⟩
  | 10, _, h => by cases h; exact ⟨am_u10, tyX11_ok, nmX11, rfl⟩
  | 11, _, h => by cases h; exact ⟨am_u11, tyX12_ok, nmX12, rfl⟩
  | n + 12, c, h => by simp [vwCl] at h
/-- the heap holds the world -/
def am_P (B : Nat) (x : Nat → Nat) (dC : Nat → ClassId) (dI : Nat → Nat → Nat) (d : am_D) (w : am_M) (H : Heap) : Prop := va_P (dC, dI) vwCl (am_ws (am_r B x) d w.2 0 w.1) H ∧ H.size = B + w.1.length ∧ w.1.length ≤ 1000
theorem am_P.lt {B : Nat} {x : Nat → Nat} {dC : Nat → ClassId} {dI : Nat → Nat → Nat} {d : am_D} {w : am_M} {H : Heap} (h : am_P B x dC dI d w H) {i : Nat} {c : am_L} (hc : w.1[i]? = some c) : i < 1000 := by
  have := (List.getElem?_eq_some_iff.mp hc).1
  have := h.2.2
  omega
theorem am_P.get {B : Nat} {x : Nat → Nat} {dC : Nat → ClassId} {dI : Nat → Nat → Nat} {d : am_D} {w : am_M} {H : Heap} (_h : am_P B x dC dI d w H) {i : Nat} {c : am_L} (hc : w.1[i]? = some c) : (am_ws (am_r B x) d w.2 0 w.1)[i]? = some (am_r B x i, am_E (am_r B x) d c (w.2 i)) := by
  have := am_ws_get (am_r B x) d w.2 w.1 0 i c hc
  rwa [Nat.zero_add] at this
theorem am_set_self {L : List am_L} {i : Nat} {c : am_L} (h : L[i]? = some c) : L.set i c = L := by
  apply List.ext_getElem?
  intro j
  by_cases e : i = j
  · subst e
    rw [List.getElem?_set_self (List.getElem?_eq_some_iff.mp h).1, h]
  · rw [List.getElem?_set_ne e]
/-- one cell of the world is another one now -/
theorem am_P.set {B : Nat} {x : Nat → Nat} {dC : Nat → ClassId} {dI : Nat → Nat → Nat} {d : am_D} {w : am_M} {H H1 : Heap} (h : am_P B x dC dI d w H) {i : Nat} {c c' : am_L} (hc : w.1[i]? = some c) {G' : am_G} (hG : ∀ b, b ≠ i → G' b = w.2 b)
    (he : va_at (dC, dI) vwCl (am_r B x i, am_E (am_r B x) d c' (G' i)) H1) (oq : ∀ q : Nat, q ≠ am_r B x i → H1[q]? = H[q]?) (hz : H1.size = H.size) : am_P B x dC dI d (w.1.set i c', G') H1 := by
  refine ⟨?_, by rw [hz, List.length_set]; exact h.2.1, by rw [List.length_set]; exact h.2.2⟩
  have h1 := h.1.set (am_ws_D B x d w.2 h.2.2) (h.get hc) he oq
  have h2 := am_ws_set (am_r B x) d w.2 G' c' w.1 0 i (List.getElem?_eq_some_iff.mp hc).1 (by intro b hb; exact hG b (by omega))
  rw [Nat.zero_add] at h2
  rw [h2] at h1
  exact h1
theorem am_up_self (G : am_G) (i j : Nat) (v : Int32) : am_up G i j v i = fun b => if b = j then v else G i b := by funext b; simp [am_up]
theorem am_up_ne (G : am_G) (i j : Nat) (v : Int32) {a : Nat} (h : a ≠ i) : am_up G i j v a = G a := by funext b; simp [am_up, h]
/-- a row of ints outside -/
def am_XA (b : Nat) (q : Nat × (Nat → Int32)) (U : State) (H : Heap) : Prop := ∃ cell : Cell, H[b]? = some cell ∧ U.isArrayOf cell .int ∧ cell.vm ≠ .unknown ∧ q.1 ≤ cell.slots.size ∧ cell.slots.size.toInt32 = Int32.ofNat q.1 ∧ ∀ j : Nat, j < q.1 → cell.slots[j]? = some (.int (q.2 j))
theorem am_XA.kept {b : Nat} {q : Nat × (Nat → Int32)} {U : State} {H H1 : Heap} (h : am_XA b q U H) (hq : H1[b]? = H[b]?) : am_XA b q U H1 := by
  obtain ⟨cell, h1, h2⟩ := h
  exact ⟨cell, by rw [hq]; exact h1, h2⟩
theorem am_XA.moved {b : Nat} {q : Nat × (Nat → Int32)} {u U : State} {H : Heap} (hvm : u.vm.Alike U.vm) (h : am_XA b q u H) : am_XA b q U H := by
  obtain ⟨cell, h1, h2, h3⟩ := h
  exact ⟨cell, h1, State.isArrayOf_alike hvm h2, h3⟩
theorem am_XA.of {b L : Nat} {xs : Nat → Int32} {U : State} {H : Heap} (h : va_X b L xs U H) : am_XA b (L, xs) U H := by
  obtain ⟨cell, h1, h2, h3, h4, h5⟩ := h
  exact ⟨cell, h1, h2, h3, Nat.le_of_eq h4.symm, by rw [h4], h5⟩
section AMR
variable {p : Program} {l : Launch} {e : Env} {R : Room} {s : State} {m : MethodId} {args : Array Value} {below : List Frame} {meth : Method} {c : Code} {H : Heap} {locs : List Loc} {cells slots : Nat} {Q : State → Prop}
variable {cc : ByteArray} {pc : Nat} {ls : Array Slot} {rest : List Value} {B : Nat} {x : Nat → Nat} {dC : Nat → ClassId} {dI : Nat → Nat → Nat} {d : am_D} {w : am_M} {own : String}
theorem am_get (hx : p.tables.exec = Jvm.exec) (hb : c.code = cc) (hts : ∀ w ∈ am_TB, w.before args s = true) (hown : s.vm.findClass own = some m.cls) (hK : va_K (dC, dI) vwCl (am_ts d) s) (hP : am_P B x dC dI d w H) {a ci k i : Nat} {v : Value} {q : vw_C} (hv : am_fld w a ci k = some v) (hq : vwCl[ci]? = some q) (hk : k < q.2.2) (hl : Cond.fieldLink own i (q.2.1 k).1 (q.2.1 k).2.1 (q.2.1 k).2.2.1 ∈ am_TB) (hdg : decode cc pc = .ok (.getfield i, 3))
    (kk : W p l e R s m args below meth c H locs cells slots Q (F0 m (pc + 3) ls (am_c (am_r B x) v :: rest))) : W p l e R s m args below meth c H locs cells slots Q (F0 m pc ls (.ref (am_r B x a) :: rest)) := by
  unfold am_fld at hv
  cases ha : w.1[a]? with
  | none => rw [ha] at hv; cases hv
  | some c0 =>
    rw [ha] at hv
    cases c0 with
    | inr z => cases hv
    | inl o =>
      obtain ⟨o1, o2⟩ := o
      simp only at hv
      cases hc : Nat.beq o1 ci with
      | false => rw [hc] at hv; cases hv
      | true =>
        rw [hc] at hv
        have e1 : o1 = ci := Nat.eq_of_beq_eq_true hc
        subst e1
        have hg := hP.get ha
        have hfs : (am_fs (am_r B x) (w.2 a) 0 o2)[k]? = some (am_c (am_r B x) v) := by
          simp only [cond_true] at hv
          cases hf : o2[k]? with
          | none => rw [hf] at hv; cases hv
          | some z =>
            rw [hf] at hv
            cases z with
            | none =>
              cases hv
              rw [am_fs_none _ _ _ 0 k hf, Nat.zero_add]
              rfl
            | some u =>
              cases hv
              exact am_fs_some _ _ _ 0 k _ hf
        exact va_get (D := (dC, dI)) (ci := o1) (C := q.1) (T := q.2.1) (N := q.2.2) hx hb hts (am_cls _ _ hq).1 hown hK hP.1 a hg hq k hk (hts _ hl) (fun _ h9 => h9) hfs hdg kk
theorem am_ald_r (hx : p.tables.exec = Jvm.exec) (hb : c.code = cc) {X : am_X} (hX : ∀ i q, X i = some q → am_XA (x i) q s s.heap ∧ x i < B) (hsz : B ≤ s.heap.size) (hS : va_S (fun q : Nat => B ≤ q) s.heap H locs) (hK : va_K (dC, dI) vwCl (am_ts d) s) (hP : am_P B x dC dI d w H) {a : Nat} {i v : Int32} (hv : am_ald X w a i = some v) (hdg : decode cc pc = .ok (.iaload, 1))
    (kk : W p l e R s m args below meth c H locs cells slots Q (F0 m (pc + 1) ls (.int v :: rest))) : W p l e R s m args below meth c H locs cells slots Q (F0 m pc ls (.int i :: .ref (am_r B x a) :: rest)) := by
  unfold am_ald at hv
  cases ha : w.1[a]? with
  | none =>
    rw [ha] at hv
    simp only at hv
    cases hb2 : Nat.ble 1000 a with
    | false => rw [hb2] at hv; cases hv
    | true =>
      rw [hb2] at hv
      simp only [cond_true] at hv
      cases hxa : X a with
      | none => rw [hxa] at hv; cases hv
      | some q =>
        rw [hxa] at hv
        simp only at hv
        cases hin : am_in i q.1 with
        | false => rw [hin] at hv; cases hv
        | true =>
          rw [hin] at hv
          cases hv
          obtain ⟨⟨cell, g1, g2, g3, g4, g5, g6⟩, h2⟩ := hX a q hxa
          rw [am_r_ge (Nat.le_of_ble_eq_true hb2)]
          have hlt := (am_in_lt hin).2
          have hin2 := am_in_vp hin
          exact W.iald (v := .int (q.2 i.toNatClampNeg)) hx hb ((hS.2.1 _ (Nat.lt_of_lt_of_le h2 hsz) (Nat.not_le.mpr h2)).trans g1) g2 g3 (fun z => hin2 (z.imp id (fun z => Nat.le_trans g4 z))) (g6 _ hlt) rfl rfl hdg kk
  | some c0 =>
    rw [ha] at hv
    match c0, ha, hv with
    | .inr (.inl n), ha, hv =>
      simp only at hv
      cases hin : am_in i n with
      | false => rw [hin] at hv; cases hv
      | true =>
        rw [hin] at hv
        cases hv
        exact va_iald (D := (dC, dI)) hx hb hK hP.1 a 0 (hP.get ha) rfl (am_in_vp hin) hdg kk
theorem am_rld_r (hx : p.tables.exec = Jvm.exec) (hb : c.code = cc) (hK : va_K (dC, dI) vwCl (am_ts d) s) (hP : am_P B x dC dI d w H) {a b : Nat} {i : Int32} (hv : am_rld w a i = some b) (hdg : decode cc pc = .ok (.aaload, 1))
    (kk : W p l e R s m args below meth c H locs cells slots Q (F0 m (pc + 1) ls (.ref (am_r B x b) :: rest))) : W p l e R s m args below meth c H locs cells slots Q (F0 m pc ls (.int i :: .ref (am_r B x a) :: rest)) := by
  unfold am_rld at hv
  cases ha : w.1[a]? with
  | none => rw [ha] at hv; cases hv
  | some c0 =>
    rw [ha] at hv
    match c0, ha, hv with
    | .inr (.inr (t, vs)), ha, hv =>
      simp only at hv
      cases hin : am_in i vs.length with
      | false => rw [hin] at hv; cases hv
      | true =>
        rw [hin] at hv
        simp only [cond_true] at hv
        have hlt := (am_in_lt hin).2
        have hcell := hP.1 a _ (hP.get ha)
        have hrow : va_rf (am_row vs (am_r B x) i.toNatClampNeg) = .ref (am_r B x b) := by
          unfold am_row
          rw [List.getD_eq_getElem?_getD]
          cases hz : vs[i.toNatClampNeg]? with
          | none => rw [hz] at hv; cases hv
          | some z =>
            rw [hz] at hv
            cases z with
            | none => cases hv
            | some u => cases hv; rfl
        have hA : ArrOfT s (am_dt d t) (am_dy t) ∧ (am_dy t).isReference = true := by
          unfold am_dt am_dy
          by_cases e : t = 0
          · rw [if_pos e, if_pos e]; exact ⟨(hK.2 1 _ rfl).1, rfl⟩
          · rw [if_neg e, if_neg e]; exact ⟨(hK.2 2 _ rfl).1, rfl⟩
        exact W.aald (v := .ref (am_r B x b)) (ty := am_dy t) hx hb hcell (hA.1 vs.length (fun j => va_rf (am_row vs (am_r B x) j))) hA.2 (fun q => by cases q) (by show ¬ (i < 0 ∨ (arrV _ _ _).slots.size ≤ _); rw [arrV_size]; exact am_in_vp hin) (by show (arrV _ _ _).slots[_]? = _; rw [arrV_read _ _ hlt, ← hrow]) rfl rfl hdg kk
theorem am_len_r (hx : p.tables.exec = Jvm.exec) (hb : c.code = cc) {X : am_X} (hX : ∀ i q, X i = some q → am_XA (x i) q s s.heap ∧ x i < B) (hsz : B ≤ s.heap.size) (hB : vk_S 3 am_sl3 am_sb3 (fun i => x (1000 + i)) (fun i => x (1010 + i)) (fun q : Nat => B ≤ q) s s.heap) (hS : va_S (fun q : Nat => B ≤ q) s.heap H locs) (hK : va_K (dC, dI) vwCl (am_ts d) s) (hP : am_P B x dC dI d w H) {a n : Nat} (hv : am_len X w a = some n) (hdg : decode cc pc = .ok (.arraylength, 1))
    (kk : W p l e R s m args below meth c H locs cells slots Q (F0 m (pc + 1) ls (.int (Int32.ofNat n) :: rest))) : W p l e R s m args below meth c H locs cells slots Q (F0 m pc ls (.ref (am_r B x a) :: rest)) := by
  unfold am_len at hv
  cases ha : w.1[a]? with
  | none =>
    rw [ha] at hv
    simp only at hv
    cases hbx : am_bx a with
    | some l =>
     rw [hbx] at hv
     simp only [Option.some.injEq] at hv
     subst hv
     obtain ⟨j, hj, rfl, hl, -⟩ := am_bx_at hbx
     rw [am_r_ge (by omega)]
     exact va_tlen hx hb (hB.1 j hj).2.2.2 hS (by rw [hl]) hdg kk
    | none =>
    rw [hbx] at hv
    simp only at hv
    cases hb2 : Nat.ble 1000 a with
    | false => rw [hb2] at hv; cases hv
    | true =>
      rw [hb2] at hv
      simp only [cond_true] at hv
      cases hxa : X a with
      | none => rw [hxa] at hv; cases hv
      | some q =>
        rw [hxa] at hv
        cases hv
        obtain ⟨⟨cell, g1, g2, g3, g4, g5, g6⟩, h2⟩ := hX a q hxa
        rw [am_r_ge (Nat.le_of_ble_eq_true hb2)]
        exact W.alen (n := Int32.ofNat q.1) hx hb ((hS.2.1 _ (Nat.lt_of_lt_of_le h2 hsz) (Nat.not_le.mpr h2)).trans g1) g2 g5 rfl rfl hdg kk
  | some c0 =>
    rw [ha] at hv
    match c0, ha, hv with
    | .inr (.inl n), ha, hv =>
      cases hv
      exact va_alen (D := (dC, dI)) (ty := .int) hx hb hK hP.1 a 0 (hP.get ha) rfl rfl hdg kk
    | .inr (.inr (t, vs)), ha, hv =>
      cases hv
      by_cases e : t = 0
      · exact va_alen (D := (dC, dI)) (ty := .array .int) hx hb hK hP.1 a 1 (hP.get ha) (by simp [am_dt, am_ts, e]) rfl hdg kk
      · exact va_alen (D := (dC, dI)) (ty := .object "WellRefuses$Sheet") hx hb hK hP.1 a 2 (hP.get ha) (by simp [am_dt, am_ts, e]) rfl hdg kk
theorem am_bld_r (hx : p.tables.exec = Jvm.exec) (hb : c.code = cc) (hB : vk_S 3 am_sl3 am_sb3 (fun i => x (1000 + i)) (fun i => x (1010 + i)) (fun q : Nat => B ≤ q) s s.heap) (hS : va_S (fun q : Nat => B ≤ q) s.heap H locs) {a : Nat} {i v : Int32} (hv : am_bld a i = some v) (hdg : decode cc pc = .ok (.baload, 1))
    (kk : W p l e R s m args below meth c H locs cells slots Q (F0 m (pc + 1) ls (.int v :: rest))) : W p l e R s m args below meth c H locs cells slots Q (F0 m pc ls (.int i :: .ref (am_r B x a) :: rest)) := by
  unfold am_bld at hv
  cases hbx : am_bx a with
  | none => rw [hbx] at hv; cases hv
  | some l =>
    rw [hbx] at hv
    simp only at hv
    cases hin : am_in i l.length with
    | false => rw [hin] at hv; cases hv
    | true =>
      rw [hin] at hv
      simp only [cond_true] at hv
      obtain ⟨j, hj, rfl, hl, hq⟩ := am_bx_at hbx
      rw [am_r_ge (by omega)]
      refine va_tb hx hb (hB.1 j hj).2.2.2 hS (i := i) ?_ (v := .int v) ?_ hdg kk
      · rw [hl]
        exact am_in_vp hin
      · show Value.int ((am_sb3.getD j []).getD i.toNatClampNeg 0) = _
        rw [hq, List.getD_eq_getElem?_getD, hv]
        rfl
theorem am_sfl_r (hx : p.tables.exec = Jvm.exec) (hb : c.code = cc) (hB : vk_S 3 am_sl3 am_sb3 (fun i => x (1000 + i)) (fun i => x (1010 + i)) (fun q : Nat => B ≤ q) s s.heap) (hS : va_S (fun q : Nat => B ≤ q) s.heap H locs) {own : String} {index : Nat} (hown : s.vm.findClass own = some m.cls) {a f : Nat} {v : Value} (hv : am_sfl a f = some v)
    (hlink : (Cond.fieldLink own index "java/lang/String" (bif Nat.beq f 0 then "coder" else "value") (bif Nat.beq f 0 then "B" else "[B")).before args s = true) (hdg : decode cc pc = .ok (.getfield index, 3))
    (kk : W p l e R s m args below meth c H locs cells slots Q (F0 m (pc + 3) ls (am_c (am_r B x) v :: rest))) : W p l e R s m args below meth c H locs cells slots Q (F0 m pc ls (.ref (am_r B x a) :: rest)) := by
  unfold am_sfl at hv
  cases hi : am_iss a with
  | false => rw [hi] at hv; cases hv
  | true =>
    rw [hi] at hv
    simp only [cond_true, Option.some.injEq] at hv
    obtain ⟨j, hj, rfl⟩ := am_iss_at hi
    rw [am_r_ge (by omega)]
    obtain ⟨-, h1, h2, -⟩ := hB.1 j hj
    cases hf : Nat.beq f 0 with
    | true =>
      rw [hf] at hv hlink
      subst hv
      exact vk_getf hx hb h1 hS hown hlink (fun _ h => h) hdg kk
    | false =>
      rw [hf] at hv hlink
      subst hv
      simp only [cond_false, am_c] at kk
      rw [am_r_ge (by omega)] at kk
      have e : 1000 + j + 10 = 1010 + j := by omega
      rw [e] at kk
      exact vk_getf hx hb h2 hS hown hlink (fun _ h => h) hdg kk
theorem am_ast_r (hx : p.tables.exec = Jvm.exec) (hb : c.code = cc) (hS : va_S (fun q : Nat => B ≤ q) s.heap H locs) (hK : va_K (dC, dI) vwCl (am_ts d) s) (hP : am_P B x dC dI d w H) {a : Nat} {i v : Int32} {K : am_M → am_O} {o : Option Value × am_M} (hv : am_ast w a i v K = some o) (hdg : decode cc pc = .ok (.iastore, 1))
    (kk : ∀ (w1 : am_M) (H1 : Heap) (locs1 : List Loc), K w1 = some o → w1.1 = w.1 → am_P B x dC dI d w1 H1 → va_S (fun q : Nat => B ≤ q) s.heap H1 locs1 → W p l e R s m args below meth c H1 locs1 cells slots Q (F0 m (pc + 1) ls rest)) : W p l e R s m args below meth c H locs cells slots Q (F0 m pc ls (.int v :: .int i :: .ref (am_r B x a) :: rest)) := by
  unfold am_ast at hv
  cases ha : w.1[a]? with
  | none => rw [ha] at hv; cases hv
  | some c0 =>
    rw [ha] at hv
    match c0, ha, hv with
    | .inr (.inl n), ha, hv =>
      simp only at hv
      cases hin : am_in i n with
      | false => rw [hin] at hv; cases hv
      | true =>
        rw [hin] at hv
        simp only [cond_true] at hv
        have hcell := hP.1 a _ (hP.get ha)
        refine W.iast hx hb hcell ((hK.2 0 _ rfl).1 n (fun j => .int (w.2 a j))) (fun q => by cases q) (by show ¬ (i < 0 ∨ (arrV _ _ _).slots.size ≤ _); rw [arrV_size]; exact am_in_vp hin) rfl rfl hdg fun H1 e1 z oq => ?_
        have h1 := hP.set (H1 := H1) (c' := .inr (.inl n)) (G' := am_up w.2 a i.toNatClampNeg v) ha (fun b hb => am_up_ne _ _ _ _ hb) (by
          show H1[am_r B x a]? = some (vp_cell _ _)
          rw [e1]
          dsimp only
          rw [vp_cell_i, vp_cell_i, arrV_store]
          congr 2
          funext j
          rw [am_up_self]
          by_cases e : j = i.toNatClampNeg <;> simp [updV, e]) oq z
        rw [am_set_self ha] at h1
        exact kk _ H1 _ hv rfl h1 (hS.put z oq (by rw [am_r_lt (hP.lt ha)]; show B ≤ B + a; omega))
theorem am_rst_r (hx : p.tables.exec = Jvm.exec) (hb : c.code = cc) (hS : va_S (fun q : Nat => B ≤ q) s.heap H locs) (hK : va_K (dC, dI) vwCl (am_ts d) s) (hP : am_P B x dC dI d w H) {a b : Nat} {i : Int32} {K : am_M → am_O} {o : Option Value × am_M} (hv : am_rst w a i b K = some o) (hdg : decode cc pc = .ok (.aastore, 1))
    (kk : ∀ (w1 : am_M) (H1 : Heap) (locs1 : List Loc), K w1 = some o → w1.1.length = w.1.length → am_sl w1.1 = am_sl w.1 → am_P B x dC dI d w1 H1 → va_S (fun q : Nat => B ≤ q) s.heap H1 locs1 → W p l e R s m args below meth c H1 locs1 cells slots Q (F0 m (pc + 1) ls rest)) : W p l e R s m args below meth c H locs cells slots Q (F0 m pc ls (.ref (am_r B x b) :: .int i :: .ref (am_r B x a) :: rest)) := by
  unfold am_rst at hv
  cases ha : w.1[a]? with
  | none => rw [ha] at hv; cases hv
  | some c0 =>
    rw [ha] at hv
    cases hb2 : w.1[b]? with
    | none => rw [hb2] at hv; match c0, hv with | .inr (.inr _), hv => cases hv
    | some c1 =>
      rw [hb2] at hv
      match c0, c1, ha, hb2, hv with
      | .inr (.inr (t, vs)), .inl (o1, o2), ha, hb2, hv =>
        simp only at hv
        cases hin : (am_in i vs.length && (Nat.beq t 1 && Nat.beq o1 6)) with
        | false => rw [hin] at hv; cases hv
        | true =>
          rw [hin] at hv
          simp only [cond_true] at hv
          simp only [Bool.and_eq_true] at hin
          obtain ⟨hin, ht, ho⟩ := hin
          have ht := Nat.eq_of_beq_eq_true ht
          have ho := Nat.eq_of_beq_eq_true ho
          subst ht
          subst ho
          obtain ⟨h0, hlt⟩ := am_in_lt hin
          have hcell := hP.1 a _ (hP.get ha)
          obtain ⟨r', hr', cellV, g1, g2, g3, -⟩ := hP.1 b _ (hP.get hb2)
          have hcls := (hK.1 6 _ rfl).2
          obtain ⟨kA, comp, k1, k2, k3, -⟩ := (hK.2 2 _ rfl).2
          have hcomp : comp = dC 6 := Option.some.inj (k3.symm.trans hcls.1)
          subst hcomp
          obtain ⟨kC, hkC, -⟩ := hcls.2
          refine W.aast hx hb hcell (fun q h => by cases h) (fun h => by cases h) k1 k2 rfl hkC ⟨h0, by show _ < (arrV _ _ _).slots.size; rw [arrV_size]; exact hlt⟩ g1 (fun q h => by rw [g3] at h; cases h) (by rw [g2]; exact hkC) (by rw [g2]; exact va_assign hcls) rfl rfl hdg fun H1 e1 z oq => ?_
          have h1 := hP.set (H1 := H1) (c' := .inr (.inr (1, vs.set i.toNatClampNeg (some b)))) (G' := w.2) ha (fun _ _ => rfl) (by
            show H1[am_r B x a]? = some (vp_cell _ _)
            rw [e1]
            dsimp only
            rw [vp_cell_q, vp_cell_q, arrV_store, List.length_set]
            congr 2
            funext j
            unfold am_row
            simp only [List.getD_eq_getElem?_getD]
            by_cases e : j = i.toNatClampNeg
            · subst e
              rw [List.getElem?_set_self hlt]
              simp [updV, va_rf]
            · rw [List.getElem?_set_ne (Ne.symm e)]
              simp [updV, e]) oq z
          exact kk _ H1 _ hv (by simp) (am_sl_set _ _ _ _ ha (by simp [am_sz])) h1 (hS.put z oq (by rw [am_r_lt (hP.lt ha)]; show B ≤ B + a; omega))
theorem am_put_r (hx : p.tables.exec = Jvm.exec) (hb : c.code = cc) (hts : ∀ w ∈ am_TB, w.before args s = true) (hown : s.vm.findClass own = some m.cls) (hS : va_S (fun q : Nat => B ≤ q) s.heap H locs) (hK : va_K (dC, dI) vwCl (am_ts d) s) (hP : am_P B x dC dI d w H) {a ci k i : Nat} {v : Value} {q : vw_C} {K : am_M → am_O} {o : Option Value × am_M} (hv : am_put w a ci k v K = some o) (hq : vwCl[ci]? = some q) (hk : k < q.2.2) (hl : Cond.fieldLink own i (q.2.1 k).1 (q.2.1 k).2.1 (q.2.1 k).2.2.1 ∈ am_TB) (hfin : (q.2.1 k).2.2.2 = false ∨ (meth.name = "<init>" ∧ (q.2.1 k).1 = own)) (hdg : decode cc pc = .ok (.putfield i, 3))
    (kk : ∀ (w1 : am_M) (H1 : Heap) (locs1 : List Loc), K w1 = some o → w1.1.length = w.1.length → am_sl w1.1 = am_sl w.1 → am_P B x dC dI d w1 H1 → va_S (fun q : Nat => B ≤ q) s.heap H1 locs1 → W p l e R s m args below meth c H1 locs1 cells slots Q (F0 m (pc + 3) ls rest)) : W p l e R s m args below meth c H locs cells slots Q (F0 m pc ls (am_c (am_r B x) v :: .ref (am_r B x a) :: rest)) := by
  unfold am_put at hv
  cases ha : w.1[a]? with
  | none => rw [ha] at hv; cases hv
  | some c0 =>
    rw [ha] at hv
    match c0, ha, hv with
    | .inl (o1, o2), ha, hv =>
      simp only at hv
      cases hc : Nat.beq o1 ci with
      | false => rw [hc] at hv; cases hv
      | true =>
        rw [hc] at hv
        simp only [cond_true] at hv
        have e1 : o1 = ci := Nat.eq_of_beq_eq_true hc
        subst e1
        obtain ⟨hin, hty, hnm, hns⟩ := am_cls _ _ hq
        have hg := hP.get ha
        -- what the store does to the world
        have hw : ∃ (c' : am_L) (G' : am_G), K (w.1.set a c', G') = some o ∧ am_sz c' = am_sz (.inl (o1, o2)) ∧ (∀ b, b ≠ a → G' b = w.2 b) ∧ am_E (am_r B x) d c' (G' a) = .inr (o1, (am_fs (am_r B x) (w.2 a) 0 o2).set k (am_c (am_r B x) v)) ∧ k < (am_fs (am_r B x) (w.2 a) 0 o2).length ∧ narrow (am_ty o1 k) (am_c (am_r B x) v) = am_c (am_r B x) v ∧ fits (am_ty o1 k) (am_c (am_r B x) v) = true := by
          cases hf : o2[k]? with
          | none => rw [hf] at hv; cases hv
          | some z =>
            rw [hf] at hv
            have hkl : k < (am_fs (am_r B x) (w.2 a) 0 o2).length := by rw [am_fs_len]; exact (List.getElem?_eq_some_iff.mp hf).1
            match z, v, hf, hv with
            | none, .int y, hf, hv =>
              simp only at hv
              cases hn : am_nar (am_ty o1 k) y with
              | false => rw [hn] at hv; cases hv
              | true =>
                rw [hn] at hv
                refine ⟨.inl (o1, o2), am_up w.2 a k y, by rw [am_set_self ha]; exact hv, rfl, fun b hb => am_up_ne _ _ _ _ hb, ?_, hkl, am_nar_ok hn⟩
                show (Sum.inr (o1, am_fs _ _ 0 o2) : va_E) = _
                rw [am_up_self, show am_c (am_r B x) (.int y) = .int y from rfl, am_fs_up _ _ _ _ _ _ hf]
                simp only [Nat.zero_add]
            | some u, .ref b, hf, hv =>
              simp only at hv
              cases hn : am_isr (am_ty o1 k) with
              | false => rw [hn] at hv; cases hv
              | true =>
                rw [hn] at hv
                refine ⟨.inl (o1, o2.set k (some (.ref b))), w.2, hv, by simp [am_sz], fun b hb => rfl, ?_, hkl, am_isr_ok hn _⟩
                show (Sum.inr (o1, am_fs _ _ 0 _) : va_E) = _
                rw [am_fs_set _ _ _ _ _ _ _ hf]
        obtain ⟨c', G', hK', hsz, hG, hE, hkl, hnv, hfit⟩ := hw
        have hap := va_apart (own := own) hts hin (am_ty o1) hty hnm hK hq
        obtain ⟨r0, h1, cell, q1, q2, q3, q4⟩ := hP.1 a _ hg
        have hr : r0 = q := Option.some.inj (h1.symm.trans hq)
        subst hr
        obtain ⟨hS1, hfc, kC, hkC, hkind⟩ := hK.1 o1 _ hq
        obtain ⟨cf, kf, fi, f, hi, hsl⟩ := hS1 k hk
        have hlay := hts _ (hin _ (u_in_lay hk))
        have hst := (u_facts hfc hkC (u_lays hts hin hk) hi).1
        have fin : ∀ H1 : Heap, H1[am_r B x a]? = some (cell.setSlot f.slot (am_c (am_r B x) v)) → H1.size = H.size → (∀ q, q ≠ am_r B x a → H1[q]? = H[q]?) → W p l e R s m args below meth c H1 (locs ++ [⟨am_r B x a, f.slot⟩]) cells slots Q (F0 m (pc + 3) ls rest) := by
          intro H1 f1 f2 f3
          rw [hsl] at f1 ⊢
          refine kk _ H1 _ hK' (by simp) (am_sl_set _ _ _ _ ha hsz) (hP.set ha hG (by
            rw [hE]
            exact ⟨_, hq, t_OB.to (V := updV (vp_V (am_fs (am_r B x) (w.2 a) 0 o2)) k (am_c (am_r B x) v)) ⟨_, f1, q2, q3, t_set q4 hap hk _⟩ (fun j _ => vp_updV_set hkl _ j)⟩) f3 f2) (hS.put f2 f3 (by rw [am_r_lt (hP.lt ha)]; show B ≤ B + a; omega))
        unfold u_lay at hlay
        by_cases hff : (r0.2.1 k).2.2.2 = true
        · rw [if_pos hff] at hlay
          rcases hfin with hfin | ⟨hin2, hdecl⟩
          · rw [hfin] at hff; cases hff
          · have hcf : m.cls = cf := by
              obtain ⟨_, _, c', _, _, _, -, -, hf', -, -, -, hown2, -⟩ := Cond.laysFinal_spec hlay
              have e1 : c' = cf := by have := hi.symm.trans hf'; simp at this; exact this.1.symm
              rw [hdecl] at hown2
              rw [← e1]; exact Option.some.inj (hown.symm.trans hown2)
            have h6 := u_fits hfc hkC hkind (Or.inr hlay) hi (hty k hk) hnv hfit
            exact W.putFinK hx hb hown (hts _ hl) hi hst hcf hin2 (by rw [q2]; exact h6) q1 q3 (by rw [hsl]; exact k2_hasslot (q4 k hk)) rfl rfl hdg fin
        · rw [if_neg hff] at hlay
          have h6 := u_store hfc hkC hkind hlay hi (hty k hk) hnv hfit
          exact W.putK hx hb (f := f) ⟨hown, hts _ hl, ⟨_, _, _, hi⟩, hst⟩ (by rw [q2]; exact h6) q1 q3 (by rw [hsl]; exact k2_hasslot (q4 k hk)) rfl rfl hdg fin
end AMR
