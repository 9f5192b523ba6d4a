/-! from the law's loop on: the fresh world in a plain form -/
theorem am_same_at {G G' : am_G} : ∀ (L : List am_L) (k i : Nat) (c : am_L), am_same G G' k L = true → L[i]? = some c → ∀ j, j < am_sz c → G (k + i) j = G' (k + i) j
  | [], _, _, _, _, h => by simp at h
  | a :: t, k, 0, c, h, hc => by
    simp only [List.getElem?_cons_zero, Option.some.injEq] at hc
    subst hc
    unfold am_same at h
    rw [Bool.and_eq_true] at h
    intro j hj
    exact of_decide_eq_true (List.all_eq_true.mp h.1 j (List.mem_range.mpr hj))
  | a :: t, k, i + 1, c, h, hc => by
    simp only [List.getElem?_cons_succ] at hc
    unfold am_same at h
    rw [Bool.and_eq_true] at h
    intro j hj
    have := am_same_at t (k + 1) i c h.2 hc j hj
    rwa [show k + 1 + i = k + (i + 1) by omega] at this
theorem am_fs_cong2 (r : Nat → Nat) (g g' : Nat → Int32) : ∀ (l : List (Option Value)) (k : Nat), (∀ j, k ≤ j → j < k + l.length → g j = g' j) → am_fs r g k l = am_fs r g' k l
  | [], _, _ => rfl
  | none :: t, k, h => by
    simp only [List.length_cons] at h
    simp only [am_fs, h k (Nat.le_refl k) (by omega), am_fs_cong2 r g g' t (k + 1) (fun j h1 h2 => h j (by omega) (by omega))]
  | some v :: t, k, h => by
    simp only [List.length_cons] at h
    simp only [am_fs, am_fs_cong2 r g g' t (k + 1) (fun j h1 h2 => h j (by omega) (by omega))]
theorem am_arrV_cong {c : ClassId} {N : Nat} {f f' : Nat → Value} (h : ∀ j, j < N → f j = f' j) : arrV c N f = arrV c N f' := by
  unfold arrV
  have e : (fun j : Fin N => f j.val) = fun j : Fin N => f' j.val := funext fun j => h j.val j.isLt
  rw [e]
theorem am_P.swap {B : Nat} {x : Nat → Nat} {dC : Nat → ClassId} {dI : Nat → Nat → Nat} {d : am_D} {L : List am_L} {G G' : am_G} {H : Heap} (h : am_P B x dC dI d (L, G) H) (hs : am_same G G' 0 L = true) : am_P B x dC dI d (L, G') H := by
  refine ⟨fun k q hk => ?_, h.2.1, h.2.2⟩
  obtain ⟨c, hc, rfl⟩ := am_ws_inv _ _ _ hk
  have hg := am_same_at L 0 k c hs hc
  rw [Nat.zero_add] at hg
  have h1 := h.1 k _ (h.get hc)
  match c, hc, hg, h1 with
  | .inl o, hc, hg, h1 =>
    have e : am_fs (am_r B x) (G k) 0 o.2 = am_fs (am_r B x) (G' k) 0 o.2 := am_fs_cong2 _ _ _ _ 0 (fun j _ h2 => hg j (by simpa [am_sz] using h2))
    show va_at (dC, dI) vwCl (am_r B x k, .inr (o.1, am_fs (am_r B x) (G' k) 0 o.2)) H
    rw [← e]
    exact h1
  | .inr (.inl n), hc, hg, h1 =>
    show H[am_r B x k]? = some (vp_cell d.1 (n, .inl (G' k)))
    have e : vp_cell d.1 (n, .inl (G k)) = vp_cell d.1 (n, .inl (G' k)) := by
      rw [vp_cell_i, vp_cell_i]
      exact am_arrV_cong fun j hj => by rw [hg j hj]
    rw [← e]
    exact h1
  | .inr (.inr o), hc, hg, h1 => exact h1
theorem am_runS_mono {X X' : am_X} {C C' : Nat → List Value → am_M → am_O} {rt : Option FieldType} {ins : Nat → Option am_e} {stop : Nat} {lv0 : am_V} (hX : ∀ i q, X i = some q → X' i = some q) (hC : ∀ t as w o, C t as w = some o → C' t as w = some o) : ∀ (n m pc : Nat) (lv : am_V) (st : List Value) (w : am_M) (o : Option Value × am_M), n ≤ m → am_runS X C rt ins stop lv0 n pc lv st w = some o → am_runS X' C' rt ins stop lv0 m pc lv st w = some o
  | 0, _, _, _, _, _, _, _, h => by cases h
  | n + 1, 0, _, _, _, _, _, hl, _ => absurd hl (by omega)
  | n + 1, m + 1, pc, lv, st, w, o, hl, h => by
    unfold am_runS at h ⊢
    rcases am_bif h with ⟨h1, h⟩ | ⟨h1, h⟩
    · rw [am_bt h1]
      exact h
    · rw [am_bf h1]
      split at h
      · rename_i en hen
        rcases am_ex_step hX hC h with ⟨pc1, lv1, st1, w1, h1, h2⟩ | h2
        · rw [h2]
          exact am_runS_mono hX hC n m _ _ _ _ _ (by omega) h1
        · exact h2 _
      · cases h
theorem am_K_b : ∃ KW : am_M, KW.1 = am_L0 1000 ∧ am_same KW.2 am_g0 0 (am_L0 1000) = true ∧ am_K = some (none, KW) := by
  refine ⟨am_KW, am_K_L, am_K_G, ?_⟩
  have h3 := am_K_a
  unfold am_KW
  cases hk : am_K with
  | none => rw [hk] at h3; cases h3
  | some o =>
    rw [hk] at h3
    obtain ⟨o1, o2⟩ := o
    simp at h3
    rw [h3]
section AMS2
variable {p : Program} {e : Env} {s : State} {m : MethodId} {below : List Frame} {meth : Method} {c : Code}
/-- the law is true where the machine says so, from its loop on -/
theorem am_law2 (l : Launch) {b L : Nat} {xs : Nat → Int32} (C0 : lw_At p s m meth c b L xs) {D : Nat} {wf : am_M} (h : am_Rn (am_X0 L xs) D (some .boolean) am_J0 18 am_lv0 [] (am_L0 1000, am_g0) (some (.int 1), wf)) (hD : D ≤ 1000) (h1 : wf.1.length ≤ 600000) (h2 : am_sl wf.1 ≤ 7302250) :
    W p l e room_1 s m #[Value.ref b] below meth c s.heap [] 0 0 (lw_Z below #[Value.ref b] s) (entryFrame m ([Value.ref b] : List Value).toArray 4) := by
  obtain ⟨n, h⟩ := h
  obtain ⟨KW, hKL, hKG, hK1⟩ := am_K_b
  obtain ⟨hx, hb, hr, hml, hown, hts, hX, hbl, hlocks, hgv⟩ := id C0
  obtain ⟨dC, dI, d, x, hK, hE, hxb⟩ := am_setup hts hgv hX hbl
  have htb : ∀ w ∈ am_TB, w.before #[Value.ref b] s = true := fun w h => hts w (am_TB_tbl h)
  have hl := lv_entry ([.ref b]) (n := 4) (Nat.le_of_ble_eq_true rfl)
  rw [lg_entry_eq]
  generalize (lg_sl ([.ref b]) ++ List.replicate (4 - (lg_sl ([.ref b])).length) Slot.unset).toArray = ls at hl ⊢
  have hab : ([.ref 1003] : List Value).map (am_c (am_r s.heap.size x)) = [.ref b] := by
    show [Value.ref (am_r s.heap.size x 1003)] = _
    rw [am_r_ge (by decide), hxb]
  have hH : am_H (am_r s.heap.size x) ls (am_ent 4 [.ref 1003]) := by
    unfold am_H
    rw [am_ent_len (by decide), am_ent_fx, hab]
    exact hl
  have hP : am_P s.heap.size x dC dI d ([], fun _ _ => 0) s.heap := ⟨fun k q h => by simp [am_ws] at h, rfl, by decide⟩
  obtain ⟨hrow, -⟩ := am_ok am_N0 (List.mem_of_getElem? (i := 0) rfl)
  have hCD : ∀ D' : Nat, D' ≤ 1000 → ∀ t as w1 o1, am_CD (am_X0 L xs) D' t as w1 = some o1 → am_le w1 o1.2 ∧ ∃ dp M, am_mt[t]? = some M ∧ dp + 1 + 1 ≤ room_1.frames ∧ (dp + 1) * 60 + 30 ≤ room_1.locals ∧ ((!(Nat.beq M.2.2.2.2.2.2.1 0)) = true → am_Met l s.heap.size x dC dI d (am_X0 L xs) dp M as w1 o1) := by
    intro D' hD' t1 as1 w1 o1 h3
    refine ⟨am_CD_le _ _ _ _ _ h3, ?_⟩
    cases D' with
    | zero => cases h3
    | succ dp' =>
      obtain ⟨M1, hM1, hm1⟩ := am_sound_call l s.heap.size x dC dI d (am_X0 L xs) dp' t1 as1 w1 o1 h3
      exact ⟨dp', M1, hM1, by show dp' + 1 + 1 ≤ 2048; omega, by show (dp' + 1) * 60 + 30 ≤ 84000; omega, hm1⟩
  have hwl : (am_L0 1000).length ≤ wf.1.length ∧ am_sl (am_L0 1000) ≤ am_sl wf.1 := am_run_le (fun t as w o h => am_CD_le D t as w o h) _ _ _ _ _ _ h
  -- the law's end
  have hI : ∀ pc w1 H1 locs cells slots ls1 v ty, some FieldType.boolean = some ty → am_nar ty v = true → ((some (.int 1), wf) : Option Value × am_M) = (some (.int v), w1) → decode code pc = .ok (.ireturn, 1) → am_P s.heap.size x dC dI d w1 H1 → va_S (fun q : Nat => s.heap.size ≤ q) s.heap H1 locs → cells + 0 = w1.1.length → slots + 0 = am_sl w1.1 → W p l e room_1 s m #[Value.ref b] below meth c H1 locs cells slots (lw_Z below #[Value.ref b] s) (F0 m pc ls1 [.int v]) := by
    intro pc w1 H1 locs cells slots ls1 v ty h3 h4 h5 h6 hP1 hS1 hc1 hs1
    have hv : v = 1 := by
      have := congrArg Prod.fst h5
      simp at this
      exact this.symm
    have hw : w1 = wf := (congrArg Prod.snd h5).symm
    subst hv
    subst hw
    refine va_forget (fun q hq => hS1.2.2 q hq) ?_
    refine W.widen (k := 600000) (n := 7302250) (by omega) (by omega) ?_
    exact lw_ret hx hb hr hlocks h6
  -- behind the prefix
  have hgo : ∀ (n2 pc : Nat) (lv : am_V) (st : List Value) (w : am_M) (H : Heap) (locs : List Loc) (cells slots : Nat) (ls : Array Slot), am_runS (am_X0 L xs) (am_CD (am_X0 L xs) 40) (some .boolean) am_J0 18 am_lv0 n2 pc lv st w = some (none, KW) → am_P s.heap.size x dC dI d w H → va_S (fun q : Nat => s.heap.size ≤ q) s.heap H locs → am_H (am_r s.heap.size x) ls lv → lv.length = 4 → cells + 0 = w.1.length → slots + 0 = am_sl w.1 → W p l e room_1 s m #[Value.ref b] below meth c H locs cells slots (lw_Z below #[Value.ref b] s) (F0 m pc ls (st.map (am_c (am_r s.heap.size x)))) := by
    intro n2
    induction n2 with
    | zero => intro pc lv st w H locs cells slots ls h; cases h
    | succ n2 ih =>
      intro pc lv st w H locs cells slots ls h3 hP hS hH hl hc hs
      unfold am_runS at h3
      rcases am_bif h3 with ⟨h4, h3⟩ | ⟨h4, h3⟩
      · obtain ⟨h5, h3⟩ := am_bif0 h3
        simp only [Bool.and_eq_true, decide_eq_true_eq] at h5
        obtain ⟨rfl, rfl⟩ := h5
        have hpc : pc = 18 := Nat.eq_of_beq_eq_true h4
        subst hpc
        have hw : w = KW := (Prod.mk.inj (Option.some.inj h3)).2
        have hwe : w = (am_L0 1000, KW.2) := by rw [hw, ← hKL]
        rw [hwe] at hP hc hs
        have hP2 := hP.swap hKG
        exact am_sound_run (C := am_CD (am_X0 L xs) D) (y := am_N0.1) (o := (some (.int 1), wf)) (n0 := 0) (s0 := 0) (nL := 4) (X := am_X0 L xs) hx hb hml hown (fun h9 => absurd h9 (by decide +kernel)) htb (Nat.le_refl _) hE hK (by decide) (by decide) h1 h2 (hCD D hD) hrow hI (fun _ _ _ _ _ _ _ _ _ h3 h4 => by cases h3; cases h4) (fun _ _ _ _ _ _ _ h3 => by cases h3) n 18 _ [] _ H locs cells slots ls h hP2 hS hH hl hc hs
      · split at h3
        · rename_i en hen
          have hle := hwl
          have hkl : (am_L0 1000).length ≤ room_1.cells + 0 ∧ am_sl (am_L0 1000) ≤ room_1.slots + 0 := by
            refine ⟨?_, ?_⟩
            · show _ ≤ 600000
              omega
            · show _ ≤ 7302250
              omega
          exact am_sound_ex (k := am_runS (am_X0 L xs) (am_CD (am_X0 L xs) 40) (some .boolean) am_J0 18 am_lv0 n2) (o := (none, KW)) (y := am_N0.1) (n0 := 0) (s0 := 0) hx hb (hml.trans hl.symm) hown (fun h9 => absurd h9 (by decide +kernel)) htb (Nat.le_refl _) hE hK (by decide) (by decide) (by rw [hKL]; exact hkl.1) (by rw [hKL]; exact hkl.2) (hCD 40 (by decide))
            (fun pc1 lv1 st1 w1 H1 locs1 cells1 slots1 ls1 h1 h2 h3 h4 h5 h6 h7 => ih pc1 lv1 st1 w1 H1 locs1 cells1 slots1 ls1 h1 h2 h3 h4 (h5.trans hl) h6 h7)
            (fun pc1 lv1 st1 w1 h1 => am_runS_le (fun t as w o h => am_CD_le 40 t as w o h) _ _ _ _ _ _ h1)
            (fun v ty h1 h2 h3 h4 => by cases h3)
            (fun a ty h1 h2 h3 h4 => by cases h3)
            (fun h1 h3 h4 => by cases h1)
            (hrow _ _ hen) hP hS hH hc hs h3
        · cases h3
  have hpre : am_runS (am_X0 L xs) (am_CD (am_X0 L xs) 40) (some .boolean) am_J0 18 am_lv0 20 0 (am_ent 4 [.ref 1003]) [] ([], fun _ _ => 0) = some (none, KW) := by
    exact am_runS_mono (fun _ _ h => by cases h) (fun t as w o h => am_call_CD (fun _ _ h => by cases h) 40 t as w o h) 20 20 _ _ _ _ _ (Nat.le_refl _) hK1
  exact hgo 20 0 _ [] _ s.heap [] 0 0 ls hpre hP va_S.rf hH (am_ent_len (by decide)) rfl rfl
end AMS2
