theorem am_n {k n : Nat} (hk : k ≠ 0) (h : (Nat.beq k 0 || Nat.beq k n) = true) : n = k := by
  rcases Bool.or_eq_true _ _ ▸ h with h | h
  · exact absurd (Nat.eq_of_beq_eq_true h) hk
  · exact (Nat.eq_of_beq_eq_true h).symm
theorem am_mtP {t : Nat} {M : am_m} (h : am_mt[t]? = some M) : am_okP M := am_ok M (List.mem_of_getElem? h)
theorem am_TB_good {w : Cond} (h : w ∈ am_TB) : (w.onTables && w.keeps) = true ∨ ∃ ty, w = .arrayClass ty := good_of_word (List.mem_filter.mp h).2
theorem am_srv_at {as : List Value} (h : am_srv as = true) : ∃ (b : Nat) (t : List Value), as = .ref b :: t ∧ am_iss b = true := by
  cases as with
  | nil => cases h
  | cons v t =>
    cases v with
    | ref b => exact ⟨b, t, rfl, h⟩
    | _ => cases h
section AMG
variable {p : Program} {l : Launch} {e : Env} {R : Room} {s : State} {m : MethodId} {args : Array Value} {below : List Frame} {meth : Method} {c : Code} {H : Heap} {locs : List Loc} {cells slots : Nat} {Q : State → Prop}
variable {cc : ByteArray} {pc : Nat} {ls : Array Slot} {rest : List Value} {B : Nat} {x : Nat → Nat} {dC : Nat → ClassId} {dI : Nat → Nat → Nat} {d : am_D} {X : am_X}
/-- behind a call -/
theorem am_go {mc ms : Nat} {st0 : List Value} {aa : Array Value} {o1 : Option Value × am_M} (hr : va_Run p l e R s m args below meth c H locs cells slots mc ms (F0 m pc ls st0) rest (am_Post B x dC dI d o1 aa) (fun q : Nat => B ≤ q)) (hS : va_S (fun q : Nat => B ≤ q) s.heap H locs)
    (kk : ∀ (H1 : Heap) (locs1 : List Loc), am_P B x dC dI d o1.2 H1 → va_S (fun q : Nat => B ≤ q) s.heap H1 locs1 → W p l e R s m args below meth c H1 locs1 (cells + mc) (slots + ms) Q (F0 m (pc + 3) ls ((o1.1.map (am_c (am_r B x))).toList ++ rest))) : W p l e R s m args below meth c H locs cells slots Q (F0 m pc ls st0) := by
  intro T hT X9
  obtain ⟨v, st₀, t, T', L, h0, X', hL, e1, e2, ⟨⟨hv, hp⟩, hz, hk⟩, st⟩ := hr T hT X9
  cases hv
  rw [h0] at hz hk
  obtain ⟨t2, a1, b1⟩ := kk T'.heap (locs ++ L) (by rw [e1]; exact hp) ⟨Nat.le_trans hS.1 (by rw [e1]; exact hz), fun q h1 h2 => by rw [e1, hk q (Nat.lt_of_lt_of_le h1 hS.1) h2]; exact hS.2.1 q h1 h2, fun q hq => by
      rcases List.mem_append.mp hq with h | h
      · exact hS.2.2 q h
      · exact hL q h⟩ T' rfl X'
  exact ⟨t2, st t2 a1, b1⟩
/-- what a callee finds -/
theorem am_pre (hz : B ≤ s.heap.size) (hE : am_Ext B x X s) (hK : va_K (dC, dI) vwCl (am_ts d) s) (hS : va_S (fun q : Nat => B ≤ q) s.heap H locs) {w : am_M} (hP : am_P B x dC dI d w H) {U : State} (hU : U.heap = H) (hW : s.WarmedH U.vm) : am_Pre B x dC dI d X w U :=
  ⟨by rw [hU]; exact hP, va_K.moved hW.alike hK, hE.to hW hz fun q hq => by rw [hU]; exact hS.2.1 q (Nat.lt_of_lt_of_le hq hz) (Nat.not_le.mpr hq)⟩
theorem am_blind {av : List Value} {w : am_M} : FrameBlind (va_Pc av (am_Pre B x dC dI d X w)) := by
  intro a U g mk h
  obtain ⟨rfl, hP, hK, h1, h2, h3, h4, h5, h6, h7, h8⟩ := h
  exact ⟨rfl, hP, va_K.moved (u := U) (U := U.calling g mk _) (Vm.Alike.refl U.vm) hK, fun i q hi => ⟨(h1 i q hi).1.moved (Vm.Alike.refl U.vm), (h1 i q hi).2⟩, fun z hz M hM => va_Nw.same rfl (rfl : U.vm = (U.calling g mk _).vm) (h2 z hz M hM), fun i z hz => vk_R.same (U := U.calling g mk _) rfl (h3 i z hz), h4.moved (Vm.Alike.refl U.vm), va_AO.use (va_AO.moved (u := U) (U := U.calling g mk _) (Vm.Alike.refl U.vm) (va_AO.of h5)), am_AOA (u := U) (U := U.calling g mk _) (Vm.Alike.refl U.vm) h6, h7.moved (Vm.Alike.refl U.vm), h8.moved (Vm.Alike.refl U.vm)⟩
/-- a method's words at a call, and its room -/
theorem am_cb {t na i dp mc ms : Nat} {M : am_m} {own : String} (hts : ∀ w ∈ am_TB, w.before args s = true) (hM : am_mt[t]? = some M) (hp0 : (!(Nat.beq M.2.2.2.2.2.2.1 0)) = true) (hR1 : dp + 1 + 1 ≤ R.frames) (hR2 : (dp + 1) * 60 + 30 ≤ R.locals) (hn : am_np M = na) : 
    (am_room dp mc ms).cells = mc ∧ (am_room dp mc ms).slots = ms ∧ (am_room dp mc ms).frames + 1 ≤ R.frames ∧ 8 + (M.2.2.1 + 11) + (am_room dp mc ms).locals ≤ R.locals ∧ (∀ w ∈ am_wsm M, ∀ (a' : Array Value) (U : State), s.WarmedH U.vm → w.before a' U = true) ∧ Cond.code M.1 M.2.1 M.2.2.1 M.2.2.2.1 ∈ am_wsm M ∧
  (Cond.code M.1 M.2.1 M.2.2.1 M.2.2.2.1).before args s = true ∧ (Cond.initialized M.1.cls).before args s = true ∧ (M.1.cls ≠ "java/lang/invoke/MethodHandle" ∧ M.1.cls ≠ "java/lang/invoke/VarHandle") ∧ (∀ sig, parseMethodDescriptor M.1.desc = some sig → na = sig.parameters.length) := by
  have hok := (am_mtP hM).2
  simp only [am_okC, Bool.and_eq_true, decide_eq_true_eq] at hok
  obtain ⟨-, hini, hgi, hm1, hm2, hl9, hcode⟩ := hok
  have hc : Cond.code M.1 M.2.1 M.2.2.1 M.2.2.2.1 ∈ am_TB := by
    rcases Bool.or_eq_true _ _ ▸ hcode with h | h
    · rw [h] at hp0; cases hp0
    · exact am_atc_in h
  have hi : Cond.initialized M.1.cls ∈ am_TB := List.mem_filter.mpr ⟨hini, hgi⟩
  have hl9 := Nat.le_of_ble_eq_true hl9
  refine ⟨rfl, rfl, hR1, by show 8 + (M.2.2.1 + 11) + (dp + 1) * 60 ≤ R.locals; omega, fun w hw a' U hW => ?_, List.mem_cons_self, hts _ hc, hts _ hi, ⟨hm1, hm2⟩, fun sig h => ?_⟩
  · rcases List.mem_cons.mp hw with rfl | hw
    · exact word_at hW (am_TB_good hc) (hts _ hc)
    · exact word_at hW (am_TB_good hw) (hts _ hw)
  · unfold am_np at hn
    rw [h] at hn
    exact hn.symm
/-- what was taken off the stack -/
theorem am_take {st : List Value} {na : Nat} (r : Nat → Nat) (h : na ≤ st.length) : st.map (am_c r) = (((st.take na).reverse).map (am_c r)).reverse ++ (st.drop na).map (am_c r) := by
  rw [← List.map_reverse, List.reverse_reverse, ← List.map_append, List.take_append_drop]
end AMG
