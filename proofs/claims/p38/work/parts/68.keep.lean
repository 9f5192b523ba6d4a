/-! what a state keeps to, call by call -/
/-- the debts no higher, all else the same -/
def am_le2 (S S' : am_S) : Prop := (∀ f p, (f < 5 ∨ f = 13) → S' f p = S f p) ∧ ∀ i j, i < 8 → S' (5 + i) j ≤ S (5 + i) j
theorem am_le2.tr {S S1 S2 : am_S} (h1 : am_le2 S S1) (h2 : am_le2 S1 S2) : am_le2 S S2 := ⟨fun f p h => (h2.1 f p h).trans (h1.1 f p h), fun i j h => Nat.le_trans (h2.2 i j h) (h1.2 i j h)⟩
theorem am_le2_wf {S S' : am_S} (h : am_le2 S S') (hw : am_wf S) : am_wf S' := by
  obtain ⟨a1, a2, a3, a4, a5⟩ := hw
  have e := h.1 13 0 (Or.inr rfl)
  refine ⟨by rw [e]; exact a1, fun p hp => ?_, fun i j hi hj => Nat.le_trans (h.2 i j hi) (a3 i j hi hj), fun p hp hp8 => ?_, fun i j hi hj hz => ?_⟩
  · rw [h.1 0 p (by omega), h.1 1 p (by omega), h.1 2 p (by omega), h.1 3 p (by omega), h.1 4 p (by omega)]
    exact a2 p hp
  · rw [e] at hp
    rw [h.1 3 p (by omega), h.1 4 p (by omega)]
    exact a4 p hp hp8
  · rw [e] at hz
    have := h.2 i j hi
    rw [a5 i j hi hj hz] at this
    omega
theorem am_ss_le2 {S : am_S} {a b l : Nat} (ha : a < 8) : am_le2 S (am_ss S a b l) := by
  unfold am_ss
  refine ⟨fun f p h => by rw [am_su_get, if_neg (by omega)], fun i j hi => ?_⟩
  rw [am_su_get]
  split
  · rename_i e
    have : i = a := by omega
    subst this
    split
    · rename_i e2; subst e2; omega
    · exact Nat.le_refl _
  · exact Nat.le_refl _
theorem am_fo_le2 : ∀ (l : List am_R3) (z : am_S × Nat), (∀ x ∈ l, x.1 < 8 ∧ x.2.1 < 8 ∧ (x.2.2 = 8 ∨ x.2.2 < 8)) → am_le2 z.1 (am_fo l z).1
  | [], z, _ => ⟨fun _ _ _ => rfl, fun _ _ _ => Nat.le_refl _⟩
  | x :: t, z, h => by
    have ih := am_fo_le2 t (am_st1 z.1 x, z.2 + am_c1 z.1 x) fun y hy => h y (List.mem_cons_of_mem _ hy)
    refine am_le2.tr ?_ ih
    obtain ⟨h1, h2, h3⟩ := h x (List.mem_cons_self ..)
    show am_le2 z.1 (am_sk z.1 x (am_ls z.1 x))
    unfold am_sk
    split
    · exact (am_ss_le2 h1).tr (am_ss_le2 h2)
    · exact ((am_ss_le2 h1).tr (am_ss_le2 h2)).tr (am_ss_le2 (by omega))
theorem am_L23 : ∀ x ∈ am_L2a 8 0 ++ am_L3a 8 0, x.1 < 8 ∧ x.2.1 < 8 ∧ (x.2.2 = 8 ∨ x.2.2 < 8) := by decide +kernel
theorem am_stk2_wf {S : am_S} (hw : am_wf S) : am_wf (am_stk2 S).1 ∧ (am_stk2 S).1 13 = S 13 :=
  have h := am_fo_le2 _ (S, 0) am_L23
  ⟨am_le2_wf h hw, funext fun p => h.1 13 p (Or.inr rfl)⟩
theorem am_wf_su01 {S : am_S} {f p v : Nat} (hw : am_wf S) (hf : f = 0 ∧ v ≤ 6 ∨ f = 1 ∧ v ≤ 9) : am_wf (am_su S f p v) := by
  obtain ⟨a1, a2, a3, a4, a5⟩ := hw
  have ne : ∀ g, 2 ≤ g → ∀ x, am_su S f p v g x = S g x := fun g hg x => by rw [am_su_get, if_neg (by omega)]
  refine ⟨by rw [ne 13 (by omega)]; exact a1, fun z hz => ?_, fun i j hi hj => by rw [ne _ (by omega)]; exact a3 i j hi hj, fun z hz hz8 => by rw [ne 13 (by omega)] at hz; rw [ne 3 (by omega), ne 4 (by omega)]; exact a4 z hz hz8, fun i j hi hj hz => by rw [ne 13 (by omega)] at hz; rw [ne _ (by omega)]; exact a5 i j hi hj hz⟩
  obtain ⟨b0, b1, b2, b3, b4⟩ := a2 z hz
  rw [ne 2 (by omega), ne 3 (by omega), ne 4 (by omega)]
  refine ⟨?_, ?_, b2, b3, b4⟩
  · rw [am_su_get]; split
    · split <;> omega
    · exact b0
  · rw [am_su_get]; split
    · split <;> omega
    · exact b1
theorem am_wf_sud {S : am_S} {a b v : Nat} (hw : am_wf S) (ha : a < S 13 0) (hb : b < S 13 0) (hab : a ≠ b) (hv : v ≤ 99) : am_wf (am_su S (5 + a) b v) := by
  obtain ⟨a1, a2, a3, a4, a5⟩ := hw
  have ne : ∀ g, (g < 5 ∨ g = 13) → ∀ x, am_su S (5 + a) b v g x = S g x := fun g hg x => by rw [am_su_get, if_neg (by omega)]
  refine ⟨by rw [ne 13 (by omega)]; exact a1, fun z hz => by rw [ne 0 (by omega), ne 1 (by omega), ne 2 (by omega), ne 3 (by omega), ne 4 (by omega)]; exact a2 z hz, fun i j hi hj => ?_, fun z hz hz8 => by rw [ne 13 (by omega)] at hz; rw [ne 3 (by omega), ne 4 (by omega)]; exact a4 z hz hz8, fun i j hi hj hz => ?_⟩
  · rw [am_su_get]; split
    · split
      · exact hv
      · exact a3 i j hi hj
    · exact a3 i j hi hj
  · rw [ne 13 (by omega)] at hz
    rw [am_su_get]; split
    · split
      · omega
      · exact a5 i j hi hj hz
    · exact a5 i j hi hj hz
theorem am_wf_jo {S : am_S} {km t : Nat} (hw : am_wf S) (h8 : S 13 0 < 8) (hk : km ≤ 69) (ht : t ≤ 15) : am_wf (am_jo S km t) ∧ am_jo S km t 13 1 = S 13 1 := by
  have h1 := am_wf_su2 (p := S 13 0) (v := t) (am_wf_su01 (f := 1) (p := S 13 0) (v := km % 10) (am_wf_su01 (f := 0) (p := S 13 0) (v := km / 10) hw (by omega)) (by omega)) ht
  generalize hS1 : am_su (am_su (am_su S 0 (S 13 0) (km / 10)) 1 (S 13 0) (km % 10)) 2 (S 13 0) t = S1 at h1
  have e13 : S1 13 = S 13 := by rw [← hS1]; rfl
  have e : am_jo S km t = am_su S1 13 0 (S 13 0 + 1) := by unfold am_jo; rw [hS1]
  rw [e]
  obtain ⟨a1, a2, a3, a4, a5⟩ := h1
  have ne : ∀ g, g ≠ 13 → ∀ x, am_su S1 13 0 (S 13 0 + 1) g x = S1 g x := fun g hg x => by rw [am_su_get, if_neg hg]
  have n0 : am_su S1 13 0 (S 13 0 + 1) 13 0 = S 13 0 + 1 := rfl
  refine ⟨⟨by rw [n0]; omega, fun z hz => by rw [ne 0 (by omega), ne 1 (by omega), ne 2 (by omega), ne 3 (by omega), ne 4 (by omega)]; exact a2 z hz, fun i j hi hj => by rw [ne _ (by omega)]; exact a3 i j hi hj, fun z hz hz8 => by rw [n0] at hz; rw [ne 3 (by omega), ne 4 (by omega)]; exact a4 z (by rw [e13]; omega) hz8, fun i j hi hj hz => by rw [n0] at hz; rw [ne _ (by omega)]; exact a5 i j hi hj (by rw [e13]; omega)⟩, ?_⟩
  rw [am_su_get, if_pos rfl, if_neg (by decide), e13]
theorem am_oks_81 {a b : Int32} {s : am_St} (hs : am_oks s) : am_oks (am_O81 a b s).2 := by
  unfold am_O81
  split
  · exact hs
  · rename_i h
    split
    · exact hs
    · rename_i h3
      rw [Bool.not_eq_false, Bool.and_eq_true] at h
      have w := am_wf_jo hs.1.1 (by omega) (am_wi_nI (n := 69) (by decide) h.1).1 (am_wi_nI (n := 15) (by decide) h.2).1
      exact am_oks_sS hs w.1 (by rw [w.2]; exact hs.1.2.1)
theorem am_oks_82 {a b : Int32} {s : am_St} (hs : am_oks s) : am_oks (am_O82 a b s).2 := by
  unfold am_O82; split <;> exact hs
theorem am_oks_83 {a b c : Int32} {s : am_St} (hs : am_oks s) : am_oks (am_O83 a b c s).2 := by
  unfold am_O83
  split
  · exact hs
  · rename_i h
    split
    · exact hs
    · rename_i h3
      rw [Bool.not_eq_false, Bool.and_eq_true] at h
      rw [Bool.not_eq_false] at h3
      obtain ⟨a1, -⟩ := am_ip_nI hs.1.1.1 h.1
      obtain ⟨b1, b2⟩ := am_wi_nI (n := 2) (by decide) h.2
      generalize b.toNatClampNeg = w at b1 b2
      subst b2
      match w, b1, h3 with
      | 0, _, h3 => exact am_oks_sS hs (am_wf_su2 hs.1.1 (am_wi_nI (n := 15) (by decide) h3).1) hs.1.2.1
      | 1, _, h3 => exact am_oks_sS hs (am_wf_su3 hs.1.1 a1 (am_wi_nI (n := 999) (by decide) h3).1) hs.1.2.1
      | 2, _, h3 => exact am_oks_sS hs (am_wf_su4 hs.1.1 a1 (am_wi_nI (n := 99) (by decide) h3).1) hs.1.2.1
theorem am_oks_84 {a b c : Int32} {s : am_St} (hs : am_oks s) : am_oks (am_O84 a b c s).2 := by
  unfold am_O84
  split
  · exact hs
  · rename_i h
    rw [Bool.not_eq_false, Bool.and_eq_true] at h
    obtain ⟨a1, -, b1, -, ab⟩ := am_ipp_nI hs.1.1.1 h.1
    have h8 := hs.1.1.1
    exact am_oks_sS hs (am_wf_sud hs.1.1 a1 b1 ab (am_wi_nI (n := 99) (by decide) h.2).1) (by rw [am_su_get, if_neg (by omega)]; exact hs.1.2.1)
theorem am_oks_85 {a b : Int32} {s : am_St} (hs : am_oks s) : am_oks (am_O85 a b s).2 := by
  unfold am_O85; split <;> exact hs
theorem am_oks_86 {a b : Int32} {s : am_St} (hs : am_oks s) : am_oks (am_O86 a b s).2 := by
  unfold am_O86
  split
  · exact hs
  · rename_i h
    rw [Bool.not_eq_false, Bool.and_eq_true] at h
    have b1 := (am_wi_nI (n := 69) (by decide) h.2).1
    exact am_oks_sS hs (am_wf_su01 (am_wf_su01 hs.1.1 (by omega)) (by omega)) hs.1.2.1
theorem am_oks_87 {a b : Int32} {s : am_St} (hs : am_oks s) : am_oks (am_O87 a b s).2 := by
  unfold am_O87; split
  · exact hs
  · split <;> exact hs
theorem am_oks_88 {w : Int64} {n : Int32} {s : am_St} (hs : am_oks s) : am_oks (am_O88 w n s).2 := by
  unfold am_O88
  split
  · exact hs
  · split
    · exact hs
    · obtain ⟨⟨a1, a2, a3, a4, a5, a6, a7⟩, hr⟩ := hs
      exact ⟨⟨a1, a2, a3, a4, by show _ + _ ≤ 50; omega, fun j hj => by
        show (if j < s.1.2.2.2.1.2 then s.1.2.2.2.1.1 j else am_by w (j - s.1.2.2.2.1.2)) < 256
        split
        · exact a6 j ‹_›
        · exact am_by_lt _ _, a7⟩, hr⟩
theorem am_oks_89 {a : Int32} {s : am_St} (hs : am_oks s) : am_oks (am_O89 a s).2 := by
  unfold am_O89
  split
  · exact hs
  · obtain ⟨⟨a1, a2, a3, a4, a5, a6, a7⟩, hr⟩ := hs
    have ht : am_wt ((am_rdt a.toNatClampNeg s.1.2.2.2.1.1 s.1.2.2.2.1.2).1.getD (am_lwo a.toNatClampNeg s)) := by
      cases h : (am_rdt a.toNatClampNeg s.1.2.2.2.1.1 s.1.2.2.2.1.2).1 with
      | some T => exact am_rdt_wt h
      | none =>
        show am_wt (am_lwo _ s)
        unfold am_lwo
        split
        · exact a3
        · exact a4
    refine ⟨⟨a1, a2, ?_, ?_, Nat.zero_le _, fun j hj => absurd hj (Nat.not_lt_zero j), a7⟩, hr⟩
    · show am_wt (if _ then _ else _)
      split
      · exact ht
      · exact a3
    · show am_wt (if _ then _ else _)
      split
      · exact a4
      · exact ht
theorem am_oks_90 {u a b c : Int32} {s : am_St} (hs : am_oks s) : am_oks (am_O90 u a b c s).2 := by
  unfold am_O90; split <;> exact hs
theorem am_oks_91 {n : Int32} {s : am_St} (hs : am_oks s) : am_oks (am_O91 n s).2 := by
  unfold am_O91
  split
  · exact hs
  · split
    · exact hs
    · have w := am_wf_days (T := s.1.2.1) (U := s.1.2.2.1) (h := 8) hs.1.1 n.toNatClampNeg
      exact am_oks_sS hs w.1 (by rw [w.2.2]; omega)
theorem am_oks_sZ {z : Int32} {s : am_St} (hs : am_oks s) : am_oks (am_sZ z s) := hs
theorem am_oks_92 {n : Int32} {s : am_St} (hs : am_oks s) : am_oks (am_O92 n s).2 := by
  unfold am_O92
  split
  · exact hs
  · split
    · exact hs
    · have w := am_wf_lo (T := s.1.2.1) (U := s.1.2.2.1) (z := s.1.2.2.2.2.2) hs.1.1 n.toNatClampNeg
      exact am_oks_sZ (am_oks_sS hs w.1 (by rw [w.2.2]; omega))
theorem am_oks_93 {s : am_St} (hs : am_oks s) : am_oks (am_O93 s).2 :=
  have w := am_stk2_wf hs.1.1
  am_oks_sS hs w.1 (by rw [w.2]; exact hs.1.2.1)
theorem am_oks_94 {n a w : Int32} {s : am_St} (hs : am_oks s) : am_oks (am_O94 n a w s).2 := by
  unfold am_O94; split <;> exact hs
theorem am_oks_95 {x w : Int32} {s : am_St} (hs : am_oks s) : am_oks (am_O95 x w s).2 := by
  unfold am_O95; split
  · exact hs
  · split <;> exact hs
theorem am_oks_96 {a w : Int32} {s : am_St} (hs : am_oks s) : am_oks (am_O96 a w s).2 := by
  unfold am_O96; repeat' split
  all_goals exact hs
theorem am_oks_97 {a w : Int32} {s : am_St} (hs : am_oks s) : am_oks (am_O97 a w s).2 := by
  unfold am_O97; split <;> exact hs
theorem am_oks_98 {s : am_St} (hs : am_oks s) : am_oks (am_O98 s).2 := by
  unfold am_O98; split <;> exact hs
theorem am_oks_99 {a n : Int32} {s : am_St} (hs : am_oks s) : am_oks (am_O99 a n s).2 := by
  unfold am_O99; split <;> exact hs
theorem am_oks_100 {a : Int32} {s : am_St} (hs : am_oks s) : am_oks (am_O100 a s).2 := by
  unfold am_O100; split <;> exact hs
theorem am_oks_101 {w : Int32} {s : am_St} (hs : am_oks s) : am_oks (am_O101 w s).2 := by
  unfold am_O101; split <;> exact hs
theorem am_oks_102 {a w : Int32} {s : am_St} (hs : am_oks s) : am_oks (am_O102 a w s).2 := by
  unfold am_O102; split <;> exact hs
theorem am_oks_103 {s : am_St} (hs : am_oks s) : am_oks (am_O103 s).2 := by
  unfold am_O103; split <;> exact hs
theorem am_oks_104 {v : Int32} {s : am_St} (hs : am_oks s) : am_oks (am_O104 v s).2 := hs
theorem am_vac_len (k c : Nat) (x n m : Int32) : (am_vac k c x n m).2.length ≤ 40 := by
  have a := am_vl_len k x n
  have b := am_vf_len k k x n m
  have c' := am_vd_len k x n m
  have d := am_vb_len k x n m
  have e := am_vl_len 2 x n
  have e2 := am_vl_len k 2 n
  unfold am_vac
  split
  · omega
  · split
    · omega
    · split
      · omega
      · unfold am_vt
        split
        · simp only [List.length_cons, List.length_append]; omega
        · split
          · simp only [List.length_cons, List.length_append]; omega
          · omega
theorem am_oks_105 {a c x : Int32} {s : am_St} (hs : am_oks s) : am_oks (am_O105 a c x s).2 := by
  unfold am_O105; split
  · exact hs
  · exact ⟨hs.1, hs.2.1, am_vac_len _ _ _ _ _, hs.2.2.2⟩
theorem am_oks_106 {i : Int32} {s : am_St} (hs : am_oks s) : am_oks (am_O106 i s).2 := by
  unfold am_O106; split <;> exact hs
theorem am_oks_sH {j : Nat} {x : Int32 × Nat × (Nat → Int32)} {s : am_St} (hs : am_oks s) (h : x.2.1 ≤ 40 ∧ (x.1 = 0 ∨ x.1 = 8 ∨ x.1 = 16 ∨ x.1 = 32) ∧ ∀ i, am_vok x.1 (x.2.2 i)) : am_oks (am_sH j x s) := ⟨hs.1, hs.2.1, hs.2.2.1, fun i hi => by
  show (if i = j then x else s.2.2.2.2.2 i).2.1 ≤ 40 ∧ ((if i = j then x else s.2.2.2.2.2 i).1 = 0 ∨ (if i = j then x else s.2.2.2.2.2 i).1 = 8 ∨ (if i = j then x else s.2.2.2.2.2 i).1 = 16 ∨ (if i = j then x else s.2.2.2.2.2 i).1 = 32) ∧ ∀ k, am_vok (if i = j then x else s.2.2.2.2.2 i).1 ((if i = j then x else s.2.2.2.2.2 i).2.2 k)
  split
  · exact h
  · exact hs.2.2.2 i hi⟩
theorem am_vok0 (b : Int32) : am_vok b 0 := ⟨fun _ => ⟨0, by decide, rfl⟩, fun _ => ⟨0, by decide, rfl⟩⟩
theorem am_vok_nrw (b v : Int32) : am_vok b (am_nrw b v) := by
  unfold am_nrw
  refine ⟨fun h => ?_, fun h => ?_⟩
  · rw [if_pos h]
    exact ⟨_, Nat.lt_of_le_of_lt (am_and_le v 255) (by decide), am_and_nI v 255⟩
  · subst h
    rw [if_neg (by decide), if_pos rfl]
    exact ⟨_, Nat.lt_of_le_of_lt (am_and_le v 65535) (by decide), am_and_nI v 65535⟩
theorem am_oks_107 {a b n : Int32} {s : am_St} (hs : am_oks s) : am_oks (am_O107 a b n s).2 := by
  unfold am_O107
  split
  · exact hs
  · split
    · exact am_oks_sH hs ⟨Nat.zero_le _, Or.inl rfl, fun _ => am_vok0 _⟩
    · split
      · exact hs
      · rename_i hb
        split
        · exact hs
        · split
          · exact hs
          · rename_i h1 h2
            obtain ⟨m, hm, rfl⟩ := nI_of2 (n := 40) (by decide) h1 (Decidable.not_not.mp h2)
            exact am_oks_sH hs ⟨by show (nI m).toNatClampNeg ≤ 40; rw [nI_clamp (by omega)]; exact hm, Or.inr (Decidable.not_not.mp hb), fun _ => am_vok0 _⟩
theorem am_oks_108 {a i v : Int32} {s : am_St} (hs : am_oks s) : am_oks (am_O108 a i v s).2 := by
  unfold am_O108
  split
  · exact hs
  · rename_i h1
    rw [Bool.not_eq_false] at h1
    have a1 := (am_wi_nI (n := 3) (by decide) h1).1
    obtain ⟨k1, k2, k3⟩ := hs.2.2.2 a.toNatClampNeg (by omega)
    split
    · exact hs
    · split
      · exact hs
      · exact am_oks_sH hs ⟨k1, k2, fun k => by
          dsimp only
          split
          · exact am_vok_nrw _ _
          · exact k3 k⟩
theorem am_oks_109 {a i b k n : Int32} {s : am_St} (hs : am_oks s) : am_oks (am_O109 a i b k n s).2 := by
  unfold am_O109
  split
  · exact hs
  · rename_i h1
    rw [Bool.not_eq_false, Bool.and_eq_true] at h1
    have a1 := (am_wi_nI (n := 3) (by decide) h1.1).1
    have b1 := (am_wi_nI (n := 3) (by decide) h1.2).1
    obtain ⟨k1, k2, k3⟩ := hs.2.2.2 b.toNatClampNeg (by omega)
    obtain ⟨-, -, j3⟩ := hs.2.2.2 a.toNatClampNeg (by omega)
    split
    · exact hs
    · split
      · exact hs
      · rename_i h5
        split
        · exact hs
        · exact am_oks_sH hs ⟨k1, k2, fun k => by
            dsimp only
            split
            · rw [← Decidable.not_not.mp h5]
              exact j3 _
            · exact k3 k⟩
theorem am_trs_wf {V : Nat → Int32} : ∀ (d k : Nat) (S : am_S), am_wf S → am_wf (am_trs V d k S).1 ∧ (am_trs V d k S).1 13 = S 13
  | 0, k, S, h => ⟨h, rfl⟩
  | d + 1, k, S, h => by
    unfold am_trs
    split
    · rename_i hw
      have := am_trs_wf (V := V) d (k + 1) _ (am_wf_su2 (p := k) h (am_wi_nI (n := 15) (by decide) hw).1)
      exact ⟨this.1, this.2⟩
    · exact ⟨h, rfl⟩
theorem am_oks_110 {a : Int32} {s : am_St} (hs : am_oks s) : am_oks (am_O110 a s).2 := by
  unfold am_O110
  split
  · exact hs
  · split
    · exact hs
    · have w := am_trs_wf (V := (s.2.2.2.2.2 a.toNatClampNeg).2.2) (min (s.2.2.2.2.2 a.toNatClampNeg).2.1 (s.1.1 13 0)) 0 s.1.1 hs.1.1
      exact am_oks_sS hs w.1 (by rw [w.2]; exact hs.1.2.1)
theorem am_oks_111 {a : Int32} {s : am_St} (hs : am_oks s) : am_oks (am_O111 a s).2 := by
  unfold am_O111; repeat' split
  all_goals exact hs
theorem am_oks_112 {s : am_St} (hs : am_oks s) : am_oks (am_O112 s).2 := ⟨hs.1, hs.1, hs.2.2⟩
theorem am_oks_113 {s : am_St} (hs : am_oks s) : am_oks (am_O113 s).2 := by
  unfold am_O113; split
  · exact hs
  · exact ⟨hs.2.1, hs.2.1, hs.2.2⟩
theorem am_oks_114 {v : Int32} {s : am_St} (hs : am_oks s) : am_oks (am_O114 v s).2 := by
  unfold am_O114; split
  · exact hs
  · obtain ⟨⟨a1, a2, a3, a4, a5, a6, a7⟩, hr⟩ := hs
    exact ⟨⟨a1, a2, a3, a4, a5, a6, by show _ + 1 ≤ 20; omega⟩, hr⟩
theorem am_oks_115 {s : am_St} (hs : am_oks s) : am_oks (am_O115 s).2 := by
  obtain ⟨⟨a1, a2, a3, a4, a5, a6, a7⟩, hr⟩ := hs
  exact ⟨⟨a1, a2, a3, a4, a5, a6, Nat.zero_le _⟩, hr⟩
theorem am_oks_116 {w : Int32} {s : am_St} (hs : am_oks s) : am_oks (am_O116 w s).2 := by
  unfold am_O116; split <;> exact hs
theorem am_oks_117 {k : Int32} {s : am_St} (hs : am_oks s) : am_oks (am_O117 k s).2 := by
  unfold am_O117; split <;> exact hs
