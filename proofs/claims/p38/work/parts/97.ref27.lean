/-! THE REFERENCE: cover -/
theorem am_p2le {n : Nat} (h : n ≤ 8) : 2 ^ n ≤ 256 := Nat.pow_le_pow_right (by decide) h
theorem am_gs_lt (T : am_T) (S : am_S) : ∀ n, n ≤ 8 → ∃ m, m < 2 ^ n ∧ am_gs T S n = nI m
  | 0, _ => ⟨0, by decide, rfl⟩
  | k + 1, h => by
    obtain ⟨m, hm, e⟩ := am_gs_lt T S k (by omega)
    have h2 := am_p2le (n := k) (by omega)
    have hpow : 2 ^ k < 2 ^ (k + 1) := Nat.pow_lt_pow_right (by decide) (by omega)
    unfold am_gs
    split
    · refine ⟨m ||| 2 ^ k, Nat.or_lt_two_pow (by omega) hpow, ?_⟩
      rw [e]
      exact am_or8 ⟨k, by omega⟩ ⟨m, by omega⟩
    · exact ⟨m, by omega, e⟩
theorem am_cvr_cut {S : am_S} {n m : Nat} (hn : n ≤ 8) (hm : m < 2 ^ n) : ∀ d, 2 ^ n + d ≤ 256 → am_cvr S (nI m) (2 ^ n + d) = am_cvr S (nI m) (2 ^ n)
  | 0, _ => rfl
  | d + 1, h => by
    rw [← am_cvr_cut hn hm d (by omega)]
    show am_cvr S (nI m) (2 ^ n + d + 1) = _
    have e : am_cvr S (nI m) (2 ^ n + d + 1) = if nI (2 ^ n + d) &&& (nI m ^^^ (-1)) = 0 ∧ am_nd S (S 13 0) ≤ am_fst S (2 ^ n + d) (S 13 0) ∧ (∀ j, am_cvr S (nI m) (2 ^ n + d) = some j → am_pop 8 (2 ^ n + d) < am_pop 8 j) then some (2 ^ n + d) else am_cvr S (nI m) (2 ^ n + d) := rfl
    rw [e, if_neg]
    rintro ⟨h1, -⟩
    have := am_sub8 ⟨2 ^ n + d, by omega⟩ ⟨m, by omega⟩ h1
    dsimp only at this
    omega
section AMRP7
variable {X : am_X} {D q : Nat} {S : am_S} {T U : am_T}
theorem am_m129 {s : Nat} (hs : s < 256) {w : am_M} : am_CD X (D + 1) 129 [.int (nI s)] w = some (some (.int (nI (am_pop 8 s))), w) := by
  have hl : ∀ (f l c : Nat), l < f → l < 256 → am_Rn X D (some .int) am_J129 4 [some (.int (nI s)), some (.int (nI c)), some (.int (nI l))] [] w (some (.int (nI (c + am_pop 8 l))), w) := by
    intro f
    induction f with
    | zero => intro l c h; omega
    | succ f ih =>
      intro l c hf hl
      rcases Nat.eq_zero_or_pos l with e | e
      · subst e
        have e0 : (nI 0 = 0) = True := by decide
        simp only [am_s129_4, am_s129_5, am_s129_20, am_s129_21, e0, not_true_eq_false, eq_self, am_os_some, Option.toList_some, Option.toList_none, List.cons_append, List.nil_append, if_true, if_false, true_and, am_nw1_i, am_nw1_r, am_nw1_n, cond_true]
        rfl
      · have e0 : ¬ nI l = 0 := nI_ne0 e (by omega)
        obtain ⟨k1, k2, k3⟩ := am_kl8 ⟨l, hl⟩ e
        dsimp only at k1 k2 k3
        have hc : nI c + 1 = nI (c + 1) := nI_add c 1
        have ih1 := ih (l &&& (l - 1)) (c + 1) (by omega) (by omega)
        rw [show c + 1 + am_pop 8 (l &&& (l - 1)) = c + am_pop 8 l by omega] at ih1
        simp only [am_s129_4, am_s129_5, am_s129_8, am_s129_11, am_s129_12, am_s129_13, am_s129_14, am_s129_15, am_s129_16, e0, k1, hc, not_false_eq_true, eq_self, am_os_some, Option.toList_some, Option.toList_none, List.cons_append, List.nil_append, if_true, if_false, true_and, am_nw1_i, am_nw1_r, am_nw1_n, cond_true]
        rw [am_s129_17]
        exact ih1
  refine am_CD_of (M := am_N129) rfl rfl ?_
  show am_Rn _ _ ((Option.some FieldType.int)) am_J129 0 [some (.int (nI s)), none, none] [] w _
  simp only [am_s129_0, am_s129_1, am_s129_2, am_s129_3, eq_self, am_os_some, Option.toList_some, Option.toList_none, List.cons_append, List.nil_append, if_true, if_false, true_and, am_nw1_i, am_nw1_r, am_nw1_n, cond_true]
  have g := hl 256 s 0 hs hs
  rw [Nat.zero_add] at g
  exact g
theorem am_l191a {G : am_G} (h : am_rp (G 115) S) (hw : am_wf S) {g : Int32} {y4 y5 y6 : Option Value} : ∀ (d k : Nat), k + d = S 13 0 → ∀ o, am_Rn X 99 (some .int) am_J191 9 [some (.ref 114), some (.int g), some (.int (nI (am_nd S k))), some (.int (nI k)), y4, y5, y6] [] (am_L0 q, G) o = am_Rn X 99 (some .int) am_J191 33 [some (.ref 114), some (.int g), some (.int (nI (am_nd S (S 13 0)))), some (.int (nI (S 13 0))), y4, y5, y6] [] (am_L0 q, G) o := by
  have h8 := hw.1
  have k2 : G 115 2 = nI (S 13 0) := h.2.1
  intro d
  induction d with
  | zero =>
    intro k hk o
    obtain rfl : k = S 13 0 := by omega
    have h1 : ¬ nI (S 13 0) < nI (S 13 0) := Int32.lt_irrefl
    simp only [am_s191_9, am_s191_10, am_s191_11, am_s191_14, am_s191_15, am_s191_16, am_f114_0, am_r115_2, k2, h1, eq_self, am_os_some, Option.toList_some, Option.toList_none, List.cons_append, List.nil_append, if_true, if_false, true_and, am_nw1_i, am_nw1_r, am_nw1_n, cond_true]
  | succ d ih =>
    intro k hk o
    have h1 : nI k < nI (S 13 0) := nI_lt (by omega) (by omega)
    have hi : nI k + 1 = nI (k + 1) := nI_add k 1
    have s1 : nI (am_nd S k) + nI (am_dr (S 0 k)) = nI (am_nd S (k + 1)) := nI_add _ _
    simp only [am_s191_9, am_s191_10, am_s191_11, am_s191_14, am_s191_15, am_s191_16, am_s191_19, am_s191_20, am_s191_21, am_s191_22, am_s191_25, am_s191_26, am_s191_27, am_f114_0, am_r115_2, k2, h1, am_cal_ok (am_cat_1 _) am_v114 (am_m161 (D := 97) h hw (show k < 8 by omega)), s1, eq_self, am_os_some, Option.toList_some, Option.toList_none, List.cons_append, List.nil_append, if_true, if_false, true_and, am_nw1_i, am_nw1_r, am_nw1_n, cond_true]
    rw [am_s191_30, hi]
    exact ih (k + 1) (by omega) o
theorem am_l191b {G : am_G} (h : am_rp (G 115) S) (hw : am_wf S) {g t b : Option Value} {s : Nat} (hs : s < 256) : ∀ (d k : Nat), k + d = S 13 0 → ∀ o, am_Rn X 99 (some .int) am_J191 57 [some (.ref 114), g, t, b, some (.int (nI s)), some (.int (nI (am_fst S s k))), some (.int (nI k))] [] (am_L0 q, G) o = am_Rn X 99 (some .int) am_J191 100 [some (.ref 114), g, t, b, some (.int (nI s)), some (.int (nI (am_fst S s (S 13 0)))), some (.int (nI (S 13 0)))] [] (am_L0 q, G) o := by
  have h8 := hw.1
  have k2 : G 115 2 = nI (S 13 0) := h.2.1
  intro d
  induction d with
  | zero =>
    intro k hk o
    obtain rfl : k = S 13 0 := by omega
    have h1 : ¬ nI (S 13 0) < nI (S 13 0) := Int32.lt_irrefl
    simp only [am_s191_57, am_s191_59, am_s191_60, am_s191_63, am_s191_64, am_s191_65, am_f114_0, am_r115_2, k2, h1, eq_self, am_os_some, Option.toList_some, Option.toList_none, List.cons_append, List.nil_append, if_true, if_false, true_and, am_nw1_i, am_nw1_r, am_nw1_n, cond_true]
  | succ d ih =>
    intro k hk o
    have h1 : nI k < nI (S 13 0) := nI_lt (by omega) (by omega)
    have hi : nI k + 1 = nI (k + 1) := nI_add k 1
    have hb := am_an8 ⟨s, hs⟩ ⟨k, by omega⟩
    dsimp only at hb
    have e10 : ((1 : Int32) = 0) = False := by decide
    have e01 : ((0 : Int32) = 1) = False := by decide
    have es : am_fst S s (k + 1) = am_fst S s k + (if am_bt1 s k = true then am_fil (S 0 k) (S 1 k) else 0) := rfl
    have ih1 := ih (k + 1) (by omega) o
    rw [es] at ih1
    unfold am_bt1 at ih1
    rcases hb with hb | hb
    · have s1 : nI (am_fst S s k) + 0 = nI (am_fst S s k + 0) := nI_add _ 0
      rw [hb, if_neg (by simp)] at ih1
      simp only [am_s191_57, am_s191_59, am_s191_60, am_s191_63, am_s191_64, am_s191_65, am_s191_68, am_s191_70, am_s191_72, am_s191_74, am_s191_75, am_s191_76, am_s191_77, am_s191_78, am_s191_81, am_s191_82, am_s191_84, am_s191_87, am_s191_90, am_s191_91, am_s191_92, am_s191_94, am_f114_0, am_r115_2, k2, h1, hb, e01, s1, not_true_eq_false, not_false_eq_true, eq_self, am_os_some, Option.toList_some, Option.toList_none, List.cons_append, List.nil_append, if_true, if_false, true_and, am_nw1_i, am_nw1_r, am_nw1_n, cond_true]
      rw [am_s191_97, hi]
      exact ih1
    · have s1 : nI (am_fst S s k) + nI (am_fil (S 0 k) (S 1 k)) = nI (am_fst S s k + am_fil (S 0 k) (S 1 k)) := nI_add _ _
      rw [hb, if_pos (by decide)] at ih1
      simp only [am_s191_57, am_s191_59, am_s191_60, am_s191_63, am_s191_64, am_s191_65, am_s191_68, am_s191_70, am_s191_72, am_s191_74, am_s191_75, am_s191_76, am_s191_77, am_s191_78, am_s191_81, am_s191_82, am_s191_84, am_s191_87, am_s191_90, am_s191_91, am_s191_92, am_s191_94, am_f114_0, am_r115_2, k2, h1, hb, am_cal_ok (am_cat_1 _) am_v114 (am_m160 (D := 97) h hw (show k < 8 by omega)), s1, not_true_eq_false, not_false_eq_true, eq_self, am_os_some, Option.toList_some, Option.toList_none, List.cons_append, List.nil_append, if_true, if_false, true_and, am_nw1_i, am_nw1_r, am_nw1_n, cond_true]
      rw [am_s191_97, hi]
      exact ih1
theorem am_l191c {G : am_G} (h : am_rp (G 115) S) (hw : am_wf S) {g : Int32} : ∀ (d k : Nat) (y5 y6 : Option Value), k + d = 2 ^ S 13 0 → am_nw1 y5 = true → ∃ (y5' y6' : Option Value), ∀ o, am_Rn X 99 (some .int) am_J191 38 [some (.ref 114), some (.int g), some (.int (nI (am_nd S (S 13 0)))), some (.int (am_oi (am_cvr S g k))), some (.int (nI k)), y5, y6] [] (am_L0 q, G) o = am_Rn X 99 (some .int) am_J191 140 [some (.ref 114), some (.int g), some (.int (nI (am_nd S (S 13 0)))), some (.int (am_oi (am_cvr S g (2 ^ S 13 0)))), some (.int (nI (2 ^ S 13 0))), y5', y6'] [] (am_L0 q, G) o := by
  have h8 := hw.1
  have k2 : G 115 2 = nI (S 13 0) := h.2.1
  have hp := am_p2le h8
  have hsl := am_sl8 ⟨S 13 0, by omega⟩
  dsimp only at hsl
  have hnd := am_nd_le (S := S) (S 13 0)
  intro d
  induction d with
  | zero =>
    intro k y5 y6 hk _
    obtain rfl : k = 2 ^ S 13 0 := by omega
    have h1 : ¬ nI (2 ^ S 13 0) < nI (2 ^ S 13 0) := Int32.lt_irrefl
    refine ⟨y5, y6, fun o => ?_⟩
    simp only [am_s191_38, am_s191_40, am_s191_41, am_s191_42, am_s191_45, am_s191_46, am_s191_47, am_s191_48, am_f114_0, am_r115_2, k2, hsl, h1, eq_self, am_os_some, Option.toList_some, Option.toList_none, List.cons_append, List.nil_append, if_true, if_false, true_and, am_nw1_i, am_nw1_r, am_nw1_n, cond_true]
  | succ d ih =>
    intro k y5 y6 hk hy
    have hk8 : k < 256 := by omega
    have h1 : nI k < nI (2 ^ S 13 0) := nI_lt (by omega) (by omega)
    have hi : nI k + 1 = nI (k + 1) := nI_add k 1
    obtain ⟨y5', y6', ih1⟩ := ih (k + 1) (some (.int (nI (am_fst S k (S 13 0))))) (some (.int (nI (S 13 0)))) (by omega) rfl
    refine ⟨y5', y6', fun o => ?_⟩
    have ih2 := ih1 o
    have gb := am_l191b (X := X) (q := q) (g := some (.int g)) (t := some (.int (nI (am_nd S (S 13 0))))) (b := some (.int (am_oi (am_cvr S g k)))) h hw hk8 (S 13 0) 0 (by omega) o
    have e0 : am_fst S k 0 = 0 := rfl
    rw [e0, nI_0] at gb
    have hfs := am_fst_le (S := S) (s := k) hw (S 13 0) h8
    have es : am_cvr S g (k + 1) = if nI k &&& (g ^^^ (-1)) = 0 ∧ am_nd S (S 13 0) ≤ am_fst S k (S 13 0) ∧ (∀ j, am_cvr S g k = some j → am_pop 8 k < am_pop 8 j) then some k else am_cvr S g k := rfl
    simp only [am_s191_38, am_s191_40, am_s191_41, am_s191_42, am_s191_45, am_s191_46, am_s191_47, am_s191_48, am_s191_51, am_s191_52, am_s191_54, am_s191_55, am_f114_0, am_r115_2, k2, hsl, h1, eq_self, am_os_some, Option.toList_some, Option.toList_none, List.cons_append, List.nil_append, if_true, if_false, true_and, am_nw1_i, am_nw1_r, am_nw1_n, cond_true]
    rw [gb]
    by_cases c1 : nI k &&& (g ^^^ (-1)) = 0
    · by_cases c2 : am_nd S (S 13 0) ≤ am_fst S k (S 13 0)
      · have j2 : ¬ nI (am_fst S k (S 13 0)) < nI (am_nd S (S 13 0)) := nI_nlt c2 (by omega)
        have gk := am_m129 (X := X) (D := 98) hk8 (w := (am_L0 q, G))
        cases hb : am_cvr S g k with
        | none =>
          rw [es, if_pos ⟨c1, c2, fun j hj => by rw [hb] at hj; cases hj⟩] at ih2
          have em : am_oi none = -1 := rfl
          have ek : am_oi (some k) = nI k := rfl
          have h5 : ((-1 : Int32) < 0) = True := by decide
          rw [ek] at ih2
          simp only [am_s191_100, am_s191_102, am_s191_103, am_s191_104, am_s191_105, am_s191_106, am_s191_109, am_s191_111, am_s191_112, am_s191_115, am_s191_116, am_s191_119, am_s191_121, am_s191_124, am_s191_125, am_s191_128, am_s191_131, am_s191_133, am_s191_134, c1, j2, em, h5, not_true_eq_false, not_false_eq_true, eq_self, am_os_some, Option.toList_some, Option.toList_none, List.cons_append, List.nil_append, if_true, if_false, true_and, am_nw1_i, am_nw1_r, am_nw1_n, cond_true]
          rw [am_s191_137, hi]
          exact ih2
        | some j =>
          have hj := am_cvr_lt hb
          have em : am_oi (some j) = nI j := rfl
          have h5 : ¬ nI j < 0 := nI_pos (by omega)
          have gj := am_m129 (X := X) (D := 98) (s := j) (by omega) (w := (am_L0 q, G))
          have p1 := (am_bcn_pop ⟨k, hk8⟩).2
          have p2 := (am_bcn_pop ⟨j, by omega⟩).2
          dsimp only at p1 p2
          by_cases c3 : am_pop 8 k < am_pop 8 j
          · rw [es, if_pos ⟨c1, c2, fun j' hj' => by rw [hb] at hj'; cases hj'; exact c3⟩] at ih2
            have ek : am_oi (some k) = nI k := rfl
            have j3 : nI (am_pop 8 k) < nI (am_pop 8 j) := nI_lt c3 (by omega)
            rw [ek] at ih2
            simp only [am_s191_100, am_s191_102, am_s191_103, am_s191_104, am_s191_105, am_s191_106, am_s191_109, am_s191_111, am_s191_112, am_s191_115, am_s191_116, am_s191_119, am_s191_121, am_s191_124, am_s191_125, am_s191_128, am_s191_131, am_s191_133, am_s191_134, c1, j2, em, h5, am_cal_ok am_cat_0 am_rcv_f (gk), am_cal_ok (am_cat_1 _) am_rcv_f (gj), j3, not_true_eq_false, not_false_eq_true, eq_self, am_os_some, Option.toList_some, Option.toList_none, List.cons_append, List.nil_append, if_true, if_false, true_and, am_nw1_i, am_nw1_r, am_nw1_n, cond_true]
            rw [am_s191_137, hi]
            exact ih2
          · rw [es, if_neg (fun hh => c3 (hh.2.2 j hb)), hb, em] at ih2
            have j3 : ¬ nI (am_pop 8 k) < nI (am_pop 8 j) := nI_nlt (by omega) (by omega)
            simp only [am_s191_100, am_s191_102, am_s191_103, am_s191_104, am_s191_105, am_s191_106, am_s191_109, am_s191_111, am_s191_112, am_s191_115, am_s191_116, am_s191_119, am_s191_121, am_s191_124, am_s191_125, am_s191_128, am_s191_131, am_s191_133, am_s191_134, c1, j2, em, h5, am_cal_ok am_cat_0 am_rcv_f (gk), am_cal_ok (am_cat_1 _) am_rcv_f (gj), j3, not_true_eq_false, not_false_eq_true, eq_self, am_os_some, Option.toList_some, Option.toList_none, List.cons_append, List.nil_append, if_true, if_false, true_and, am_nw1_i, am_nw1_r, am_nw1_n, cond_true]
            rw [am_s191_137, hi]
            exact ih2
      · rw [es, if_neg (fun hh => c2 hh.2.1)] at ih2
        have j2 : nI (am_fst S k (S 13 0)) < nI (am_nd S (S 13 0)) := nI_lt (by omega) (by omega)
        simp only [am_s191_100, am_s191_102, am_s191_103, am_s191_104, am_s191_105, am_s191_106, am_s191_109, am_s191_111, am_s191_112, am_s191_115, am_s191_116, am_s191_119, am_s191_121, am_s191_124, am_s191_125, am_s191_128, am_s191_131, am_s191_133, am_s191_134, c1, j2, not_true_eq_false, not_false_eq_true, eq_self, am_os_some, Option.toList_some, Option.toList_none, List.cons_append, List.nil_append, if_true, if_false, true_and, am_nw1_i, am_nw1_r, am_nw1_n, cond_true]
        rw [am_s191_137, hi]
        exact ih2
    · rw [es, if_neg (fun hh => c1 hh.1)] at ih2
      simp only [am_s191_100, am_s191_102, am_s191_103, am_s191_104, am_s191_105, am_s191_106, am_s191_109, am_s191_111, am_s191_112, am_s191_115, am_s191_116, am_s191_119, am_s191_121, am_s191_124, am_s191_125, am_s191_128, am_s191_131, am_s191_133, am_s191_134, c1, not_true_eq_false, not_false_eq_true, eq_self, am_os_some, Option.toList_some, Option.toList_none, List.cons_append, List.nil_append, if_true, if_false, true_and, am_nw1_i, am_nw1_r, am_nw1_n, cond_true]
      rw [am_s191_137, hi]
      exact ih2
theorem am_r191 {s : am_St} (hs : am_oks s) : am_rO 191 [] s (am_O98 s) := by
  unfold am_O98
  have h8 := hs.1.1.1
  have hD := hs.1.2.1
  obtain ⟨m, hm, eg⟩ := am_gs_lt s.1.2.1 s.1.1 (s.1.1 13 0) h8
  have hcut := am_cvr_cut (S := s.1.1) h8 hm (256 - 2 ^ s.1.1 13 0) (by have := am_p2le h8; omega)
  rw [show 2 ^ s.1.1 13 0 + (256 - 2 ^ s.1.1 13 0) = 256 by have := am_p2le h8; omega, ← eg] at hcut
  have key : ∀ (N : Nat) (xs : Nat → Int32) (q : Nat) (G : am_G), am_rfl G s → ∃ (G3 : am_G) (t4 y5 y6 : Option Value), am_rfl G3 s ∧ (∀ i j, i < 114 → G3 i j = G i j) ∧ ∀ o, am_Rn (am_X0 N xs) 99 (some .int) am_J191 140 [some (.ref 114), some (.int (am_gs s.1.2.1 s.1.1 (s.1.1 13 0))), some (.int (nI (am_nd s.1.1 (s.1.1 13 0)))), some (.int (am_oi (am_cvr s.1.1 (am_gs s.1.2.1 s.1.1 (s.1.1 13 0)) 256))), t4, y5, y6] [] (am_L0 q, G3) o → am_CD (am_X0 N xs) 100 191 [.ref 114] (am_L0 q, G) = some o := fun N xs q G hc => by
    obtain ⟨G1, f1, g1⟩ := am_m190 (X := am_X0 N xs) (D := 50) (q := q) (am_rfl_rc hc) h8 (by omega)
    have hc1 := (am_rfl_rc hc).fr f1
    have ga := fun o => am_l191a (X := am_X0 N xs) (q := q) (g := am_gs s.1.2.1 s.1.1 (s.1.1 13 0)) (y4 := none) (y5 := none) (y6 := none) hc1.1 hs.1.1 (s.1.1 13 0) 0 (by omega) o
    obtain ⟨y5, y6, gc⟩ := am_l191c (X := am_X0 N xs) (q := q) (g := am_gs s.1.2.1 s.1.1 (s.1.1 13 0)) hc1.1 hs.1.1 (2 ^ s.1.1 13 0) 0 none none (by omega) rfl
    have e0 : am_nd s.1.1 0 = 0 := rfl
    have e1 : am_oi (am_cvr s.1.1 (am_gs s.1.2.1 s.1.1 (s.1.1 13 0)) 0) = -1 := rfl
    rw [e0, nI_0] at ga
    rw [e1, nI_0, ← hcut] at gc
    refine ⟨G1, some (.int (nI (2 ^ s.1.1 13 0))), y5, y6, am_rfl_fr hc (fun i j _ _ _ _ _ e => f1 i j (fun e1 => by have := e e1; omega)), fun i j hi => f1 i j (by omega), fun o ho => am_CD_of (M := am_N191) rfl rfl ?_⟩
    show am_Rn _ _ ((Option.some FieldType.int)) am_J191 0 [some (.ref 114), none, none, none, none, none, none] [] (am_L0 q, G) _
    simp only [am_s191_0, am_s191_1, am_s191_4, am_s191_5, am_s191_6, am_s191_7, am_s191_8, am_cal_ok am_cat_0 am_v114 (g1), am_cal_ok am_cat_0 am_v114 (am_d1 (D := 98)), am_cal_ok am_cat_0 am_v114 (am_d2 (D := 98)), am_cal_ok am_cat_0 am_v114 (am_d3 (D := 98)), am_cal_ok am_cat_0 am_v114 (am_d4 (D := 98)), am_cal_ok am_cat_0 am_v114 (am_d5 (D := 98)), am_cal_ok am_cat_0 am_rcv_f (am_y125 _ _), am_cal_ok am_cat_0 am_rcv_f (am_m183 (D := 97) _), am_bI0, am_f114_0, am_er_f, am_sy_f, Bool.false_and, Bool.and_false, reduceCtorEq, not_false_eq_true, not_true_eq_false, eq_self, am_os_some, Option.toList_some, Option.toList_none, List.cons_append, List.nil_append, if_true, if_false, true_and, am_nw1_i, am_nw1_r, am_nw1_n, cond_true]
    refine (ga _).mpr ?_
    simp only [am_s191_33, am_s191_34, am_s191_35, am_s191_36, am_cal_ok am_cat_0 am_v114 (am_d1 (D := 98)), am_cal_ok am_cat_0 am_v114 (am_d2 (D := 98)), am_cal_ok am_cat_0 am_v114 (am_d3 (D := 98)), am_cal_ok am_cat_0 am_v114 (am_d4 (D := 98)), am_cal_ok am_cat_0 am_v114 (am_d5 (D := 98)), am_cal_ok am_cat_0 am_rcv_f (am_y125 _ _), am_cal_ok am_cat_0 am_rcv_f (am_m183 (D := 97) _), am_bI0, am_f114_0, am_er_f, am_sy_f, Bool.false_and, Bool.and_false, reduceCtorEq, not_false_eq_true, not_true_eq_false, eq_self, am_os_some, Option.toList_some, Option.toList_none, List.cons_append, List.nil_append, if_true, if_false, true_and, am_nw1_i, am_nw1_r, am_nw1_n, cond_true]
    exact (gc _).mpr ho
  cases hd : am_cvr s.1.1 (am_gs s.1.2.1 s.1.1 (s.1.1 13 0)) 256 with
  | none =>
    dsimp only
    intro N xs q G hc
    obtain ⟨G3, t4, y5, y6, r1, r2, hk⟩ := key N xs q G hc
    rw [hd] at hk
    refine ⟨am_up G3 119 2 (G3 119 2 + 1), fun i j hi => by rw [am_up_get, if_neg (by omega)]; exact r2 i j hi, am_rfl_E (by decide) r1, hk _ ?_⟩
    have em : am_oi none = -1 := rfl
    have h5 : ((-1 : Int32) < 0) = True := by decide
    simp only [am_s191_140, am_s191_141, am_s191_144, am_s191_145, am_s191_147, am_s191_150, am_s191_153, am_s191_154, em, h5, am_er_f, am_ec2, not_true_eq_false, am_cal_ok am_cat_0 am_v114 (am_d1 (D := 98)), am_cal_ok am_cat_0 am_v114 (am_d2 (D := 98)), am_cal_ok am_cat_0 am_v114 (am_d3 (D := 98)), am_cal_ok am_cat_0 am_v114 (am_d4 (D := 98)), am_cal_ok am_cat_0 am_v114 (am_d5 (D := 98)), am_cal_ok am_cat_0 am_rcv_f (am_y125 _ _), am_cal_ok am_cat_0 am_rcv_f (am_m183 (D := 97) _), am_bI0, am_f114_0, am_er_f, am_sy_f, Bool.false_and, Bool.and_false, reduceCtorEq, not_false_eq_true, not_true_eq_false, eq_self, am_os_some, Option.toList_some, Option.toList_none, List.cons_append, List.nil_append, if_true, if_false, true_and, am_nw1_i, am_nw1_r, am_nw1_n, cond_true]
  | some d =>
    dsimp only
    have hdl := am_cvr_lt hd
    intro N xs q G hc
    obtain ⟨G3, t4, y5, y6, r1, r2, hk⟩ := key N xs q G hc
    rw [hd] at hk
    refine ⟨G3, r2, r1, hk _ ?_⟩
    have em : am_oi (some d) = nI d := rfl
    have h5 : ¬ nI d < 0 := nI_pos (by omega)
    simp only [am_s191_140, am_s191_141, am_s191_144, am_s191_145, am_s191_147, am_s191_150, am_s191_153, am_s191_154, em, h5, not_false_eq_true, am_cal_ok am_cat_0 am_v114 (am_d1 (D := 98)), am_cal_ok am_cat_0 am_v114 (am_d2 (D := 98)), am_cal_ok am_cat_0 am_v114 (am_d3 (D := 98)), am_cal_ok am_cat_0 am_v114 (am_d4 (D := 98)), am_cal_ok am_cat_0 am_v114 (am_d5 (D := 98)), am_cal_ok am_cat_0 am_rcv_f (am_y125 _ _), am_cal_ok am_cat_0 am_rcv_f (am_m183 (D := 97) _), am_bI0, am_f114_0, am_er_f, am_sy_f, Bool.false_and, Bool.and_false, reduceCtorEq, not_false_eq_true, not_true_eq_false, eq_self, am_os_some, Option.toList_some, Option.toList_none, List.cons_append, List.nil_append, if_true, if_false, true_and, am_nw1_i, am_nw1_r, am_nw1_n, cond_true]
end AMRP7
