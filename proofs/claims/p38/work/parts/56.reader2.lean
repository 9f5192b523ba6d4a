/-! the reader: a TEXT's levels, by the fuel of the grammar's function -/
def am_dep (op : Nat) : Nat := 9 + (5 - op) * 8
def am_post (B : Nat → Nat) (n : Nat) (G' : am_G) (L : am_T) (z : am_T × Nat × Bool) : Prop := (z.2.2 = true → am_rdr B n G' (L ++ z.1) z.2.1 (-1)) ∧ (z.2.2 = false → am_rdf G' z.2.1)
section AMRE
variable {X : am_X} {D q : Nat} {B : Nat → Nat} {n : Nat}
theorem am_nIm1 {i : Nat} (hi : i < 2 ^ 31) : ¬ nI i = -1 := fun h => by
  have := congrArg Int32.toInt h
  rw [nI_toInt hi] at this
  have e : (-1 : Int32).toInt = -1 := by decide +kernel
  rw [e] at this
  omega
theorem am_m44 {G : am_G} {L : am_T} {i : Nat} (h : am_rdr B n G L i (-1)) (hi : i ≤ n) (hL : L.length ≤ 50) : ∃ G' : am_G, am_frr G G' ∧ (am_byt B n i = 41 → am_rdr B n G' L (i + 1) (-1)) ∧ (am_byt B n i ≠ 41 → am_rdf G' i) ∧ am_CD X (D + 2) 44 [.ref 92] (am_L0 q, G) = some (none, (am_L0 q, G')) := by
  have hB := h.2.2.2.2.2.2.2
  have g1 := am_m41 (X := X) (D := D) (q := q) h hi
  have h1 := h.1
  have h2 := h.2.1
  by_cases c : am_byt B n i = 41
  · have e1 : am_nx B n i = 41 := (am_nx_eq hB (by decide)).mpr c
    have s2 : nI i + 1 = nI (i + 1) := nI_add i 1
    refine ⟨_, am_frr_at G 3 (nI (i + 1)), fun _ => am_rdr_at h, fun hn => absurd c hn, ?_⟩
    rw [e1] at g1
    refine am_CD_of (M := am_N44) rfl rfl ?_
    show am_Rn _ _ none am_J44 0 [some (.ref 92)] [] (am_L0 q, G) _
    simp only [am_s44_0, am_s44_1, am_s44_4, am_s44_5, am_s44_8, am_s44_9, am_s44_10, am_s44_13, am_s44_15, am_s44_18, am_s44_19, am_s44_19a, am_s44_20, am_s44_23, am_s44_24, am_s44_25, am_s44_28, am_s44_31, am_s44_32, am_s44_33, am_s44_36, am_s44_39, am_f92_4, am_f92_3, am_p92_3, h1, h2, am_cal_ok am_cat_0 am_v92 (g1), s2, eq_self, am_os_some, Option.toList_some, Option.toList_none, List.cons_append, List.nil_append, if_true, if_false, true_and, am_nw1_i, am_nw1_r, am_nw1_n, cond_true]
  · have e1 : ¬ am_nx B n i = 41 := fun e => c ((am_nx_eq (c := 41) hB (by decide)).mp e)
    refine ⟨_, am_frr_at G 4 (nI i), fun hn => absurd hn c, fun _ => ⟨by rw [am_up_get, if_pos rfl, if_pos rfl], L.length, hL, by rw [am_up_get, if_neg (by decide)]; exact h.2.2.1⟩, ?_⟩
    refine am_CD_of (M := am_N44) rfl rfl ?_
    show am_Rn _ _ none am_J44 0 [some (.ref 92)] [] (am_L0 q, G) _
    simp only [am_s44_0, am_s44_1, am_s44_4, am_s44_5, am_s44_8, am_s44_9, am_s44_10, am_s44_13, am_s44_15, am_s44_18, am_s44_19, am_s44_19a, am_s44_20, am_s44_23, am_s44_24, am_s44_25, am_s44_28, am_s44_31, am_s44_32, am_s44_33, am_s44_36, am_s44_39, am_f92_4, am_f92_3, am_p92_4, h1, h2, am_cal_ok am_cat_0 am_v92 (g1), e1, eq_self, am_os_some, Option.toList_some, Option.toList_none, List.cons_append, List.nil_append, if_true, if_false, true_and, am_nw1_i, am_nw1_r, am_nw1_n, cond_true]
theorem am_m44f {G : am_G} {i : Nat} (h : am_rdf G i) (hi : i < 2 ^ 31) : am_CD X (D + 2) 44 [.ref 92] (am_L0 q, G) = some (none, (am_L0 q, G)) := by
  have h1 := h.1
  have e1 := am_nIm1 hi
  refine am_CD_of (M := am_N44) rfl rfl ?_
  show am_Rn _ _ none am_J44 0 [some (.ref 92)] [] (am_L0 q, G) _
  simp only [am_s44_0, am_s44_1, am_s44_4, am_s44_5, am_s44_8, am_s44_9, am_s44_10, am_s44_13, am_s44_15, am_s44_18, am_s44_19, am_s44_19a, am_s44_20, am_s44_23, am_s44_24, am_s44_25, am_s44_28, am_s44_31, am_s44_32, am_s44_33, am_s44_36, am_s44_39, am_f92_4, h1, e1, eq_self, am_os_some, Option.toList_some, Option.toList_none, List.cons_append, List.nil_append, if_true, if_false, true_and, am_nw1_i, am_nw1_r, am_nw1_n, cond_true]
theorem am_rmain {u : Nat} (hu : u < 2) : ∀ (f md op i : Nat) (z : am_T × Nat × Bool) (L : am_T) (G : am_G), am_pr u B n f md op i = some z → op ≤ 5 → md < 11 → i ≤ n → L.length ≤ i → am_rdr B n G L i (-1) →
    (∀ D, md ≤ 5 → am_dep op + 6 - md ≤ D → ∃ G' : am_G, am_frr G G' ∧ am_post B n G' L z ∧ am_CD X D 42 [.ref 92, .int (nI md), .int (nI op)] (am_L0 (1001 + u), G) = some (none, (am_L0 (1001 + u), G'))) ∧
    (∀ D, md = 5 → am_dep op ≤ D → ∃ G' : am_G, am_frr G G' ∧ am_post B n G' L z ∧ am_CD X D 43 [.ref 92, .int (nI op)] (am_L0 (1001 + u), G) = some (none, (am_L0 (1001 + u), G'))) ∧
    (∀ D, 6 ≤ md → am_dep op + 11 - md ≤ D → ∀ (k : Nat) (y4 : Option Value), k < i → ∃ G' : am_G, am_frr G G' ∧ am_post B n G' L z ∧ am_Rn X D none am_J42 21 [some (.ref 92), some (.int (nI (md - 6))), some (.int (nI op)), some (.int (nI k)), y4] [] (am_L0 (1001 + u), G) (none, (am_L0 (1001 + u), G'))) := by
  intro f
  induction f with
  | zero => intro md op i z L G h; cases h
  | succ f ih =>
    intro md op i z L G h hop hmd hi hL hr
    have hn50 : n ≤ 50 := hr.2.2.2.2.2.2.1
    have hB := hr.2.2.2.2.2.2.2
    have hd9 : ∀ op, 9 ≤ am_dep op := fun op => by unfold am_dep; omega
    unfold am_pr at h
    by_cases h5 : md < 5
    · rw [if_pos h5] at h
      refine ⟨fun D _ hD => ?_, fun D h6 => by omega, fun D h6 => by omega⟩
      obtain ⟨D1, rfl⟩ : ∃ D1, D = D1 + 1 := ⟨D - 1, by have := hd9 op; omega⟩
      have em : nI md + 1 = nI (md + 1) := nI_add md 1
      have e5 : nI md < 5 := nI_lt (show md < 5 from h5) (by decide)
      have em6 : md + 6 - 6 = md := by omega
      have k0 : nI 0 < 50 := by decide +kernel
      rcases am_seq_some h with ⟨T1, i1, h1, h⟩ | ⟨T1, i1, h1, rfl⟩
      · obtain ⟨a1, a2, -, a4⟩ := am_pr_ok f _ _ _ _ hi (by omega) h1
        obtain ⟨b1, b2, -⟩ := a4 rfl
        have b2' := b2 (by omega)
        dsimp only at a1 a2 b1 b2'
        obtain ⟨G1, f1, p1, g1⟩ := (ih (md + 1) op i _ L G h1 hop (by omega) hi hL hr).1 D1 (by omega) (by omega)
        have r1 := p1.1 rfl
        dsimp only at r1
        rcases am_seq_some h with ⟨T2, i2, h2, h⟩ | ⟨T2, i2, h2, rfl⟩
        · obtain ⟨G2, f2, p2, g2⟩ := (ih (md + 6) op i1 _ (L ++ T1) G1 h2 hop (by omega) a2 (by rw [List.length_append]; omega) r1).2.2 D1 (by omega) (by omega) 0 none (by omega)
          cases h
          refine ⟨G2, f1.tr f2, ⟨fun _ => ?_, fun e => by cases e⟩, ?_⟩
          · have := p2.1 rfl
            rw [List.append_assoc] at this
            exact this
          · rw [em6, nI_0] at g2
            refine am_CD_of (M := am_N42) rfl rfl ?_
            show am_Rn _ _ none am_J42 0 [some (.ref 92), some (.int (nI md)), some (.int (nI op)), none, none] [] (am_L0 (1001 + u), G) _
            simp only [am_s42_0, am_s42_1, am_s42_2, am_s42_11, am_s42_12, am_s42_13, am_s42_14, am_s42_15, am_s42_16, am_s42_19, am_s42_20, e5, em, am_cal_ok am_cat_0 am_v92 (g1), eq_self, am_os_some, Option.toList_some, Option.toList_none, List.cons_append, List.nil_append, if_true, if_false, true_and, am_nw1_i, am_nw1_r, am_nw1_n, cond_true]
            exact g2
        · obtain ⟨G2, f2, p2, g2⟩ := (ih (md + 6) op i1 _ (L ++ T1) G1 h2 hop (by omega) a2 (by rw [List.length_append]; omega) r1).2.2 D1 (by omega) (by omega) 0 none (by omega)
          refine ⟨G2, f1.tr f2, ⟨(fun e => by cases e), fun _ => p2.2 rfl⟩, ?_⟩
          rw [em6, nI_0] at g2
          refine am_CD_of (M := am_N42) rfl rfl ?_
          show am_Rn _ _ none am_J42 0 [some (.ref 92), some (.int (nI md)), some (.int (nI op)), none, none] [] (am_L0 (1001 + u), G) _
          simp only [am_s42_0, am_s42_1, am_s42_2, am_s42_11, am_s42_12, am_s42_13, am_s42_14, am_s42_15, am_s42_16, am_s42_19, am_s42_20, e5, em, am_cal_ok am_cat_0 am_v92 (g1), eq_self, am_os_some, Option.toList_some, Option.toList_none, List.cons_append, List.nil_append, if_true, if_false, true_and, am_nw1_i, am_nw1_r, am_nw1_n, cond_true]
          exact g2
      · obtain ⟨a1, a2, -, -⟩ := am_pr_ok f _ _ _ _ hi (by omega) h1
        dsimp only at a1 a2
        obtain ⟨G1, f1, p1, g1⟩ := (ih (md + 1) op i _ L G h1 hop (by omega) hi hL hr).1 D1 (by omega) (by omega)
        have r1 := p1.2 rfl
        dsimp only at r1
        have e1 := am_nIm1 (show i1 < 2 ^ 31 by omega)
        have r11 := r1.1
        rw [nI_0] at k0
        refine ⟨G1, f1, ⟨(fun e => by cases e), fun _ => r1⟩, ?_⟩
        refine am_CD_of (M := am_N42) rfl rfl ?_
        show am_Rn _ _ none am_J42 0 [some (.ref 92), some (.int (nI md)), some (.int (nI op)), none, none] [] (am_L0 (1001 + u), G) _
        simp only [am_s42_0, am_s42_1, am_s42_2, am_s42_11, am_s42_12, am_s42_13, am_s42_14, am_s42_15, am_s42_16, am_s42_19, am_s42_20, am_s42_21, am_s42_22, am_s42_24, am_s42_27, am_s42_28, am_s42_31, am_s42_32, am_s42_92, e5, em, am_cal_ok am_cat_0 am_v92 (g1), k0, am_f92_4, r11, e1, eq_self, am_os_some, Option.toList_some, Option.toList_none, List.cons_append, List.nil_append, if_true, if_false, true_and, am_nw1_i, am_nw1_r, am_nw1_n, cond_true]
    · rw [if_neg h5] at h
      by_cases h5e : md = 5
      · rw [if_pos h5e] at h
        subst h5e
        have hP2 : ∀ D, am_dep op ≤ D → ∃ G' : am_G, am_frr G G' ∧ am_post B n G' L z ∧ am_CD X D 43 [.ref 92, .int (nI op)] (am_L0 (1001 + u), G) = some (none, (am_L0 (1001 + u), G')) := by
          intro D hD
          obtain ⟨D1, rfl⟩ : ∃ D1, D = D1 + 9 := ⟨D - 9, by have := hd9 op; omega⟩
          have g0 := am_m41 (X := X) (D := D1 + 7) (q := 1001 + u) hr hi
          have g1 := am_m46 (X := X) (D := D1 + 7) (c := 0) hB (i := i) (w := (am_L0 (1001 + u), G))
          have hat := hr.1
          have s2 : nI i + 1 = nI (i + 1) := nI_add i 1
          have e10 : ((1 : Int32) = 0) = False := by decide
          by_cases hd : am_dig (am_byt B n i) = true
          · rw [if_pos hd] at h
            rw [hd] at g1
            have hlt := am_dig_lt hd
            obtain ⟨G', f1, c1, g2⟩ := am_m45 (X := X) (D := D1 + 6) (q := 1001 + u) hr hi (by omega)
            cases h
            refine ⟨G', f1, ⟨fun _ => c1, fun e => by cases e⟩, ?_⟩
            refine am_CD_of (M := am_N43) rfl rfl ?_
            show am_Rn _ _ none am_J43 0 [some (.ref 92), some (.int (nI op)), none] [] (am_L0 (1001 + u), G) _
            simp only [am_s43_0, am_s43_1, am_s43_4, am_s43_5, am_s43_6, am_s43_9, am_s43_12, am_s43_13, am_s43_16, am_s43_151, am_cal_ok am_cat_0 am_v92 (g0), am_cal_ok am_cat_0 am_rcv_f (g1), am_bI, e10, am_cal_ok am_cat_0 am_v92 (g2), eq_self, am_os_some, Option.toList_some, Option.toList_none, List.cons_append, List.nil_append, if_true, if_false, true_and, am_nw1_i, am_nw1_r, am_nw1_n, cond_true]
          · rw [if_neg hd] at h
            have hdf : am_dig (am_byt B n i) = false := by
              cases e : am_dig (am_byt B n i) with
              | false => rfl
              | true => exact absurd e hd
            rw [hdf] at g1
            -- the last cases: from place 66 on
            have h66 : (if am_byt B n i = 33 ∧ op < 5 then am_seq (am_pr u B n f 5 (op + 1) (i + 1)) fun T1 i1 => some (T1 ++ [(33, 0)], i1, true)
              else if am_byt B n i = 40 ∧ op < 5 then am_seq (am_pr u B n f 0 (op + 1) (i + 1)) fun T1 i1 => (if am_byt B n i1 = 41 then some (T1, i1 + 1, true) else some ([], i1, false))
              else some ([], i, false)) = some z → ∃ G' : am_G, am_frr G G' ∧ am_post B n G' L z ∧ am_Rn X (D1 + 8) none am_J43 66 [some (.ref 92), some (.int (nI op)), some (.int (am_nx B n i))] [] (am_L0 (1001 + u), G) (none, (am_L0 (1001 + u), G')) := by
              intro h
              have hdep : op < 5 → am_dep op = am_dep (op + 1) + 8 := fun h => by unfold am_dep; omega
              have so : nI op + 1 = nI (op + 1) := nI_add op 1
              by_cases c33 : am_byt B n i = 33
              · have e33 : am_nx B n i = 33 := (am_nx_eq hB (by decide)).mpr c33
                have hlt : i < n := am_byt_lt (B := B) (by omega)
                by_cases co : op < 5
                · rw [if_pos ⟨c33, co⟩] at h
                  have eo : nI op < 5 := nI_lt (show op < 5 from co) (by decide)
                  have hr1 := am_rdr_at hr
                  rcases am_seq_some h with ⟨T1, i1, h1, h⟩ | ⟨T1, i1, h1, rfl⟩
                  · obtain ⟨a1, a2, -, a4⟩ := am_pr_ok f _ _ _ _ hlt (by decide) h1
                    obtain ⟨b1, b2, -⟩ := a4 rfl
                    have b2' := b2 (by decide)
                    dsimp only at a1 a2 b1 b2'
                    obtain ⟨G1, f1, p1, g2⟩ := (ih 5 (op + 1) (i + 1) _ L _ h1 (by omega) (by decide) hlt (by omega) hr1).2.1 (D1 + 8) rfl (by have := hdep co; omega)
                    have r1 := p1.1 rfl
                    dsimp only at r1
                    obtain ⟨G2, f2, c2, g3⟩ := am_m15 (X := X) (D := D1 + 7) (q := 1001 + u) r1 (by rw [List.length_append]; omega) 33 0
                    have g3' : am_CD X (D1 + 8) 15 [.ref 93, .int 33, .int 0] (am_L0 (1001 + u), G1) = some (none, (am_L0 (1001 + u), G2)) := g3
                    cases h
                    refine ⟨G2, ((am_frr_at G 3 _).tr f1).tr f2, ⟨fun _ => by rw [List.append_assoc] at c2; exact c2, fun e => by cases e⟩, ?_⟩
                    simp only [am_s43_66, am_s43_67, am_s43_69, am_s43_72, am_s43_73, am_s43_74, am_s43_77, am_s43_78, am_s43_78a, am_s43_79, am_s43_82, am_s43_83, am_s43_84, am_s43_87, am_s43_88, am_s43_89, am_s43_90, am_s43_91, am_s43_94, am_s43_95, am_s43_98, am_s43_100, am_s43_101, am_s43_104, am_s43_151, e33, eo, am_f92_3, am_p92_3, hat, s2, so, am_cal_ok am_cat_0 am_v92 (g2), am_f92_0, am_cal_ok am_cat_0 am_v93 (g3'), eq_self, am_os_some, Option.toList_some, Option.toList_none, List.cons_append, List.nil_append, if_true, if_false, true_and, am_nw1_i, am_nw1_r, am_nw1_n, cond_true]
                  · obtain ⟨a1, a2, -, -⟩ := am_pr_ok f _ _ _ _ hlt (by decide) h1
                    obtain ⟨G1, f1, p1, g2⟩ := (ih 5 (op + 1) (i + 1) _ L _ h1 (by omega) (by decide) hlt (by omega) hr1).2.1 (D1 + 8) rfl (by have := hdep co; omega)
                    obtain ⟨G2, f2, c2, g3⟩ := am_m15f (X := X) (D := D1 + 7) (q := 1001 + u) (p1.2 rfl) 33 0
                    refine ⟨G2, ((am_frr_at G 3 _).tr f1).tr f2, ⟨(fun e => by cases e), fun _ => c2⟩, ?_⟩
                    simp only [am_s43_66, am_s43_67, am_s43_69, am_s43_72, am_s43_73, am_s43_74, am_s43_77, am_s43_78, am_s43_78a, am_s43_79, am_s43_82, am_s43_83, am_s43_84, am_s43_87, am_s43_88, am_s43_89, am_s43_90, am_s43_91, am_s43_94, am_s43_95, am_s43_98, am_s43_100, am_s43_101, am_s43_104, am_s43_151, e33, eo, am_f92_3, am_p92_3, hat, s2, so, am_cal_ok am_cat_0 am_v92 (g2), am_f92_0, am_cal_ok am_cat_0 am_v93 (g3), eq_self, am_os_some, Option.toList_some, Option.toList_none, List.cons_append, List.nil_append, if_true, if_false, true_and, am_nw1_i, am_nw1_r, am_nw1_n, cond_true]
                · rw [if_neg (fun hc => co hc.2), if_neg (fun hc => co hc.2)] at h
                  cases h
                  have eo : ¬ nI op < 5 := nI_nlt (b := 5) (by omega) (by omega)
                  have e40 : ((33 : Int32) = 40) = False := by decide
                  refine ⟨_, am_frr_at G 4 (nI i), ⟨(fun e => by cases e), fun _ => ⟨by rw [am_up_get, if_pos rfl, if_pos rfl], L.length, by omega, by rw [am_up_get, if_neg (by decide)]; exact hr.2.2.1⟩⟩, ?_⟩
                  simp only [am_s43_66, am_s43_67, am_s43_69, am_s43_72, am_s43_73, am_s43_74, am_s43_107, am_s43_108, am_s43_110, am_s43_143, am_s43_144, am_s43_145, am_s43_148, am_s43_151, e33, eo, e40, am_f92_3, am_p92_4, hat, eq_self, am_os_some, Option.toList_some, Option.toList_none, List.cons_append, List.nil_append, if_true, if_false, true_and, am_nw1_i, am_nw1_r, am_nw1_n, cond_true]
              · have e33 : ¬ am_nx B n i = 33 := fun e => c33 ((am_nx_eq (c := 33) hB (by decide)).mp e)
                rw [if_neg (fun hc => c33 hc.1)] at h
                by_cases c40 : am_byt B n i = 40
                · have e40 : am_nx B n i = 40 := (am_nx_eq hB (by decide)).mpr c40
                  have hlt : i < n := am_byt_lt (B := B) (by omega)
                  rw [e40] at e33
                  by_cases co : op < 5
                  · rw [if_pos ⟨c40, co⟩] at h
                    have eo : nI op < 5 := nI_lt (show op < 5 from co) (by decide)
                    have hr1 := am_rdr_at hr
                    rcases am_seq_some h with ⟨T1, i1, h1, h⟩ | ⟨T1, i1, h1, rfl⟩
                    · obtain ⟨a1, a2, -, a4⟩ := am_pr_ok f _ _ _ _ hlt (by decide) h1
                      obtain ⟨b1, b2, -⟩ := a4 rfl
                      have b2' := b2 (by decide)
                      dsimp only at a1 a2 b1 b2'
                      obtain ⟨G1, f1, p1, g2⟩ := (ih 0 (op + 1) (i + 1) _ L _ h1 (by omega) (by decide) hlt (by omega) hr1).1 (D1 + 8) (by decide) (by have := hdep co; omega)
                      have g2' : am_CD X (D1 + 8) 42 [.ref 92, .int 0, .int (nI (op + 1))] (am_L0 (1001 + u), am_up G 92 3 (nI (i + 1))) = some (none, (am_L0 (1001 + u), G1)) := g2
                      have r1 := p1.1 rfl
                      dsimp only at r1
                      obtain ⟨G2, f2, c2, c3, g3⟩ := am_m44 (X := X) (D := D1 + 6) (q := 1001 + u) r1 a2 (by rw [List.length_append]; omega)
                      refine ⟨G2, ((am_frr_at G 3 _).tr f1).tr f2, ?_, ?_⟩
                      · by_cases c41 : am_byt B n i1 = 41
                        · rw [if_pos c41] at h
                          cases h
                          exact ⟨fun _ => c2 c41, fun e => by cases e⟩
                        · rw [if_neg c41] at h
                          cases h
                          exact ⟨(fun e => by cases e), fun _ => c3 c41⟩
                      · simp only [am_s43_66, am_s43_67, am_s43_69, am_s43_107, am_s43_108, am_s43_110, am_s43_113, am_s43_114, am_s43_115, am_s43_118, am_s43_119, am_s43_119a, am_s43_120, am_s43_123, am_s43_124, am_s43_125, am_s43_128, am_s43_129, am_s43_130, am_s43_131, am_s43_132, am_s43_133, am_s43_136, am_s43_137, am_s43_140, am_s43_151, e40, e33, eo, am_f92_3, am_p92_3, hat, s2, so, am_cal_ok am_cat_0 am_v92 (g2'), am_cal_ok am_cat_0 am_v92 (g3), eq_self, am_os_some, Option.toList_some, Option.toList_none, List.cons_append, List.nil_append, if_true, if_false, true_and, am_nw1_i, am_nw1_r, am_nw1_n, cond_true]
                    · obtain ⟨a1, a2, -, -⟩ := am_pr_ok f _ _ _ _ hlt (by decide) h1
                      dsimp only at a1 a2
                      obtain ⟨G1, f1, p1, g2⟩ := (ih 0 (op + 1) (i + 1) _ L _ h1 (by omega) (by decide) hlt (by omega) hr1).1 (D1 + 8) (by decide) (by have := hdep co; omega)
                      have g2' : am_CD X (D1 + 8) 42 [.ref 92, .int 0, .int (nI (op + 1))] (am_L0 (1001 + u), am_up G 92 3 (nI (i + 1))) = some (none, (am_L0 (1001 + u), G1)) := g2
                      have r1 := p1.2 rfl
                      have g3 := am_m44f (X := X) (D := D1 + 6) (q := 1001 + u) r1 (by show i1 < 2 ^ 31; omega)
                      refine ⟨G1, (am_frr_at G 3 _).tr f1, ⟨(fun e => by cases e), fun _ => r1⟩, ?_⟩
                      simp only [am_s43_66, am_s43_67, am_s43_69, am_s43_107, am_s43_108, am_s43_110, am_s43_113, am_s43_114, am_s43_115, am_s43_118, am_s43_119, am_s43_119a, am_s43_120, am_s43_123, am_s43_124, am_s43_125, am_s43_128, am_s43_129, am_s43_130, am_s43_131, am_s43_132, am_s43_133, am_s43_136, am_s43_137, am_s43_140, am_s43_151, e40, e33, eo, am_f92_3, am_p92_3, hat, s2, so, am_cal_ok am_cat_0 am_v92 (g2'), am_cal_ok am_cat_0 am_v92 (g3), eq_self, am_os_some, Option.toList_some, Option.toList_none, List.cons_append, List.nil_append, if_true, if_false, true_and, am_nw1_i, am_nw1_r, am_nw1_n, cond_true]
                  · rw [if_neg (fun hc => co hc.2)] at h
                    cases h
                    have eo : ¬ nI op < 5 := nI_nlt (b := 5) (by omega) (by omega)
                    refine ⟨_, am_frr_at G 4 (nI i), ⟨(fun e => by cases e), fun _ => ⟨by rw [am_up_get, if_pos rfl, if_pos rfl], L.length, by omega, by rw [am_up_get, if_neg (by decide)]; exact hr.2.2.1⟩⟩, ?_⟩
                    simp only [am_s43_66, am_s43_67, am_s43_69, am_s43_107, am_s43_108, am_s43_110, am_s43_113, am_s43_114, am_s43_115, am_s43_143, am_s43_144, am_s43_145, am_s43_148, am_s43_151, e33, eo, e40, am_f92_3, am_p92_4, hat, eq_self, am_os_some, Option.toList_some, Option.toList_none, List.cons_append, List.nil_append, if_true, if_false, true_and, am_nw1_i, am_nw1_r, am_nw1_n, cond_true]
                · have e40 : ¬ am_nx B n i = 40 := fun e => c40 ((am_nx_eq (c := 40) hB (by decide)).mp e)
                  rw [if_neg (fun hc => c40 hc.1)] at h
                  cases h
                  refine ⟨_, am_frr_at G 4 (nI i), ⟨(fun e => by cases e), fun _ => ⟨by rw [am_up_get, if_pos rfl, if_pos rfl], L.length, by omega, by rw [am_up_get, if_neg (by decide)]; exact hr.2.2.1⟩⟩, ?_⟩
                  simp only [am_s43_66, am_s43_67, am_s43_69, am_s43_107, am_s43_108, am_s43_110, am_s43_143, am_s43_144, am_s43_145, am_s43_148, am_s43_151, e33, e40, am_f92_3, am_p92_4, hat, eq_self, am_os_some, Option.toList_some, Option.toList_none, List.cons_append, List.nil_append, if_true, if_false, true_and, am_nw1_i, am_nw1_r, am_nw1_n, cond_true]
            by_cases hin : i < n
            · have hb := hB i hin
              have ebyt : am_byt B n i = B i := by unfold am_byt; rw [if_pos hin]
              have enx : am_nx B n i = nI (B i) := by unfold am_nx; rw [if_pos hin]
              have hnn : ¬ nI (B i) < 0 := nI_pos (by omega)
              have hch : ((nI (B i)).toUInt32 % 65536).toInt32 = nI (B i) := (sb_byte (B i) hb).2.1
              have gx := am_m220 (X := X) (D := D1 + 4) (s := 1001 + u) (G := G) hu hb
              cases hnm : am_nam u (am_byt B n i) with
              | some k =>
                rw [hnm] at h
                cases h
                rw [ebyt] at hnm
                have hk2 := (am_nam_lt hnm).1
                have ex : am_ixq u (B i) = nI k := by unfold am_ixq; rw [hnm]
                rw [ex] at gx
                have hkn : ¬ nI k < 0 := nI_pos (by omega)
                obtain ⟨G1, f1, c1, g3⟩ := am_m15 (X := X) (D := D1 + 7) (q := 1001 + u) hr (by omega) 110 k
                have g3' : am_CD X (D1 + 8) 15 [.ref 93, .int 110, .int (nI k)] (am_L0 (1001 + u), G) = some (none, (am_L0 (1001 + u), G1)) := g3
                have hat1 := c1.1
                refine ⟨_, f1.tr (am_frr_at G1 3 (nI (i + 1))), ⟨fun _ => am_rdr_at c1, fun e => by cases e⟩, ?_⟩
                refine am_CD_of (M := am_N43) rfl rfl ?_
                show am_Rn _ _ none am_J43 0 [some (.ref 92), some (.int (nI op)), none] [] (am_L0 (1001 + u), G) _
                rw [enx] at g0 g1
                simp only [am_s43_0, am_s43_1, am_s43_4, am_s43_5, am_s43_6, am_s43_9, am_s43_12, am_s43_13, am_s43_16, am_s43_19, am_s43_20, am_s43_23, am_s43_24, am_s43_27, am_s43_28, am_s43_29, am_s43_32, am_s43_35, am_s43_36, am_s43_39, am_s43_41, am_s43_42, am_s43_45, am_s43_46, am_s43_47, am_s43_50, am_s43_53, am_s43_54, am_s43_54a, am_s43_55, am_s43_58, am_s43_59, am_s43_60, am_s43_63, am_s43_151, am_cal_ok am_cat_0 am_v92 (g0), am_cal_ok am_cat_0 am_rcv_f (g1), am_bI, reduceCtorEq, hnn, am_f92_2, hch, am_calS_ok am_cat_0 (am_srv_q hu) gx, hkn, am_f92_0, am_calS_ok (am_cat_2 _ _) (am_srv_q hu) gx, am_cal_ok am_cat_0 am_v93 (g3'), am_f92_3, am_p92_3, hat1, s2, eq_self, am_os_some, Option.toList_some, Option.toList_none, List.cons_append, List.nil_append, if_true, if_false, true_and, am_nw1_i, am_nw1_r, am_nw1_n, cond_true]
              | none =>
                rw [hnm] at h
                rw [ebyt] at hnm
                have ex : am_ixq u (B i) = -1 := by unfold am_ixq; rw [hnm]
                rw [ex] at gx
                have em : ((-1 : Int32) < 0) = True := by decide
                obtain ⟨G', f1, p1, g2⟩ := h66 h
                refine ⟨G', f1, p1, ?_⟩
                refine am_CD_of (M := am_N43) rfl rfl ?_
                show am_Rn _ _ none am_J43 0 [some (.ref 92), some (.int (nI op)), none] [] (am_L0 (1001 + u), G) _
                rw [enx] at g0 g1 g2
                simp only [am_s43_0, am_s43_1, am_s43_4, am_s43_5, am_s43_6, am_s43_9, am_s43_12, am_s43_13, am_s43_16, am_s43_19, am_s43_20, am_s43_23, am_s43_24, am_s43_27, am_s43_28, am_s43_29, am_s43_32, am_cal_ok am_cat_0 am_v92 (g0), am_cal_ok am_cat_0 am_rcv_f (g1), am_bI, reduceCtorEq, hnn, am_f92_2, hch, am_calS_ok am_cat_0 (am_srv_q hu) gx, em, eq_self, am_os_some, Option.toList_some, Option.toList_none, List.cons_append, List.nil_append, if_true, if_false, true_and, am_nw1_i, am_nw1_r, am_nw1_n, cond_true]
                exact g2
            · have ebyt : am_byt B n i = 1000 := by unfold am_byt; rw [if_neg hin]
              have enx : am_nx B n i = -1 := by unfold am_nx; rw [if_neg hin]
              have hnm : am_nam u (am_byt B n i) = none := by
                rw [ebyt]
                match u, hu with
                | 0, _ => rfl
                | 1, _ => rfl
              rw [hnm] at h
              have em : ((-1 : Int32) < 0) = True := by decide
              obtain ⟨G', f1, p1, g2⟩ := h66 h
              refine ⟨G', f1, p1, ?_⟩
              refine am_CD_of (M := am_N43) rfl rfl ?_
              show am_Rn _ _ none am_J43 0 [some (.ref 92), some (.int (nI op)), none] [] (am_L0 (1001 + u), G) _
              rw [enx] at g0 g1 g2
              simp only [am_s43_0, am_s43_1, am_s43_4, am_s43_5, am_s43_6, am_s43_9, am_s43_12, am_s43_13, am_s43_16, am_s43_19, am_s43_20, am_cal_ok am_cat_0 am_v92 (g0), am_cal_ok am_cat_0 am_rcv_f (g1), am_bI, reduceCtorEq, em, eq_self, am_os_some, Option.toList_some, Option.toList_none, List.cons_append, List.nil_append, if_true, if_false, true_and, am_nw1_i, am_nw1_r, am_nw1_n, cond_true]
              exact g2
        refine ⟨fun D _ hD => ?_, fun D _ hD => hP2 D hD, fun D h6 => by omega⟩
        obtain ⟨D1, rfl⟩ : ∃ D1, D = D1 + 1 := ⟨D - 1, by have := hd9 op; omega⟩
        obtain ⟨G', f1, p1, g1⟩ := hP2 D1 (by omega)
        refine ⟨G', f1, p1, ?_⟩
        have e5 : ¬ nI 5 < 5 := by decide +kernel
        refine am_CD_of (M := am_N42) rfl rfl ?_
        show am_Rn _ _ none am_J42 0 [some (.ref 92), some (.int (nI 5)), some (.int (nI op)), none, none] [] (am_L0 (1001 + u), G) _
        simp only [am_s42_0, am_s42_1, am_s42_2, am_s42_5, am_s42_6, am_s42_7, am_s42_10, e5, am_cal_ok am_cat_0 am_v92 (g1), eq_self, am_os_some, Option.toList_some, Option.toList_none, List.cons_append, List.nil_append, if_true, if_false, true_and, am_nw1_i, am_nw1_r, am_nw1_n, cond_true]
      · rw [if_neg h5e] at h
        refine ⟨fun D h6 => by omega, fun D h6 => by omega, fun D h6 hD k y4 hk => ?_⟩
        have g0 := am_m41 (X := X) (D := D - 1) (q := 1001 + u) hr hi
        have hD1 : D - 1 + 1 = D := by have := hd9 op; omega
        have g1 := am_m47 (X := X) (D := D - 1) hB (i := i) (w := (am_L0 (1001 + u), G))
        rw [hD1] at g0 g1
        have k50 : nI k < 50 := nI_lt (show k < 50 by omega) (by decide)
        have hft := hr.2.1
        have hat := hr.1
        have s2 : nI i + 1 = nI (i + 1) := nI_add i 1
        have sk : nI k + 1 = nI (k + 1) := nI_add k 1
        have sm : nI (md - 6) + 1 = nI (md - 6 + 1) := nI_add _ 1
        by_cases hl : am_lvl (am_byt B n i) = md - 6
        · rw [if_pos hl] at h
          have hop2 := am_lvl_op hl (by omega)
          have hlt := am_byt_lt hop2.2
          have hb := hB i hlt
          have ebyt : am_byt B n i = B i := by unfold am_byt; rw [if_pos hlt]
          have el : am_lvi (am_byt B n i) = nI (md - 6) := (am_lvi_eq (by omega)).mpr hl
          have enx : am_nx B n i = nI (am_byt B n i) := (am_nx_eq hB (by omega)).mpr rfl
          rw [enx] at g0 g1
          rw [el] at g1
          have hr1 := am_rdr_at hr
          have e2m : (nI (md - 6) = 2) = (md = 8) := propext ⟨fun e => by
            have := (nI_eq (a := md - 6) (b := 2) (by omega) (by decide)).mp e
            omega, fun e => by subst e; rfl⟩
          rcases am_seq_some h with ⟨T1, i1, h1, h⟩ | ⟨T1, i1, h1, rfl⟩
          · obtain ⟨a1, a2, -, a4⟩ := am_pr_ok f _ _ _ _ hlt (by omega) h1
            obtain ⟨b1, b2, -⟩ := a4 rfl
            have b2' := b2 (by omega)
            dsimp only at a1 a2 b1 b2'
            obtain ⟨G1, f1, p1, g2⟩ := (ih (md - 6 + 1) op (i + 1) _ L _ h1 hop (by omega) hlt (by omega) hr1).1 D (by omega) (by omega)
            have r1 := p1.1 rfl
            dsimp only at r1
            obtain ⟨G2, f2, c2, g3⟩ := am_m15 (X := X) (D := D - 1) (q := 1001 + u) r1 (by rw [List.length_append]; omega) (am_byt B n i) 0
            rw [hD1] at g3
            have g3' : am_CD X D 15 [.ref 93, .int (nI (am_byt B n i)), .int 0] (am_L0 (1001 + u), G1) = some (none, (am_L0 (1001 + u), G2)) := g3
            by_cases h8 : md = 8
            · have e2t : (nI (md - 6) = 2) = True := e2m.trans (eq_true h8)
              rw [if_pos h8] at h
              cases h
              refine ⟨G2, ((am_frr_at G 3 _).tr f1).tr f2, ⟨fun _ => by rw [List.append_assoc] at c2; exact c2, fun e => by cases e⟩, ?_⟩
              simp only [am_s42_21, am_s42_22, am_s42_24, am_s42_27, am_s42_28, am_s42_31, am_s42_32, am_s42_35, am_s42_36, am_s42_39, am_s42_42, am_s42_43, am_s42_46, am_s42_47, am_s42_50, am_s42_52, am_s42_53, am_s42_53a, am_s42_54, am_s42_57, am_s42_58, am_s42_59, am_s42_62, am_s42_63, am_s42_64, am_s42_65, am_s42_66, am_s42_67, am_s42_70, am_s42_71, am_s42_74, am_s42_76, am_s42_77, am_s42_80, am_s42_81, am_s42_82, am_s42_85, k50, am_f92_4, hft, am_cal_ok am_cat_0 am_v92 (g0), am_cal_ok am_cat_0 am_rcv_f (g1), am_f92_3, am_p92_3, hat, s2, sm, am_cal_ok am_cat_0 am_v92 (g2), am_f92_0, am_cal_ok am_cat_0 am_v93 (g3'), e2t, eq_self, am_os_some, Option.toList_some, Option.toList_none, List.cons_append, List.nil_append, if_true, if_false, true_and, am_nw1_i, am_nw1_r, am_nw1_n, cond_true]
            · rw [if_neg h8] at h
              rcases am_seq_some h with ⟨T2, i2, h2, h⟩ | ⟨T2, i2, h2, rfl⟩
              · obtain ⟨G3, f3, p3, g4⟩ := (ih md op i1 _ _ G2 h2 hop hmd a2 (by rw [List.length_append, List.length_append, List.length_singleton]; omega) c2).2.2 D h6 hD (k + 1) (some (.int (nI (am_byt B n i)))) (by omega)
                cases h
                refine ⟨G3, (((am_frr_at G 3 _).tr f1).tr f2).tr f3, ⟨fun _ => ?_, fun e => by cases e⟩, ?_⟩
                · have := p3.1 rfl
                  simp only [List.append_assoc, List.cons_append, List.nil_append] at this
                  exact this
                · simp only [am_s42_21, am_s42_22, am_s42_24, am_s42_27, am_s42_28, am_s42_31, am_s42_32, am_s42_35, am_s42_36, am_s42_39, am_s42_42, am_s42_43, am_s42_46, am_s42_47, am_s42_50, am_s42_52, am_s42_53, am_s42_53a, am_s42_54, am_s42_57, am_s42_58, am_s42_59, am_s42_62, am_s42_63, am_s42_64, am_s42_65, am_s42_66, am_s42_67, am_s42_70, am_s42_71, am_s42_74, am_s42_76, am_s42_77, am_s42_80, am_s42_81, am_s42_82, am_s42_85, am_s42_86, k50, am_f92_4, hft, am_cal_ok am_cat_0 am_v92 (g0), am_cal_ok am_cat_0 am_rcv_f (g1), am_f92_3, am_p92_3, hat, s2, sm, am_cal_ok am_cat_0 am_v92 (g2), am_f92_0, am_cal_ok am_cat_0 am_v93 (g3'), e2m, h8, eq_self, am_os_some, Option.toList_some, Option.toList_none, List.cons_append, List.nil_append, if_true, if_false, true_and, am_nw1_i, am_nw1_r, am_nw1_n, cond_true]
                  rw [am_s42_89, sk]
                  exact g4
              · obtain ⟨G3, f3, p3, g4⟩ := (ih md op i1 _ _ G2 h2 hop hmd a2 (by rw [List.length_append, List.length_append, List.length_singleton]; omega) c2).2.2 D h6 hD (k + 1) (some (.int (nI (am_byt B n i)))) (by omega)
                refine ⟨G3, (((am_frr_at G 3 _).tr f1).tr f2).tr f3, ⟨(fun e => by cases e), fun _ => p3.2 rfl⟩, ?_⟩
                simp only [am_s42_21, am_s42_22, am_s42_24, am_s42_27, am_s42_28, am_s42_31, am_s42_32, am_s42_35, am_s42_36, am_s42_39, am_s42_42, am_s42_43, am_s42_46, am_s42_47, am_s42_50, am_s42_52, am_s42_53, am_s42_53a, am_s42_54, am_s42_57, am_s42_58, am_s42_59, am_s42_62, am_s42_63, am_s42_64, am_s42_65, am_s42_66, am_s42_67, am_s42_70, am_s42_71, am_s42_74, am_s42_76, am_s42_77, am_s42_80, am_s42_81, am_s42_82, am_s42_85, am_s42_86, k50, am_f92_4, hft, am_cal_ok am_cat_0 am_v92 (g0), am_cal_ok am_cat_0 am_rcv_f (g1), am_f92_3, am_p92_3, hat, s2, sm, am_cal_ok am_cat_0 am_v92 (g2), am_f92_0, am_cal_ok am_cat_0 am_v93 (g3'), e2m, h8, eq_self, am_os_some, Option.toList_some, Option.toList_none, List.cons_append, List.nil_append, if_true, if_false, true_and, am_nw1_i, am_nw1_r, am_nw1_n, cond_true]
                rw [am_s42_89, sk]
                exact g4
          · obtain ⟨a1, a2, -, -⟩ := am_pr_ok f _ _ _ _ hlt (by omega) h1
            dsimp only at a1 a2
            obtain ⟨G1, f1, p1, g2⟩ := (ih (md - 6 + 1) op (i + 1) _ L _ h1 hop (by omega) hlt (by omega) hr1).1 D (by omega) (by omega)
            obtain ⟨G2, f2, c2, g3⟩ := am_m15f (X := X) (D := D - 1) (q := 1001 + u) (p1.2 rfl) (nI (am_byt B n i)) 0
            rw [hD1] at g3
            refine ⟨G2, ((am_frr_at G 3 _).tr f1).tr f2, ⟨(fun e => by cases e), fun _ => c2⟩, ?_⟩
            by_cases h8 : md = 8
            · have e2t : (nI (md - 6) = 2) = True := e2m.trans (eq_true h8)
              simp only [am_s42_21, am_s42_22, am_s42_24, am_s42_27, am_s42_28, am_s42_31, am_s42_32, am_s42_35, am_s42_36, am_s42_39, am_s42_42, am_s42_43, am_s42_46, am_s42_47, am_s42_50, am_s42_52, am_s42_53, am_s42_53a, am_s42_54, am_s42_57, am_s42_58, am_s42_59, am_s42_62, am_s42_63, am_s42_64, am_s42_65, am_s42_66, am_s42_67, am_s42_70, am_s42_71, am_s42_74, am_s42_76, am_s42_77, am_s42_80, am_s42_81, am_s42_82, am_s42_85, k50, am_f92_4, hft, am_cal_ok am_cat_0 am_v92 (g0), am_cal_ok am_cat_0 am_rcv_f (g1), am_f92_3, am_p92_3, hat, s2, sm, am_cal_ok am_cat_0 am_v92 (g2), am_f92_0, am_cal_ok am_cat_0 am_v93 (g3), e2t, eq_self, am_os_some, Option.toList_some, Option.toList_none, List.cons_append, List.nil_append, if_true, if_false, true_and, am_nw1_i, am_nw1_r, am_nw1_n, cond_true]
            · have c21 := c2.1
              have e1 := am_nIm1 (show i1 < 2 ^ 31 by omega)
              have k51 : nI (k + 1) < 50 ∨ ¬ nI (k + 1) < 50 := Decidable.em _
              simp only [am_s42_21, am_s42_22, am_s42_24, am_s42_27, am_s42_28, am_s42_31, am_s42_32, am_s42_35, am_s42_36, am_s42_39, am_s42_42, am_s42_43, am_s42_46, am_s42_47, am_s42_50, am_s42_52, am_s42_53, am_s42_53a, am_s42_54, am_s42_57, am_s42_58, am_s42_59, am_s42_62, am_s42_63, am_s42_64, am_s42_65, am_s42_66, am_s42_67, am_s42_70, am_s42_71, am_s42_74, am_s42_76, am_s42_77, am_s42_80, am_s42_81, am_s42_82, am_s42_85, am_s42_86, k50, am_f92_4, hft, am_cal_ok am_cat_0 am_v92 (g0), am_cal_ok am_cat_0 am_rcv_f (g1), am_f92_3, am_p92_3, hat, s2, sm, am_cal_ok am_cat_0 am_v92 (g2), am_f92_0, am_cal_ok am_cat_0 am_v93 (g3), e2m, h8, eq_self, am_os_some, Option.toList_some, Option.toList_none, List.cons_append, List.nil_append, if_true, if_false, true_and, am_nw1_i, am_nw1_r, am_nw1_n, cond_true]
              rw [am_s42_89, sk]
              rcases k51 with k51 | k51
              · simp only [am_s42_21, am_s42_22, am_s42_24, am_s42_27, am_s42_28, am_s42_31, am_s42_32, am_s42_92, k51, am_f92_4, c21, e1, eq_self, am_os_some, Option.toList_some, Option.toList_none, List.cons_append, List.nil_append, if_true, if_false, true_and, am_nw1_i, am_nw1_r, am_nw1_n, cond_true]
              · simp only [am_s42_21, am_s42_22, am_s42_24, am_s42_92, k51, eq_self, am_os_some, Option.toList_some, Option.toList_none, List.cons_append, List.nil_append, if_true, if_false, true_and, am_nw1_i, am_nw1_r, am_nw1_n, cond_true]
        · rw [if_neg hl] at h
          cases h
          have el : ¬ am_lvi (am_byt B n i) = nI (md - 6) := fun e => hl ((am_lvi_eq (by omega)).mp e)
          refine ⟨G, am_frr.rf G, ⟨fun _ => by rw [List.append_nil]; exact hr, fun e => by cases e⟩, ?_⟩
          simp only [am_s42_21, am_s42_22, am_s42_24, am_s42_27, am_s42_28, am_s42_31, am_s42_32, am_s42_35, am_s42_36, am_s42_39, am_s42_42, am_s42_43, am_s42_92, k50, am_f92_4, hft, am_cal_ok am_cat_0 am_v92 (g0), am_cal_ok am_cat_0 am_rcv_f (g1), el, eq_self, am_os_some, Option.toList_some, Option.toList_none, List.cons_append, List.nil_append, if_true, if_false, true_and, am_nw1_i, am_nw1_r, am_nw1_n, cond_true]
end AMRE
