/-! THE REFERENCE: a TEXT is walked by all levels; what a law gives -/
section AMWN
variable {X : am_X} {q : Nat} {u n : Nat} {B : Nat → Nat} {a b c : Int32}
theorem am_wmain (hu : u < 2) : ∀ (f md op i : Nat) (z : am_T × Nat × Bool) (G : am_G), am_pr u B n f md op i = some z → op ≤ 5 → md < 11 → i ≤ n → am_ps u B n a b c G i op →
    (md ≤ 5 → ∀ D, am_dpr op + 5 - md ≤ D → ∃ (G' : am_G) (v : Int32), am_frp G G' ∧ am_wq u B n a b c op z G' v [] ∧ am_CD X D (am_lvM md) [.ref 114] (am_L0 q, G) = some (some (.int v), (am_L0 q, G'))) ∧
    (6 ≤ md → ∀ D, am_dpr op + 10 - md ≤ D → ∀ v0 : Int32, ∃ (G' : am_G) (v : Int32), am_frp G G' ∧ am_wq u B n a b c op z G' v [v0] ∧ am_RL X D q (md - 6) v0 G (some (.int v), (am_L0 q, G'))) := by
  intro f
  induction f with
  | zero => intro md op i z G h; cases h
  | succ f ih =>
    intro md op i z G h hop hmd hi hr
    have hd4 : 4 ≤ am_dpr op := by unfold am_dpr; omega
    by_cases h5e : md = 5
    · subst h5e
      refine ⟨fun _ D hD => ?_, fun h6 => by omega⟩
      exact am_wfac hu hop hi hr (fun md op i z G h ho hm hi hr D hD => (ih md op i z G h ho (by omega) hi hr).1 hm D hD) h D (by omega)
    · unfold am_pr at h
      by_cases h5 : md < 5
      · rw [if_pos h5] at h
        refine ⟨fun _ D hD => ?_, fun h6 => by omega⟩
        obtain ⟨D1, rfl⟩ : ∃ D1, D = D1 + 1 := ⟨D - 1, by omega⟩
        have em6 : md + 6 - 6 = md := by omega
        rcases am_seq_some h with ⟨T1, i1, h1, h⟩ | ⟨T1, i1, h1, rfl⟩
        · obtain ⟨-, a2, -, -⟩ := am_pr_ok f _ _ _ _ hi (by omega) h1
          dsimp only at a2
          obtain ⟨G1, v1, f1, p1, g1⟩ := (ih (md + 1) op i _ G h1 hop (by omega) hi hr).1 (by omega) D1 (by omega)
          obtain ⟨r1, w1⟩ := p1.1 rfl
          dsimp only at r1 w1
          rcases am_seq_some h with ⟨T2, i2, h2, h⟩ | ⟨T2, i2, h2, rfl⟩
          · obtain ⟨G2, v2, f2, p2, g2⟩ := (ih (md + 6) op i1 _ G1 h2 hop (by omega) a2 r1).2 (by omega) D1 (by omega) v1
            rw [em6] at g2
            obtain ⟨r2, w2⟩ := p2.1 rfl
            dsimp only at r2 w2
            cases h
            refine ⟨G2, v2, f1.tr f2, ⟨fun _ => ⟨r2, fun st => ?_⟩, fun e => by cases e⟩, am_LA h5 g1 g2⟩
            show am_wo a b c (T1 ++ T2) st = _
            rw [am_wo_app, show am_wo a b c T1 st = some (v1 :: st) from w1 st]
            exact w2 st
          · obtain ⟨G2, v2, f2, p2, g2⟩ := (ih (md + 6) op i1 _ G1 h2 hop (by omega) a2 r1).2 (by omega) D1 (by omega) v1
            rw [em6] at g2
            exact ⟨G2, v2, f1.tr f2, ⟨(fun e => by cases e), fun _ => p2.2 rfl⟩, am_LA h5 g1 g2⟩
        · obtain ⟨G1, v1, f1, p1, g1⟩ := (ih (md + 1) op i _ G h1 hop (by omega) hi hr).1 (by omega) D1 (by omega)
          have r1 := p1.2 rfl
          exact ⟨G1, v1, f1, ⟨(fun e => by cases e), fun _ => r1⟩, am_LA h5 g1 (am_LB1 h5 r1.2)⟩
      · rw [if_neg h5, if_neg h5e] at h
        refine ⟨fun h6 => by omega, fun h6 D hD v0 => ?_⟩
        obtain ⟨D1, rfl⟩ : ∃ D1, D = D1 + 1 := ⟨D - 1, by omega⟩
        have hl5 : md - 6 < 5 := by omega
        by_cases hl : am_lvl (am_byt B n i) = md - 6
        · rw [if_pos hl] at h
          have hop2 := am_lvl_op hl hl5
          have hlt := am_byt_lt hop2.2
          have hr1 := am_ps_at hr (i + 1)
          rcases am_seq_some h with ⟨T1, i1, h1, h⟩ | ⟨T1, i1, h1, rfl⟩
          · obtain ⟨-, a2, -, -⟩ := am_pr_ok f _ _ _ _ hlt (by omega) h1
            dsimp only at a2
            obtain ⟨G1, w, f1, p1, g1⟩ := (ih (md - 6 + 1) op (i + 1) _ _ h1 hop (by omega) hlt hr1).1 (by omega) (D1 + 1) (by omega)
            obtain ⟨r1, w1⟩ := p1.1 rfl
            dsimp only at r1 w1
            have fb : am_frp G (am_up G 114 8 (nI (i + 1))) := am_frp_up G _ (by omega)
            have lb := am_LB3 (v := v0) hl5 hr hu hi hl g1
            by_cases h8 : md = 8
            · rw [if_pos h8] at h
              cases h
              have e8 : md - 6 = 2 := by omega
              refine ⟨G1, am_jn (am_byt B n i) v0 w, fb.tr f1, ⟨fun _ => ⟨r1, fun st => ?_⟩, fun e => by cases e⟩, by rw [e8]; exact lb.2 e8⟩
              show am_wo a b c (T1 ++ [(am_byt B n i, 0)]) (v0 :: st) = _
              rw [am_wo_app, show am_wo a b c T1 (v0 :: st) = some (w :: v0 :: st) from w1 (v0 :: st)]
              exact am_wo_op hop2.1 st
            · rw [if_neg h8] at h
              have wo1 : ∀ (T2 : am_T) (st : List Int32), am_wo a b c (T1 ++ (am_byt B n i, 0) :: T2) (v0 :: st) = am_wo a b c T2 (am_jn (am_byt B n i) v0 w :: st) := fun T2 st => by
                rw [show T1 ++ (am_byt B n i, 0) :: T2 = T1 ++ ([(am_byt B n i, 0)] ++ T2) from rfl, am_wo_app, show am_wo a b c T1 (v0 :: st) = some (w :: v0 :: st) from w1 (v0 :: st)]
                dsimp only
                rw [am_wo_app, am_wo_op hop2.1 st]
              rcases am_seq_some h with ⟨T2, i2, h2, h⟩ | ⟨T2, i2, h2, rfl⟩
              · obtain ⟨G2, v2, f2, p2, g2⟩ := (ih md op i1 _ G1 h2 hop hmd a2 r1).2 h6 (D1 + 1) hD (am_jn (am_byt B n i) v0 w)
                obtain ⟨r2, w2⟩ := p2.1 rfl
                dsimp only at r2 w2
                cases h
                refine ⟨G2, v2, (fb.tr f1).tr f2, ⟨fun _ => ⟨r2, fun st => ?_⟩, fun e => by cases e⟩, lb.1 (by omega) _ g2⟩
                show am_wo a b c (T1 ++ (am_byt B n i, 0) :: T2) (v0 :: st) = _
                rw [wo1]
                exact w2 st
              · obtain ⟨G2, v2, f2, p2, g2⟩ := (ih md op i1 _ G1 h2 hop hmd a2 r1).2 h6 (D1 + 1) hD (am_jn (am_byt B n i) v0 w)
                exact ⟨G2, v2, (fb.tr f1).tr f2, ⟨(fun e => by cases e), fun _ => p2.2 rfl⟩, lb.1 (by omega) _ g2⟩
          · obtain ⟨G1, w, f1, p1, g1⟩ := (ih (md - 6 + 1) op (i + 1) _ _ h1 hop (by omega) hlt hr1).1 (by omega) (D1 + 1) (by omega)
            have r1 := p1.2 rfl
            have fb : am_frp G (am_up G 114 8 (nI (i + 1))) := am_frp_up G _ (by omega)
            have lb := am_LB3 (v := v0) hl5 hr hu hi hl g1
            refine ⟨G1, am_jn (am_byt B n i) v0 w, fb.tr f1, ⟨(fun e => by cases e), fun _ => r1⟩, ?_⟩
            by_cases h8 : md = 8
            · have e8 : md - 6 = 2 := by omega
              rw [e8]
              exact lb.2 e8
            · exact lb.1 (by omega) _ (am_LB1 hl5 r1.2)
        · rw [if_neg hl] at h
          cases h
          exact ⟨G, v0, am_frp.rf G, ⟨fun _ => ⟨hr, fun st => rfl⟩, fun e => by cases e⟩, am_LB2 hl5 hr hu hi hl⟩
/-- walks -/
def am_frw (G G' : am_G) : Prop := ∀ i j, (i = 114 → j < 7 ∨ 14 < j) → G' i j = G i j
theorem am_m155 (hu : u < 2) {G : am_G} (hn : n ≤ 50) (hs : G 115 (5 + u) = nI n) (hb : ∀ j, j < n → G 115 (181 + 50 * u + j) = nI (B j) ∧ B j < 256) {z : am_T × Nat × Bool} (hz : am_pr u B n 500 0 0 0 = some z) {D : Nat} : ∃ (G' : am_G) (v : Int32), am_frw G G' ∧ G' 114 8 = nI z.2.1 ∧ G' 114 14 = am_bI (z.2.2 && decide (z.2.1 = n)) ∧ (z.2.2 = true → ∀ st, am_wo a b c z.1 st = some (v :: st)) ∧ am_CD X (D + 45) 155 [.ref 114, .int (nI u), .int a, .int b, .int c] (am_L0 q, G) = some (some (.int v), (am_L0 q, G')) := by
  have hok := am_pr_ok 500 0 0 0 z (Nat.zero_le _) (by decide) hz
  have hin := hok.2.1
  generalize hG1 : am_up (am_up (am_up (am_up (am_up (am_up (am_up (am_up G 114 7 (nI u)) 114 8 0) 114 9 (nI n)) 114 10 0) 114 14 1) 114 11 a) 114 12 b) 114 13 c = G1
  have fr : ∀ i j, (i = 114 → j < 7 ∨ 14 < j) → G1 i j = G i j := fun i j h => by
    rw [← hG1]
    simp only [am_up_get]
    by_cases e : i = 114
    · have := h e
      simp only [e, if_true]
      rw [if_neg (by omega), if_neg (by omega), if_neg (by omega), if_neg (by omega), if_neg (by omega), if_neg (by omega), if_neg (by omega), if_neg (by omega)]
    · simp only [if_neg e]
  have hps : am_ps u B n a b c G1 0 0 := by
    refine ⟨?_, ?_, ?_, ?_, ?_, ?_, ?_, ?_, fun j hj => ?_, hn⟩
    all_goals first
      | (rw [← hG1]; simp only [am_up_get, Nat.reduceEqDiff, if_true, if_false]; done)
      | (rw [← hG1]; simp only [am_up_get, Nat.reduceEqDiff, if_true, if_false]; rfl)
      | (rw [fr _ _ (by omega)]; exact hb j hj)
  obtain ⟨G2, v, f2, p2, g2⟩ := (am_wmain (X := X) (q := q) hu 500 0 0 0 z G1 hz (by decide) (by decide) (Nat.zero_le _) hps).1 (by decide) (D + 44) (by unfold am_dpr; omega)
  have g2' : am_CD X (D + 44) 154 [.ref 114] (am_L0 q, G1) = some (some (.int v), (am_L0 q, G2)) := g2
  have e9 : G2 114 9 = nI n := by rw [f2 114 9 (by omega)]; exact hps.2.2.1
  have e5u : (5 : Int32) + nI u = nI (5 + u) := nI_add 5 u
  have run : ∀ o, am_Rn X (D + 44) (some .int) am_J155 54 [some (.ref 114), some (.int (nI u)), some (.int a), some (.int b), some (.int c), some (.int v)] [] (am_L0 q, G2) o → am_Rn X (D + 44) (some .int) am_J155 0 [some (.ref 114), some (.int (nI u)), some (.int a), some (.int b), some (.int c), none] [] (am_L0 q, G) o := fun o ho => by
    simp only [am_s155_0, am_s155_1, am_s155_2, am_s155_5, am_s155_6, am_s155_7, am_s155_10, am_s155_11, am_s155_12, am_s155_15, am_s155_16, am_s155_17, am_s155_18, am_s155_19, am_s155_22, am_s155_23, am_s155_24, am_s155_27, am_s155_28, am_s155_29, am_s155_32, am_s155_33, am_s155_34, am_s155_37, am_s155_38, am_s155_39, am_s155_42, am_s155_43, am_s155_45, am_s155_48, am_s155_49, am_s155_52, am_p114_7, am_p114_8, am_p114_9, am_p114_10, am_p114_14_1, am_p114_11, am_p114_12, am_p114_13, am_f114_0, e5u, am_r115 (show 5 + u < 281 by omega), am_up_get, Nat.reduceEqDiff, hs, hG1, am_cal_ok am_cat_0 am_v114 (g2'), eq_self, am_os_some, Option.toList_some, Option.toList_none, List.cons_append, List.nil_append, if_true, if_false, true_and, am_nw1_i, am_nw1_r, am_nw1_n, cond_true]
    exact ho
  have fr2 : am_frw G G2 := fun i j h => by rw [f2 i j (by omega)]; exact fr i j h
  have fr3 : ∀ x, am_frw G (am_up G2 114 14 x) := fun x i j h => by
    rw [am_up_get]
    by_cases e : i = 114
    · have := h e
      rw [if_pos e, if_neg (by omega)]
      subst e
      exact fr2 114 j h
    · rw [if_neg e]; exact fr2 i j h
  obtain ⟨T1, i, ok⟩ := z
  dsimp only at hin
  cases ok with
  | false =>
    obtain ⟨p8, p14⟩ := p2.2 rfl
    refine ⟨am_up G2 114 14 0, v, fr3 0, by rw [am_up_get, if_pos rfl, if_neg (by decide)]; exact p8, by rw [am_up_get, if_pos rfl, if_pos rfl]; rfl, (fun e => by cases e), am_CD_of (M := am_N155) rfl rfl (run _ ?_)⟩
    simp only [am_s155_54, am_s155_55, am_s155_56, am_s155_59, am_s155_62, am_s155_63, am_s155_66, am_s155_67, am_s155_70, am_s155_73, am_s155_74, am_s155_77, am_s155_78, am_s155_81, am_s155_83, am_f114_14, p14, am_p114_14_0, eq_self, am_os_some, Option.toList_some, Option.toList_none, List.cons_append, List.nil_append, if_true, if_false, true_and, am_nw1_i, am_nw1_r, am_nw1_n, cond_true]
  | true =>
    obtain ⟨r1, w1⟩ := p2.1 rfl
    have p8 := r1.2.1
    have p14 := r1.2.2.2.2.2.2.2.1
    have c1 : ((1 : Int32) = 0) = False := by decide
    dsimp only at p8
    have ein : (nI i = nI n) = (i = n) := propext (nI_eq (by omega) (by omega))
    by_cases e : i = n
    · refine ⟨am_up G2 114 14 1, v, fr3 1, by rw [am_up_get, if_pos rfl, if_neg (by decide)]; exact p8, by rw [am_up_get, if_pos rfl, if_pos rfl]; simp [am_bI, e], fun _ => w1, am_CD_of (M := am_N155) rfl rfl (run _ ?_)⟩
      simp only [am_s155_54, am_s155_55, am_s155_56, am_s155_59, am_s155_62, am_s155_63, am_s155_66, am_s155_67, am_s155_70, am_s155_73, am_s155_74, am_s155_77, am_s155_78, am_s155_81, am_s155_83, am_f114_14, am_f114_8, am_f114_9, p8, e9, p14, ein, e, c1, not_true_eq_false, am_p114_14_1, eq_self, am_os_some, Option.toList_some, Option.toList_none, List.cons_append, List.nil_append, if_true, if_false, true_and, am_nw1_i, am_nw1_r, am_nw1_n, cond_true]
    · refine ⟨am_up G2 114 14 0, v, fr3 0, by rw [am_up_get, if_pos rfl, if_neg (by decide)]; exact p8, by rw [am_up_get, if_pos rfl, if_pos rfl]; simp [am_bI, e], fun _ => w1, am_CD_of (M := am_N155) rfl rfl (run _ ?_)⟩
      simp only [am_s155_54, am_s155_55, am_s155_56, am_s155_59, am_s155_62, am_s155_63, am_s155_66, am_s155_67, am_s155_70, am_s155_73, am_s155_74, am_s155_77, am_s155_78, am_s155_81, am_s155_83, am_f114_14, am_f114_8, am_f114_9, p8, e9, p14, ein, e, c1, not_true_eq_false, not_false_eq_true, am_p114_14_0, eq_self, am_os_some, Option.toList_some, Option.toList_none, List.cons_append, List.nil_append, if_true, if_false, true_and, am_nw1_i, am_nw1_r, am_nw1_n, cond_true]
/-- what a law gives -/
theorem am_hld_cl0 (v : Int32) : am_hld v 0 1 = am_cl0 v := by
  unfold am_hld am_cl0
  by_cases h : v < 0
  · rw [if_pos h, if_pos (Int32.le_of_lt h)]
  · rw [if_neg h]
    obtain ⟨k, hk, rfl⟩ := nI_of h
    by_cases h0 : k = 0
    · subst h0; decide
    · have a1 : ¬ nI k ≤ 0 := nI_nle (by omega) hk
      rw [if_neg a1]
      by_cases h1 : k = 1
      · subst h1; decide
      · have a2 : ¬ nI k ≤ 1 := nI_ge (a := 1) (by omega) hk
        rw [if_pos a2]
theorem am_m156 (hu : u < 2) {G : am_G} {T : am_T} (hx : am_rx (G 115) u T) {D : Nat} : ∃ G' : am_G, am_frw G G' ∧ am_CD X (D + 46) 156 [.ref 114, .int (nI u), .int a, .int b, .int c] (am_L0 q, G) = some (some (.int (am_lgv u T a b c)), (am_L0 q, G')) := by
  have e5u : (5 : Int32) + nI u = nI (5 + u) := nI_add 5 u
  rcases hx with ⟨rfl, hs⟩ | ⟨B, n, hn, hs, hb, hz⟩
  · have h5 : ((-1 : Int32) < 0) = True := by decide
    have e20 : ((2 : Int32) = 0) = False := by decide
    refine ⟨G, fun _ _ _ => rfl, am_CD_of (M := am_N156) rfl rfl ?_⟩
    show am_Rn _ _ ((Option.some FieldType.int)) am_J156 0 [some (.ref 114), some (.int (nI u)), some (.int a), some (.int b), some (.int c)] [] (am_L0 q, G) _
    match u, hu, hs with
    | 0, _, hs =>
      have e : (nI 0 = 0) = True := by decide
      have es : am_lgv 0 [] a b c = am_hld (a - a / 2 * 2) 0 1 := (am_hld_cl0 _).symm
      rw [es]
      simp only [am_s156_0, am_s156_1, am_s156_4, am_s156_5, am_s156_6, am_s156_7, am_s156_8, am_s156_11, am_s156_12, am_s156_13, am_s156_14, am_s156_15, am_s156_17, am_s156_20, am_s156_21, am_s156_22, am_s156_25, am_s156_26, am_s156_27, am_s156_30, am_s156_31, am_s156_32, am_s156_33, am_s156_34, am_s156_35, am_s156_38, am_s156_41, am_s156_42, am_s156_43, am_s156_46, am_s156_47, am_s156_50, am_s156_51, am_f114_0, e5u, am_r115 (show 5 + 0 < 281 by decide), hs, h5, e, e20, not_true_eq_false, not_false_eq_true, am_cal_ok am_cat_0 am_rcv_f (am_m127 (D := D + 44) _ _ _), eq_self, am_os_some, Option.toList_some, Option.toList_none, List.cons_append, List.nil_append, if_true, if_false, true_and, am_nw1_i, am_nw1_r, am_nw1_n, cond_true]
    | 1, _, hs =>
      have e : (nI 1 = 0) = False := by decide
      by_cases k : a ≤ 3
      · have es : am_lgv 1 [] a b c = 0 := by unfold am_lgv am_lr; simp [k, am_cl0]
        rw [es]
        simp only [am_s156_0, am_s156_1, am_s156_4, am_s156_5, am_s156_6, am_s156_7, am_s156_8, am_s156_11, am_s156_12, am_s156_13, am_s156_14, am_s156_15, am_s156_17, am_s156_20, am_s156_21, am_s156_22, am_s156_25, am_s156_26, am_s156_27, am_s156_30, am_s156_31, am_s156_32, am_s156_33, am_s156_34, am_s156_35, am_s156_38, am_s156_41, am_s156_42, am_s156_43, am_s156_46, am_s156_47, am_s156_50, am_s156_51, am_f114_0, e5u, am_r115 (show 5 + 1 < 281 by decide), hs, h5, e, k, not_true_eq_false, not_false_eq_true, eq_self, am_os_some, Option.toList_some, Option.toList_none, List.cons_append, List.nil_append, if_true, if_false, true_and, am_nw1_i, am_nw1_r, am_nw1_n, cond_true]
      · have es : am_lgv 1 [] a b c = 1 := by unfold am_lgv am_lr; simp [k]; decide
        rw [es]
        simp only [am_s156_0, am_s156_1, am_s156_4, am_s156_5, am_s156_6, am_s156_7, am_s156_8, am_s156_11, am_s156_12, am_s156_13, am_s156_14, am_s156_15, am_s156_17, am_s156_20, am_s156_21, am_s156_22, am_s156_25, am_s156_26, am_s156_27, am_s156_30, am_s156_31, am_s156_32, am_s156_33, am_s156_34, am_s156_35, am_s156_38, am_s156_41, am_s156_42, am_s156_43, am_s156_46, am_s156_47, am_s156_50, am_s156_51, am_f114_0, e5u, am_r115 (show 5 + 1 < 281 by decide), hs, h5, e, k, not_true_eq_false, not_false_eq_true, eq_self, am_os_some, Option.toList_some, Option.toList_none, List.cons_append, List.nil_append, if_true, if_false, true_and, am_nw1_i, am_nw1_r, am_nw1_n, cond_true]
  · have h5 : ¬ nI n < 0 := nI_pos (by omega)
    obtain ⟨G', v, f, -, -, w, g⟩ := am_m155 (X := X) (q := q) (a := a) (b := b) (c := c) hu hn hs hb hz (D := D)
    have hok := am_pr_ok 500 0 0 0 _ (Nat.zero_le _) (by decide) hz
    obtain ⟨-, hlt, -⟩ := hok.2.2.2 rfl
    have hT : T ≠ [] := fun e => by
      subst e
      have := w rfl []
      cases this
    have es : am_lgv u T a b c = am_hld v 0 1 := by
      rw [am_hld_cl0]
      unfold am_lgv am_lr
      cases T with
      | nil => exact absurd rfl hT
      | cons z t =>
        have hw : am_wo a b c (z :: t) [] = some [v] := w rfl []
        simp only [hw]
    refine ⟨G', f, am_CD_of (M := am_N156) rfl rfl ?_⟩
    rw [es]
    show am_Rn _ _ ((Option.some FieldType.int)) am_J156 0 [some (.ref 114), some (.int (nI u)), some (.int a), some (.int b), some (.int c)] [] (am_L0 q, G) _
    simp only [am_s156_0, am_s156_1, am_s156_4, am_s156_5, am_s156_6, am_s156_7, am_s156_8, am_s156_11, am_s156_12, am_s156_13, am_s156_14, am_s156_15, am_s156_17, am_s156_20, am_s156_21, am_s156_22, am_s156_25, am_s156_26, am_s156_27, am_s156_30, am_s156_31, am_s156_32, am_s156_33, am_s156_34, am_s156_35, am_s156_38, am_s156_41, am_s156_42, am_s156_43, am_s156_46, am_s156_47, am_s156_50, am_s156_51, am_f114_0, e5u, am_r115 (show 5 + u < 281 by omega), hs, h5, am_cal_ok am_cat_0 am_v114 (g), am_cal_ok am_cat_0 am_rcv_f (am_m127 (D := D + 44) _ _ _), eq_self, am_os_some, Option.toList_some, Option.toList_none, List.cons_append, List.nil_append, if_true, if_false, true_and, am_nw1_i, am_nw1_r, am_nw1_n, cond_true]
end AMWN
