/-! THE REFERENCE: a TEXT is walked, whole -/
def am_dpr (op : Nat) : Nat := 4 + (5 - op) * 6
def am_wq (u : Nat) (B : Nat → Nat) (n : Nat) (a b c : Int32) (op : Nat) (z : am_T × Nat × Bool) (G' : am_G) (v : Int32) (pre : List Int32) : Prop := (z.2.2 = true → am_ps u B n a b c G' z.2.1 op ∧ ∀ st, am_wo a b c z.1 (pre ++ st) = some (v :: st)) ∧ (z.2.2 = false → am_pf G' z.2.1)
section AMWM
variable {X : am_X} {q : Nat} {u n : Nat} {B : Nat → Nat} {a b c : Int32}
theorem am_q8 {G : am_G} {x : Int32} : am_putM (am_L0 q, G) 114 11 8 (.int x) = some (am_L0 q, am_up G 114 8 x) := rfl
theorem am_q10 {G : am_G} {x : Int32} : am_putM (am_L0 q, G) 114 11 10 (.int x) = some (am_L0 q, am_up G 114 10 x) := rfl
theorem am_wfac {f op i : Nat} {z : am_T × Nat × Bool} {G : am_G} (hu : u < 2) (hop : op ≤ 5) (hi : i ≤ n) (hr : am_ps u B n a b c G i op)
    (ih : ∀ (md op i : Nat) (z : am_T × Nat × Bool) (G : am_G), am_pr u B n f md op i = some z → op ≤ 5 → md ≤ 5 → i ≤ n → am_ps u B n a b c G i op → ∀ D, am_dpr op + 5 - md ≤ D → ∃ (G' : am_G) (v : Int32), am_frp G G' ∧ am_wq u B n a b c op z G' v [] ∧ am_CD X D (am_lvM md) [.ref 114] (am_L0 q, G) = some (some (.int v), (am_L0 q, G')))
    (h : am_pr u B n (f + 1) 5 op i = some z) : ∀ D, am_dpr op ≤ D → ∃ (G' : am_G) (v : Int32), am_frp G G' ∧ am_wq u B n a b c op z G' v [] ∧ am_CD X D 149 [.ref 114] (am_L0 q, G) = some (some (.int v), (am_L0 q, G')) := by
  intro D hD
  obtain ⟨D1, rfl⟩ : ∃ D1, D = D1 + 4 := ⟨D - 4, by unfold am_dpr at hD; omega⟩
  have hn50 := hr.2.2.2.2.2.2.2.2.2
  have hB : ∀ j, j < n → B j < 256 := fun j hj => (hr.2.2.2.2.2.2.2.2.1 j hj).2
  have g0 := am_m144 (X := X) (D := D1 + 2) (q := q) hr hu hi
  have g1 := am_m145 (X := X) (D := D1 + 1) hB (i := i) (w := (am_L0 q, G))
  have hat := hr.2.1
  have hopn := hr.2.2.2.1
  have hgood := hr.2.2.2.2.2.2.2.1
  have s2 : nI i + 1 = nI (i + 1) := nI_add i 1
  have so : nI op + 1 = nI (op + 1) := nI_add op 1
  have e10 : ((1 : Int32) = 0) = False := by decide
  have e40 : ((40 : Int32) = 33) = False := by decide
  have hdep : op < 5 → am_dpr op = am_dpr (op + 1) + 6 := fun h => by unfold am_dpr; omega
  unfold am_pr at h
  rw [if_neg (by decide), if_pos rfl] at h
  by_cases hd : am_dig (am_byt B n i) = true
  · rw [if_pos hd] at h
    rw [hd] at g1
    obtain ⟨G', f1, c1, g2⟩ := am_m147 (X := X) (D := D1) (q := q) hr hu hi
    cases h
    refine ⟨G', _, f1, ⟨fun _ => ⟨c1, fun st => rfl⟩, fun e => by cases e⟩, am_CD_of (M := am_N149) rfl rfl ?_⟩
    show am_Rn _ _ ((Option.some FieldType.int)) am_J149 0 [some (.ref 114), none, none] [] (am_L0 q, G) _
    simp only [am_s149_0, am_s149_1, am_s149_2, am_s149_5, am_s149_8, am_s149_9, am_s149_10, am_s149_13, am_s149_16, am_s149_17, am_s149_20, am_f114_8, hat, am_cal_ok am_cat_0 am_v114 (g0), am_cal_ok am_cat_0 am_rcv_f (g1), am_bI0, reduceCtorEq, am_cal_ok am_cat_0 am_v114 (g2), eq_self, am_os_some, Option.toList_some, Option.toList_none, List.cons_append, List.nil_append, if_true, if_false, true_and, am_nw1_i, am_nw1_r, am_nw1_n, cond_true]
  · rw [if_neg hd] at h
    have hdf : am_dig (am_byt B n i) = false := by
      cases e : am_dig (am_byt B n i) with
      | false => rfl
      | true => exact absurd e hd
    rw [hdf] at g1
    have x33 := am_nxe (i := i) hB (x := 33) (by decide)
    have x40 := am_nxe (i := i) hB (x := 40) (by decide)
    have x33' : (am_nx B n i = 33) = (am_byt B n i = 33) := x33
    have x40' : (am_nx B n i = 40) = (am_byt B n i = 40) := x40
    have gn := am_m148 (X := X) (D := D1 + 1) (q := q) hr hu
    cases hnm : am_nam u (am_byt B n i) with
    | some k =>
      rw [hnm] at h
      cases h
      have n33 : ¬ am_byt B n i = 33 := fun e => by
        rw [e] at hnm
        match u, hu with
        | 0, _ => cases hnm
        | 1, _ => cases hnm
      have n40 : ¬ am_byt B n i = 40 := fun e => by
        rw [e] at hnm
        match u, hu with
        | 0, _ => cases hnm
        | 1, _ => cases hnm
      have g2 := gn.1 k hnm
      refine ⟨_, _, am_frp_up G _ (by omega), ⟨fun _ => ⟨am_ps_at hr (i + 1), fun st => rfl⟩, fun e => by cases e⟩, am_CD_of (M := am_N149) rfl rfl ?_⟩
      show am_Rn _ _ ((Option.some FieldType.int)) am_J149 0 [some (.ref 114), none, none] [] (am_L0 q, G) _
      simp only [am_s149_0, am_s149_1, am_s149_2, am_s149_5, am_s149_8, am_s149_9, am_s149_10, am_s149_13, am_s149_16, am_s149_17, am_s149_20, am_s149_21, am_s149_22, am_s149_24, am_s149_27, am_s149_28, am_s149_30, am_s149_33, am_s149_34, am_s149_35, am_s149_38, am_f114_8, hat, am_cal_ok am_cat_0 am_v114 (g0), am_cal_ok am_cat_0 am_rcv_f (g1), am_bI0, reduceCtorEq, x33', x40', n33, n40, am_cal_ok am_cat_0 am_v114 (g2), eq_self, am_os_some, Option.toList_some, Option.toList_none, List.cons_append, List.nil_append, if_true, if_false, true_and, am_nw1_i, am_nw1_r, am_nw1_n, cond_true]
    | none =>
      rw [hnm] at h
      dsimp only at h
      have gf := am_m146 (X := X) (D := D1 + 2) (q := q) (G := G)
      have pfi : am_pf (am_up G 114 14 0) i := ⟨by rw [am_up_get, if_pos rfl, if_neg (by decide)]; exact hat, by rw [am_up_get, if_pos rfl, if_pos rfl]⟩
      by_cases c33 : am_byt B n i = 33
      · have e33 : am_nx B n i = 33 := x33'.mpr c33
        have hlt : i < n := am_byt_lt (B := B) (by omega)
        rw [e33] at g0 g1
        by_cases co : op < 5
        · rw [if_pos ⟨c33, co⟩] at h
          have eo : ¬ nI op = 5 := fun e => by have := (nI_eq (b := 5) (by omega) (by decide)).mp e; omega
          have hr1 := am_ps_at (am_ps_op hr (op + 1)) (i + 1)
          have k8 : am_up G 114 10 (nI (op + 1)) 114 8 = nI i := by rw [am_up_get, if_pos rfl, if_neg (by decide)]; exact hat
          rcases am_seq_some h with ⟨T1, i1, h1, h⟩ | ⟨T1, i1, h1, rfl⟩
          · obtain ⟨G1, v, f1, p1, g2⟩ := ih 5 (op + 1) (i + 1) _ _ h1 (by omega) (by decide) hlt hr1 (D1 + 3) (by have := hdep co; omega)
            have g2' : am_CD X (D1 + 3) 149 [.ref 114] (am_L0 q, am_up (am_up G 114 10 (nI (op + 1))) 114 8 (nI (i + 1))) = some (some (.int v), (am_L0 q, G1)) := g2
            obtain ⟨r1, w1⟩ := p1.1 rfl
            dsimp only at r1
            have k10 : G1 114 10 = nI (op + 1) := r1.2.2.2.1
            have sp : nI (op + 1) - 1 = nI op := nI_pred op
            cases h
            refine ⟨am_up G1 114 10 (nI op), if v = 0 then 1 else 0, (((am_frp_up G _ (by omega)).tr (am_frp_up _ _ (by omega))).tr f1).tr (am_frp_up G1 _ (by omega)), ⟨fun _ => ⟨am_ps_op r1 op, fun st => ?_⟩, fun e => by cases e⟩, am_CD_of (M := am_N149) rfl rfl ?_⟩
            · show am_wo a b c (T1 ++ [(33, 0)]) st = _
              rw [am_wo_app, show am_wo a b c T1 st = some (v :: st) from w1 st]
              rfl
            · show am_Rn _ _ ((Option.some FieldType.int)) am_J149 0 [some (.ref 114), none, none] [] (am_L0 q, G) _
              by_cases v0 : v = 0
              · simp only [am_s149_0, am_s149_1, am_s149_2, am_s149_5, am_s149_8, am_s149_9, am_s149_10, am_s149_13, am_s149_16, am_s149_17, am_s149_20, am_s149_21, am_s149_22, am_s149_24, am_s149_27, am_s149_28, am_s149_30, am_s149_33, am_s149_34, am_s149_35, am_s149_38, am_s149_39, am_s149_40, am_s149_43, am_s149_44, am_s149_47, am_s149_48, am_s149_51, am_s149_52, am_s149_53, am_s149_53a, am_s149_54, am_s149_57, am_s149_58, am_s149_59, am_s149_62, am_s149_63, am_s149_63a, am_s149_64, am_s149_67, am_s149_68, am_s149_69, am_s149_72, am_s149_73, am_s149_75, am_s149_78, am_s149_79, am_s149_82, am_s149_85, am_s149_86, am_s149_89, am_s149_90, am_s149_91, am_s149_91a, am_s149_92, am_s149_95, am_s149_96, am_s149_97, am_s149_100, am_s149_101, am_s149_103, am_s149_106, am_s149_107, am_s149_110, am_s149_111, am_s149_114, am_s149_115, am_f114_8, am_f114_10, am_q8, am_q10, hat, hopn, k8, k10, sp, eo, s2, so, am_cal_ok am_cat_0 am_v114 (g0), am_cal_ok am_cat_0 am_rcv_f (g1), am_bI0, reduceCtorEq, am_cal_ok am_cat_0 am_v114 (g2'), v0, not_true_eq_false, eq_self, am_os_some, Option.toList_some, Option.toList_none, List.cons_append, List.nil_append, if_true, if_false, true_and, am_nw1_i, am_nw1_r, am_nw1_n, cond_true]
              · simp only [am_s149_0, am_s149_1, am_s149_2, am_s149_5, am_s149_8, am_s149_9, am_s149_10, am_s149_13, am_s149_16, am_s149_17, am_s149_20, am_s149_21, am_s149_22, am_s149_24, am_s149_27, am_s149_28, am_s149_30, am_s149_33, am_s149_34, am_s149_35, am_s149_38, am_s149_39, am_s149_40, am_s149_43, am_s149_44, am_s149_47, am_s149_48, am_s149_51, am_s149_52, am_s149_53, am_s149_53a, am_s149_54, am_s149_57, am_s149_58, am_s149_59, am_s149_62, am_s149_63, am_s149_63a, am_s149_64, am_s149_67, am_s149_68, am_s149_69, am_s149_72, am_s149_73, am_s149_75, am_s149_78, am_s149_79, am_s149_82, am_s149_85, am_s149_86, am_s149_89, am_s149_90, am_s149_91, am_s149_91a, am_s149_92, am_s149_95, am_s149_96, am_s149_97, am_s149_100, am_s149_101, am_s149_103, am_s149_106, am_s149_107, am_s149_110, am_s149_111, am_s149_114, am_s149_115, am_f114_8, am_f114_10, am_q8, am_q10, hat, hopn, k8, k10, sp, eo, s2, so, am_cal_ok am_cat_0 am_v114 (g0), am_cal_ok am_cat_0 am_rcv_f (g1), am_bI0, reduceCtorEq, am_cal_ok am_cat_0 am_v114 (g2'), v0, not_true_eq_false, not_false_eq_true, eq_self, am_os_some, Option.toList_some, Option.toList_none, List.cons_append, List.nil_append, if_true, if_false, true_and, am_nw1_i, am_nw1_r, am_nw1_n, cond_true]
          · obtain ⟨G1, v, f1, p1, g2⟩ := ih 5 (op + 1) (i + 1) _ _ h1 (by omega) (by decide) hlt hr1 (D1 + 3) (by have := hdep co; omega)
            have g2' : am_CD X (D1 + 3) 149 [.ref 114] (am_L0 q, am_up (am_up G 114 10 (nI (op + 1))) 114 8 (nI (i + 1))) = some (some (.int v), (am_L0 q, G1)) := g2
            have r1 := p1.2 rfl
            refine ⟨am_up G1 114 10 (G1 114 10 - 1), if v = 0 then 1 else 0, (((am_frp_up G _ (by omega)).tr (am_frp_up _ _ (by omega))).tr f1).tr (am_frp_up G1 _ (by omega)), ⟨(fun e => by cases e), fun _ => ⟨by rw [am_up_get, if_pos rfl, if_neg (by decide)]; exact r1.1, by rw [am_up_get, if_pos rfl, if_neg (by decide)]; exact r1.2⟩⟩, am_CD_of (M := am_N149) rfl rfl ?_⟩
            show am_Rn _ _ ((Option.some FieldType.int)) am_J149 0 [some (.ref 114), none, none] [] (am_L0 q, G) _
            by_cases v0 : v = 0
            · simp only [am_s149_0, am_s149_1, am_s149_2, am_s149_5, am_s149_8, am_s149_9, am_s149_10, am_s149_13, am_s149_16, am_s149_17, am_s149_20, am_s149_21, am_s149_22, am_s149_24, am_s149_27, am_s149_28, am_s149_30, am_s149_33, am_s149_34, am_s149_35, am_s149_38, am_s149_39, am_s149_40, am_s149_43, am_s149_44, am_s149_47, am_s149_48, am_s149_51, am_s149_52, am_s149_53, am_s149_53a, am_s149_54, am_s149_57, am_s149_58, am_s149_59, am_s149_62, am_s149_63, am_s149_63a, am_s149_64, am_s149_67, am_s149_68, am_s149_69, am_s149_72, am_s149_73, am_s149_75, am_s149_78, am_s149_79, am_s149_82, am_s149_85, am_s149_86, am_s149_89, am_s149_90, am_s149_91, am_s149_91a, am_s149_92, am_s149_95, am_s149_96, am_s149_97, am_s149_100, am_s149_101, am_s149_103, am_s149_106, am_s149_107, am_s149_110, am_s149_111, am_s149_114, am_s149_115, am_f114_8, am_f114_10, am_q8, am_q10, hat, hopn, k8, eo, s2, so, am_cal_ok am_cat_0 am_v114 (g0), am_cal_ok am_cat_0 am_rcv_f (g1), am_bI0, reduceCtorEq, am_cal_ok am_cat_0 am_v114 (g2'), v0, not_true_eq_false, eq_self, am_os_some, Option.toList_some, Option.toList_none, List.cons_append, List.nil_append, if_true, if_false, true_and, am_nw1_i, am_nw1_r, am_nw1_n, cond_true]
            · simp only [am_s149_0, am_s149_1, am_s149_2, am_s149_5, am_s149_8, am_s149_9, am_s149_10, am_s149_13, am_s149_16, am_s149_17, am_s149_20, am_s149_21, am_s149_22, am_s149_24, am_s149_27, am_s149_28, am_s149_30, am_s149_33, am_s149_34, am_s149_35, am_s149_38, am_s149_39, am_s149_40, am_s149_43, am_s149_44, am_s149_47, am_s149_48, am_s149_51, am_s149_52, am_s149_53, am_s149_53a, am_s149_54, am_s149_57, am_s149_58, am_s149_59, am_s149_62, am_s149_63, am_s149_63a, am_s149_64, am_s149_67, am_s149_68, am_s149_69, am_s149_72, am_s149_73, am_s149_75, am_s149_78, am_s149_79, am_s149_82, am_s149_85, am_s149_86, am_s149_89, am_s149_90, am_s149_91, am_s149_91a, am_s149_92, am_s149_95, am_s149_96, am_s149_97, am_s149_100, am_s149_101, am_s149_103, am_s149_106, am_s149_107, am_s149_110, am_s149_111, am_s149_114, am_s149_115, am_f114_8, am_f114_10, am_q8, am_q10, hat, hopn, k8, eo, s2, so, am_cal_ok am_cat_0 am_v114 (g0), am_cal_ok am_cat_0 am_rcv_f (g1), am_bI0, reduceCtorEq, am_cal_ok am_cat_0 am_v114 (g2'), v0, not_true_eq_false, not_false_eq_true, eq_self, am_os_some, Option.toList_some, Option.toList_none, List.cons_append, List.nil_append, if_true, if_false, true_and, am_nw1_i, am_nw1_r, am_nw1_n, cond_true]
        · rw [if_neg (fun hc => co hc.2), if_neg (fun hc => co hc.2)] at h
          cases h
          have eo : nI op = 5 := by rw [show op = 5 by omega]; rfl
          refine ⟨am_up G 114 14 0, 0, am_frp_up G _ (by omega), ⟨(fun e => by cases e), fun _ => pfi⟩, am_CD_of (M := am_N149) rfl rfl ?_⟩
          show am_Rn _ _ ((Option.some FieldType.int)) am_J149 0 [some (.ref 114), none, none] [] (am_L0 q, G) _
          simp only [am_s149_0, am_s149_1, am_s149_2, am_s149_5, am_s149_8, am_s149_9, am_s149_10, am_s149_13, am_s149_16, am_s149_17, am_s149_20, am_s149_21, am_s149_22, am_s149_24, am_s149_27, am_s149_28, am_s149_30, am_s149_33, am_s149_34, am_s149_35, am_s149_38, am_s149_39, am_s149_40, am_s149_43, am_s149_44, am_s149_47, am_s149_48, am_s149_51, am_f114_8, am_f114_10, hat, hopn, eo, am_cal_ok am_cat_0 am_v114 (g0), am_cal_ok am_cat_0 am_rcv_f (g1), am_bI0, reduceCtorEq, am_cal_ok am_cat_0 am_v114 (gf), not_true_eq_false, eq_self, am_os_some, Option.toList_some, Option.toList_none, List.cons_append, List.nil_append, if_true, if_false, true_and, am_nw1_i, am_nw1_r, am_nw1_n, cond_true]
      · rw [if_neg (fun hc => c33 hc.1)] at h
        by_cases c40 : am_byt B n i = 40
        · have e4 : am_nx B n i = 40 := x40'.mpr c40
          have hlt : i < n := am_byt_lt (B := B) (by omega)
          rw [e4] at g0 g1
          by_cases co : op < 5
          · rw [if_pos ⟨c40, co⟩] at h
            have eo : ¬ nI op = 5 := fun e => by have := (nI_eq (b := 5) (by omega) (by decide)).mp e; omega
            have hr1 := am_ps_at (am_ps_op hr (op + 1)) (i + 1)
            have k8 : am_up G 114 10 (nI (op + 1)) 114 8 = nI i := by rw [am_up_get, if_pos rfl, if_neg (by decide)]; exact hat
            rcases am_seq_some h with ⟨T1, i1, h1, h⟩ | ⟨T1, i1, h1, rfl⟩
            · obtain ⟨a1, a2, -, -⟩ := am_pr_ok f _ _ _ _ hlt (by decide) h1
              dsimp only at a2
              obtain ⟨G1, v, f1, p1, g2⟩ := ih 0 (op + 1) (i + 1) _ _ h1 (by omega) (by decide) hlt hr1 (D1 + 3) (by have := hdep co; omega)
              have g2' : am_CD X (D1 + 3) 154 [.ref 114] (am_L0 q, am_up (am_up G 114 10 (nI (op + 1))) 114 8 (nI (i + 1))) = some (some (.int v), (am_L0 q, G1)) := g2
              obtain ⟨r1, w1⟩ := p1.1 rfl
              dsimp only at r1
              have k10 : G1 114 10 = nI (op + 1) := r1.2.2.2.1
              have sp : nI (op + 1) - 1 = nI op := nI_pred op
              have r2 := am_ps_op r1 op
              have k14 := r2.2.2.2.2.2.2.2.1
              have k8b := r2.2.1
              have g3 := am_m144 (X := X) (D := D1 + 2) (q := q) r2 hu a2
              have s3 : nI i1 + 1 = nI (i1 + 1) := nI_add i1 1
              by_cases c41 : am_byt B n i1 = 41
              · rw [if_pos c41] at h
                cases h
                have e41 : am_nx B n i1 = 41 := (am_nx_eq (c := 41) hB (by decide)).mpr c41
                rw [e41] at g3
                refine ⟨_, v, ((((am_frp_up G _ (by omega)).tr (am_frp_up _ _ (by omega))).tr f1).tr (am_frp_up G1 (nI op) (by omega))).tr (am_frp_up _ (nI (i1 + 1)) (by omega)), ⟨fun _ => ⟨am_ps_at r2 (i1 + 1), w1⟩, fun e => by cases e⟩, am_CD_of (M := am_N149) rfl rfl ?_⟩
                show am_Rn _ _ ((Option.some FieldType.int)) am_J149 0 [some (.ref 114), none, none] [] (am_L0 q, G) _
                simp only [am_s149_0, am_s149_1, am_s149_2, am_s149_5, am_s149_8, am_s149_9, am_s149_10, am_s149_13, am_s149_16, am_s149_17, am_s149_20, am_s149_21, am_s149_22, am_s149_24, am_s149_27, am_s149_28, am_s149_30, am_s149_33, am_s149_34, am_s149_35, am_s149_38, am_s149_39, am_s149_40, am_s149_43, am_s149_44, am_s149_47, am_s149_48, am_s149_51, am_s149_52, am_s149_53, am_s149_53a, am_s149_54, am_s149_57, am_s149_58, am_s149_59, am_s149_62, am_s149_63, am_s149_63a, am_s149_64, am_s149_67, am_s149_68, am_s149_69, am_s149_72, am_s149_73, am_s149_75, am_s149_78, am_s149_79, am_s149_82, am_s149_85, am_s149_86, am_s149_89, am_s149_90, am_s149_91, am_s149_91a, am_s149_92, am_s149_95, am_s149_96, am_s149_97, am_s149_100, am_s149_101, am_s149_103, am_s149_106, am_s149_107, am_s149_110, am_s149_111, am_s149_114, am_s149_115, am_s149_116, am_s149_117, am_s149_120, am_s149_123, am_s149_124, am_s149_125, am_s149_128, am_s149_131, am_s149_133, am_s149_136, am_s149_137, am_s149_137a, am_s149_138, am_s149_141, am_s149_142, am_s149_143, am_s149_146, am_s149_147, am_s149_148, am_s149_149, am_s149_152, am_f114_8, am_f114_10, am_f114_14, am_q8, am_q10, hat, hopn, k8, k8b, k14, e10, k10, sp, eo, e40, s2, s3, so, am_cal_ok am_cat_0 am_v114 (g0), am_cal_ok am_cat_0 am_rcv_f (g1), am_bI0, reduceCtorEq, am_cal_ok am_cat_0 am_v114 (g2'), am_cal_ok am_cat_0 am_v114 (g3), not_true_eq_false, not_false_eq_true, eq_self, am_os_some, Option.toList_some, Option.toList_none, List.cons_append, List.nil_append, if_true, if_false, true_and, am_nw1_i, am_nw1_r, am_nw1_n, cond_true]
              · rw [if_neg c41] at h
                cases h
                have e41 : ¬ am_nx B n i1 = 41 := fun e => c41 ((am_nx_eq (c := 41) hB (by decide)).mp e)
                have gf2 := am_m146 (X := X) (D := D1 + 2) (q := q) (G := am_up G1 114 10 (nI op))
                refine ⟨am_up (am_up G1 114 10 (nI op)) 114 14 0, 0, ((((am_frp_up G _ (by omega)).tr (am_frp_up _ _ (by omega))).tr f1).tr (am_frp_up G1 (nI op) (by omega))).tr (am_frp_up _ 0 (by omega)), ⟨(fun e => by cases e), fun _ => ⟨by rw [am_up_get, if_pos rfl, if_neg (by decide)]; exact k8b, by rw [am_up_get, if_pos rfl, if_pos rfl]⟩⟩, am_CD_of (M := am_N149) rfl rfl ?_⟩
                show am_Rn _ _ ((Option.some FieldType.int)) am_J149 0 [some (.ref 114), none, none] [] (am_L0 q, G) _
                simp only [am_s149_0, am_s149_1, am_s149_2, am_s149_5, am_s149_8, am_s149_9, am_s149_10, am_s149_13, am_s149_16, am_s149_17, am_s149_20, am_s149_21, am_s149_22, am_s149_24, am_s149_27, am_s149_28, am_s149_30, am_s149_33, am_s149_34, am_s149_35, am_s149_38, am_s149_39, am_s149_40, am_s149_43, am_s149_44, am_s149_47, am_s149_48, am_s149_51, am_s149_52, am_s149_53, am_s149_53a, am_s149_54, am_s149_57, am_s149_58, am_s149_59, am_s149_62, am_s149_63, am_s149_63a, am_s149_64, am_s149_67, am_s149_68, am_s149_69, am_s149_72, am_s149_73, am_s149_75, am_s149_78, am_s149_79, am_s149_82, am_s149_85, am_s149_86, am_s149_89, am_s149_90, am_s149_91, am_s149_91a, am_s149_92, am_s149_95, am_s149_96, am_s149_97, am_s149_100, am_s149_101, am_s149_103, am_s149_106, am_s149_107, am_s149_110, am_s149_111, am_s149_114, am_s149_115, am_s149_116, am_s149_117, am_s149_120, am_s149_123, am_s149_124, am_s149_125, am_s149_128, am_s149_131, am_s149_133, am_s149_136, am_s149_137, am_s149_137a, am_s149_138, am_s149_141, am_s149_142, am_s149_143, am_s149_146, am_s149_147, am_s149_148, am_s149_149, am_s149_152, am_f114_8, am_f114_10, am_f114_14, am_q8, am_q10, hat, hopn, k8, k8b, k14, e10, k10, sp, eo, e40, s2, so, am_cal_ok am_cat_0 am_v114 (g0), am_cal_ok am_cat_0 am_rcv_f (g1), am_bI0, reduceCtorEq, am_cal_ok am_cat_0 am_v114 (g2'), am_cal_ok am_cat_0 am_v114 (g3), e41, am_cal_ok am_cat_0 am_v114 (gf2), not_true_eq_false, not_false_eq_true, eq_self, am_os_some, Option.toList_some, Option.toList_none, List.cons_append, List.nil_append, if_true, if_false, true_and, am_nw1_i, am_nw1_r, am_nw1_n, cond_true]
            · obtain ⟨G1, v, f1, p1, g2⟩ := ih 0 (op + 1) (i + 1) _ _ h1 (by omega) (by decide) hlt hr1 (D1 + 3) (by have := hdep co; omega)
              have g2' : am_CD X (D1 + 3) 154 [.ref 114] (am_L0 q, am_up (am_up G 114 10 (nI (op + 1))) 114 8 (nI (i + 1))) = some (some (.int v), (am_L0 q, G1)) := g2
              have r1 := p1.2 rfl
              have k14 : am_up G1 114 10 (G1 114 10 - 1) 114 14 = 0 := by rw [am_up_get, if_pos rfl, if_neg (by decide)]; exact r1.2
              have gf2 := am_m146 (X := X) (D := D1 + 2) (q := q) (G := am_up G1 114 10 (G1 114 10 - 1))
              refine ⟨am_up (am_up G1 114 10 (G1 114 10 - 1)) 114 14 0, 0, ((((am_frp_up G _ (by omega)).tr (am_frp_up _ _ (by omega))).tr f1).tr (am_frp_up G1 _ (by omega))).tr (am_frp_up _ 0 (by omega)), ⟨(fun e => by cases e), fun _ => ⟨by rw [am_up_get, if_pos rfl, if_neg (by decide), am_up_get, if_pos rfl, if_neg (by decide)]; exact r1.1, by rw [am_up_get, if_pos rfl, if_pos rfl]⟩⟩, am_CD_of (M := am_N149) rfl rfl ?_⟩
              show am_Rn _ _ ((Option.some FieldType.int)) am_J149 0 [some (.ref 114), none, none] [] (am_L0 q, G) _
              simp only [am_s149_0, am_s149_1, am_s149_2, am_s149_5, am_s149_8, am_s149_9, am_s149_10, am_s149_13, am_s149_16, am_s149_17, am_s149_20, am_s149_21, am_s149_22, am_s149_24, am_s149_27, am_s149_28, am_s149_30, am_s149_33, am_s149_34, am_s149_35, am_s149_38, am_s149_39, am_s149_40, am_s149_43, am_s149_44, am_s149_47, am_s149_48, am_s149_51, am_s149_52, am_s149_53, am_s149_53a, am_s149_54, am_s149_57, am_s149_58, am_s149_59, am_s149_62, am_s149_63, am_s149_63a, am_s149_64, am_s149_67, am_s149_68, am_s149_69, am_s149_72, am_s149_73, am_s149_75, am_s149_78, am_s149_79, am_s149_82, am_s149_85, am_s149_86, am_s149_89, am_s149_90, am_s149_91, am_s149_91a, am_s149_92, am_s149_95, am_s149_96, am_s149_97, am_s149_100, am_s149_101, am_s149_103, am_s149_106, am_s149_107, am_s149_110, am_s149_111, am_s149_114, am_s149_115, am_s149_116, am_s149_117, am_s149_120, am_s149_123, am_s149_124, am_s149_125, am_s149_128, am_s149_131, am_s149_133, am_s149_136, am_s149_137, am_s149_137a, am_s149_138, am_s149_141, am_s149_142, am_s149_143, am_s149_146, am_s149_147, am_s149_148, am_s149_149, am_s149_152, am_f114_8, am_f114_10, am_f114_14, am_q8, am_q10, hat, hopn, k8, k14, eo, e40, s2, so, am_cal_ok am_cat_0 am_v114 (g0), am_cal_ok am_cat_0 am_rcv_f (g1), am_bI0, reduceCtorEq, am_cal_ok am_cat_0 am_v114 (g2'), am_cal_ok am_cat_0 am_v114 (gf2), not_true_eq_false, not_false_eq_true, eq_self, am_os_some, Option.toList_some, Option.toList_none, List.cons_append, List.nil_append, if_true, if_false, true_and, am_nw1_i, am_nw1_r, am_nw1_n, cond_true]
          · rw [if_neg (fun hc => co hc.2)] at h
            cases h
            have eo : nI op = 5 := by rw [show op = 5 by omega]; rfl
            refine ⟨am_up G 114 14 0, 0, am_frp_up G _ (by omega), ⟨(fun e => by cases e), fun _ => pfi⟩, am_CD_of (M := am_N149) rfl rfl ?_⟩
            show am_Rn _ _ ((Option.some FieldType.int)) am_J149 0 [some (.ref 114), none, none] [] (am_L0 q, G) _
            simp only [am_s149_0, am_s149_1, am_s149_2, am_s149_5, am_s149_8, am_s149_9, am_s149_10, am_s149_13, am_s149_16, am_s149_17, am_s149_20, am_s149_21, am_s149_22, am_s149_24, am_s149_27, am_s149_28, am_s149_30, am_s149_33, am_s149_34, am_s149_35, am_s149_38, am_s149_39, am_s149_40, am_s149_43, am_s149_44, am_s149_47, am_s149_48, am_s149_51, am_f114_8, am_f114_10, hat, hopn, eo, e40, am_cal_ok am_cat_0 am_v114 (g0), am_cal_ok am_cat_0 am_rcv_f (g1), am_bI0, reduceCtorEq, am_cal_ok am_cat_0 am_v114 (gf), not_true_eq_false, not_false_eq_true, eq_self, am_os_some, Option.toList_some, Option.toList_none, List.cons_append, List.nil_append, if_true, if_false, true_and, am_nw1_i, am_nw1_r, am_nw1_n, cond_true]
        · rw [if_neg (fun hc => c40 hc.1)] at h
          cases h
          have g2 := gn.2 hnm
          refine ⟨am_up G 114 14 0, 0, am_frp_up G _ (by omega), ⟨(fun e => by cases e), fun _ => pfi⟩, am_CD_of (M := am_N149) rfl rfl ?_⟩
          show am_Rn _ _ ((Option.some FieldType.int)) am_J149 0 [some (.ref 114), none, none] [] (am_L0 q, G) _
          simp only [am_s149_0, am_s149_1, am_s149_2, am_s149_5, am_s149_8, am_s149_9, am_s149_10, am_s149_13, am_s149_16, am_s149_17, am_s149_20, am_s149_21, am_s149_22, am_s149_24, am_s149_27, am_s149_28, am_s149_30, am_s149_33, am_s149_34, am_s149_35, am_s149_38, am_f114_8, hat, am_cal_ok am_cat_0 am_v114 (g0), am_cal_ok am_cat_0 am_rcv_f (g1), am_bI0, reduceCtorEq, x33', x40', c33, c40, am_cal_ok am_cat_0 am_v114 (g2), eq_self, am_os_some, Option.toList_some, Option.toList_none, List.cons_append, List.nil_append, if_true, if_false, true_and, am_nw1_i, am_nw1_r, am_nw1_n, cond_true]
end AMWM
